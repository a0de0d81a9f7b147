/-! THE CALL 'island' -/
theorem IS.hi {M M' : MM} {b : Nat} (h : IS M b) (hb : 14 ≤ b) (e : ∀ a k, 14 ≤ a → gR M' a k = gR M a k) : IS M' b := by
  unfold IS at *
  simp (disch := omega) only [e]
  exact h
theorem JS.lo {M M' : MM} {j : Nat} (h : JS M j) (e : ∀ k, gR M' j k = gR M j k) : JS M' j := by
  unfold JS at *
  simp only [e]
  exact h
theorem CN.cong {M M' : MM} {b : Nat} {n : Nat → Nat} (h : CN M b n) (e : ∀ k, gI M' (b + 8) k = gI M (b + 8) k) : CN M' b n := by
  unfold CN at *
  simp only [e]
  exact h
theorem PI.ci {C R : MM} {sp o : Nat} {nn : Nat → Nat} (h : PI C R sp o nn) (h1 : 1 ≤ nn 0 ∧ 1 ≤ nn 1 ∧ 1 ≤ nn 2) : CI C sp (RD R o) nn :=
  ⟨h.1, h.2.2.1, h.2.2.2.1, h.2.2.2.2.1, h.2.2.2.2.2.1, h.2.2.2.2.2.2.1, h.2.2.2.2.2.2.2, h1⟩
/-- a text without a fault: what the class has then -/
theorem isl_ok {C C' R' : MM} {jo sc ic sp o : Nat} {nn : Nat → Nat} {x : Int32} (hS : ST C jo sc ic sp) (hx : f_X11_island C 1 x = ob (f_X7_empty C' 2) (fun z9 => oc (gR z9 1 5) none (fun b11 => oc (gR z9 1 6) none (fun b12 => oc (gR (pR (pR z9 1 5 (some b12)) 1 6 (some b11)) 1 5) none (fun b13 => ob (f_X0_growTrees (pR (pR z9 1 5 (some b12)) 1 6 (some b11)) b13) (fun z14 => oc (gR z14 1 3) none (fun b15 => ob (f_X1_clear z14 b15) (fun z16 => oc (gR z16 1 2) none (fun b17 => ob (f_X4_clear z16 b17) (fun z18 => oc (gR z18 1 5) none (fun b19 => ob (f_X0_count z18 b19 2) (fun z20 => ob (f_X11_granted z18 1 z20) (fun z21 => some (z21.1, z21.2))))))))))))))
    (hr : C'.2.2 = C.2.2) (hP : PI C' R' sp o nn) (h1 : 1 ≤ nn 0 ∧ 1 ≤ nn 1 ∧ 1 ≤ nn 2) :
    ∃ Cf, f_X11_island C 1 x = some (nI (nn 2), Cf) ∧ ST Cf jo sc sp ic ∧ CI Cf sp (RD R' o) nn ∧ TR Cf sp (RD R' o) nn ∧ gI Cf 1 7 = 0 ∧ gI Cf 4 5 = gI C' 4 5 ∧ gI Cf 2 1 = 0 ∧ gI Cf 8 3 = 0 ∧ gI Cf jo 0 = 0 ∧ gI Cf jo 1 = 0 := by
  have hi := ic14 hS
  have hic := hS.icg
  have gc : ∀ a k, gR C' a k = gR C a k := fun a k => by unfold gR; rw [hr]
  rw [hx]
  unfold f_X7_empty
  rw [ob_s]
  obtain ⟨Z, hZ⟩ : ∃ Z, Z = pI C' 2 1 0 := ⟨_, rfl⟩
  rw [← hZ]
  have gz : ∀ a k, gR Z a k = gR C a k := fun a k => by rw [hZ]; exact gc a k
  have iz : ∀ a k, a ≠ 2 → gI Z a k = gI C' a k := fun a k h => by rw [hZ, gI_pIa h]
  have z21 : gI Z 2 1 = 0 := by rw [hZ, gI_pIs]
  rw [gz, gz, hS.a5, hS.a6, oc_x, oc_x]
  obtain ⟨Y, hY⟩ : ∃ Y, Y = pR (pR Z 1 5 (some sp)) 1 6 (some ic) := ⟨_, rfl⟩
  rw [← hY]
  have gy : ∀ a k, (a ≠ 1 ∨ (k ≠ 5 ∧ k ≠ 6)) → gR Y a k = gR C a k := fun a k h => by rw [hY, gR_pRn (by omega), gR_pRn (by omega), gz]
  have gy5 : gR Y 1 5 = some sp := by rw [hY, gR_pRn (by omega), gR_pRs]
  have gy6 : gR Y 1 6 = some ic := by rw [hY, gR_pRs]
  have iy : ∀ a k, gI Y a k = gI Z a k := fun a k => by rw [hY, gI_pR, gI_pR]
  rw [gy5, oc_x]
  have hc0 := hP.ci h1
  have ey : ∀ a k, 14 ≤ a → gI Y a k = gI C' a k := fun a k h => (iy a k).trans (iz a k (by omega))
  have cY : CI Y sp (RD R' o) nn := ⟨hc0.is.hi hi.2.1 (fun a k h => (gy a k (by omega)).trans (gc a k).symm), hc0.nb, hc0.vd, hc0.ce.congr ey hi.2.1, hc0.cn.congr ey hi.2.1, hc0.ef.congr ey hi.2.1, hc0.dn, hc0.n0⟩
  obtain ⟨V, a1, a2, a3, a4, a5⟩ := trees_c cY
  have gv : ∀ a k, gR V a k = gR Y a k := fun a k => by unfold gR; rw [a2]
  have iv : ∀ a k, a < 14 → gI V a k = gI Z a k := fun a k h => (a5 a k (fun q hq => by omega)).trans (iy a k)
  rw [a1, ob_s, gv, gy 1 3 (by omega), hS.a3, oc_x]
  unfold f_X1_clear
  rw [ob_s, show gR (pI (pI V jo 1 0) jo 0 0) 1 2 = gR V 1 2 from rfl, gv, gy 1 2 (by omega), hS.a2, oc_x]
  unfold f_X4_clear
  rw [ob_s, show gR (pI (pI (pI V jo 1 0) jo 0 0) 8 3 0) 1 5 = gR V 1 5 from rfl, gv, gy5, oc_x]
  have c6 : CI (pI (pI (pI V jo 1 0) jo 0 0) 8 3 0) sp (RD R' o) nn := a3.cong rfl (fun a k h1 h2 h3 => by rw [gI_pIa (by omega), gI_pIa (by omega), gI_pIa (by omega)])
  rw [c6.c2, ob_s]
  unfold f_X11_granted
  rw [ob_s]
  refine ⟨_, rfl, ?_, c6.cong rfl (fun a k h1 h2 h3 => by rw [gI_pIa (by omega)]), fun z i hi2 y hy => ?_, gI_pIs _ _ _ _, ?_, ?_, ?_, ?_, ?_⟩
  · have gf : ∀ a k, gR (pI (pI (pI (pI V jo 1 0) jo 0 0) 8 3 0) 1 7 0) a k = gR Y a k := fun a k => gv a k
    have g14 : ∀ a k, 14 ≤ a → gR (pI (pI (pI (pI V jo 1 0) jo 0 0) 8 3 0) 1 7 0) a k = gR C a k := fun a k h => (gf a k).trans (gy a k (by omega))
    refine ⟨?_, ?_, ?_, ?_, ?_, (gf 1 5).trans gy5, (gf 1 6).trans gy6, ?_, ?_, ?_, ?_, ?_, ?_, ?_, ?_, hS.i1.hi (by decide) g14, hS.i2.hi (by decide) g14, hS.joc, ?_⟩
    · rw [gf, gy _ _ (by omega)]; exact hS.a0
    · rw [gf, gy _ _ (by omega)]; exact hS.a1
    · rw [gf, gy _ _ (by omega)]; exact hS.a2
    · rw [gf, gy _ _ (by omega)]; exact hS.a3
    · rw [gf, gy _ _ (by omega)]; exact hS.a4
    · rw [gf, gy _ _ (by omega)]; exact hS.t0
    · rw [gf, gy _ _ (by omega)]; exact hS.r0
    · rw [gf, gy _ _ (by omega)]; exact hS.r1
    · rw [gf, gy _ _ (by omega)]; exact hS.r2
    · rw [gf, gy _ _ (by omega)]; exact hS.r3
    · rw [gf, gy _ _ (by omega)]; exact hS.g0
    · rw [gf, gy _ _ (by omega)]; exact hS.g1
    · rw [gf, gy _ _ (by omega)]; exact hS.g2
    · rcases hS.icc with ⟨e1, e2⟩ | ⟨e1, e2⟩
      · exact Or.inr ⟨e2, e1⟩
      · exact Or.inl ⟨e2, e1⟩
  · rw [gI_pIa (by omega), gI_pIa (by omega), gI_pIa (by omega), gI_pIa (by omega)]
    exact a4 z i hi2 y hy
  · rw [gI_pIa (by omega), gI_pIa (by omega), gI_pIa (by omega), gI_pIa (by omega), iv 4 5 (by decide), iz 4 5 (by decide)]
  · rw [gI_pIa (by omega), gI_pIa (by omega), gI_pIa (by omega), gI_pIa (by omega), iv 2 1 (by decide)]
    exact z21
  · rw [gI_pIa (by omega), gI_pIs]
  · rw [gI_pIa (by omega), gI_pIa (by omega), gI_pIs]
  · rw [gI_pIa (by omega), gI_pIa (by omega), gI_pIk (by decide), gI_pIs]
/-- island -/
theorem t_island {C R : MM} (h : TOP C R) (x : Int32) {top : Nat} (ht : 123 ≤ top) (hb : ∀ j, gR R 118 3 = some j → JS R j → j + 31 ≤ top) : FT C R (f_X11_island C 1 x) (f_X13_island R 118 x top) := by
  have h0 := h
  obtain ⟨jo, sc, ic, sp, hS, hR, hQ, hP, hV, hD, hI⟩ := h
  obtain ⟨t, t9, ct, rt, hk⟩ := hP
  have hi := ic14 hS
  have hic := hS.icg
  have r6 : gI (pI R 118 0 0) 118 6 = nI t := (gI_pIk (by decide)).trans rt
  by_cases hneg : x < 0
  · refine (QQ.mk (-1) 2 (by decide) ?_ ?_).top h0
    · unfold f_X11_island f_X11_refused
      rw [if_pos hneg, ob_s]
    · unfold f_X13_island f_X13_refused
      rw [if_pos hneg, ob_s]
      rfl
  obtain ⟨n, hn, rfl⟩ := nI_of hneg
  by_cases hle : ¬ nI n ≤ nI t
  · refine (QQ.mk (-1) 2 (by decide) ?_ ?_).top h0
    · unfold f_X11_island f_X11_refused
      rw [if_neg hneg, hS.a0, oc_x, ct, if_neg hle, ob_s]
    · unfold f_X13_island f_X13_refused
      rw [if_neg hneg, r6, if_neg hle, ob_s]
      rfl
  have hle : nI n ≤ nI t := Decidable.not_not.mp hle
  have hnt : n ≤ t := (nI_leI (by omega) (by omega)).mp hle
  obtain ⟨C', R4, R', v, d1, d2, d3, d4, d5, d6, d7, d8, d9⟩ := isl_read (o := top + 1) hS hR.1 hnt t9 hk (by omega)
  have gc : ∀ a k, gR C' a k = gR C a k := fun a k => by unfold gR; rw [d4]
  have gr : ∀ a k, gR R' a k = gR (beg R (nI n) (top + 1)) a k := fun a k => by unfold gR; rw [d6]
  have ex : f_X11_island C 1 (nI n) = ob (f_X7_empty C' 2) (fun z9 => if v = 0 then (ob (f_X11_refused z9 1 4) (fun z22 => some (z22.1, z22.2))) else (oc (gR z9 1 5) none (fun b11 => oc (gR z9 1 6) none (fun b12 => oc (gR (pR (pR z9 1 5 (some b12)) 1 6 (some b11)) 1 5) none (fun b13 => ob (f_X0_growTrees (pR (pR z9 1 5 (some b12)) 1 6 (some b11)) b13) (fun z14 => oc (gR z14 1 3) none (fun b15 => ob (f_X1_clear z14 b15) (fun z16 => oc (gR z16 1 2) none (fun b17 => ob (f_X4_clear z16 b17) (fun z18 => oc (gR z18 1 5) none (fun b19 => ob (f_X0_count z18 b19 2) (fun z20 => ob (f_X11_granted z18 1 z20) (fun z21 => some (z21.1, z21.2)))))))))))))) := by
    unfold f_X11_island
    rw [if_neg hneg, hS.a0, oc_x, ct, if_pos hle, hS.a1, oc_x, hS.a6, oc_x, d1, ob_s]
    dsimp only
    rw [gc, hS.a0, oc_x]
  have ey : f_X13_island R 118 (nI n) top = (if (gI R' 118 13) ≤ 0 then (oc (gR R' 118 4) (none) (fun b4 => oc (gR (pI (pI (pI (pR R' 118 3 (some b4)) 118 17 (-1)) 118 25 0) 118 16 0) 118 3) (none) (fun b5 => ob (f_X13_done (pI (pI (pI (pR R' 118 3 (some b4)) 118 17 (-1)) 118 25 0) 118 16 0) 118 (gI (pI (pI (pI (pR R' 118 3 (some b4)) 118 17 (-1)) 118 25 0) 118 16 0) b5 2)) (fun z6 => some (z6.1, z6.2))))) else (some ((-1), pI (pI R' 118 1 4) 118 2 (gI (pI R' 118 1 4) 118 14)))) := by
    unfold f_X13_island
    rw [if_neg hneg, r6, if_pos hle]
    show ob (f_X13_goesOn (beg R (nI n) (top + 1)) 118) _ = _
    rw [d2, ob_s, d3, ob_s]
  have jR : ∀ k, k ≠ 4 → gR R' 118 k = gR R 118 k := fun k h => by rw [gr, beg_R (by omega) (by omega)]
  have j4 : gR R' 118 4 = some (top + 1) := by rw [gr]; exact beg_4 _ _ _
  rcases d9 with ⟨rfl, e4, e13, nn, hPI, n0⟩ | ⟨rfl, D⟩
  · -- read
    simp only [if_neg (show ¬ (1 : Int32) = 0 by decide)] at ex
    obtain ⟨Cf, f1, fS, fC, fT, f17, f45, f21, f83, fj0, fj1⟩ := isl_ok hS ex d4 hPI n0
    obtain ⟨Rf, hRf⟩ : ∃ Rf, Rf = pI (pI (pI (pI (pI (pR R' 118 3 (some (top + 1))) 118 17 (-1)) 118 25 0) 118 16 0) 118 1 0) 118 2 (-1) := ⟨_, rfl⟩
    have gf : ∀ a k, (a ≠ 118 ∨ k ≠ 3) → gR Rf a k = gR R' a k := fun a k h => by
      rw [hRf]
      exact gR_pRn (by omega)
    have gf3 : gR Rf 118 3 = some (top + 1) := by rw [hRf]; exact gR_pRs _ _ _ _
    have jf : ∀ a k, a ≠ 118 → gI Rf a k = gI R' a k := fun a k h => by rw [hRf, gI_pIa h, gI_pIa h, gI_pIa h, gI_pIa h, gI_pIa h, gI_pR]
    have jk : ∀ k, k ≠ 17 → k ≠ 25 → k ≠ 16 → k ≠ 1 → k ≠ 2 → gI Rf 118 k = gI R' 118 k := fun k h1 h2 h3 h4 h5 => by rw [hRf, gI_pIk h5, gI_pIk h4, gI_pIk h3, gI_pIk h2, gI_pIk h1, gI_pR]
    have k1 : gI Rf 118 1 = 0 := by rw [hRf, gI_pIk (by decide), gI_pIs]
    have k2 : gI Rf 118 2 = -1 := by rw [hRf, gI_pIs]
    have k16 : gI Rf 118 16 = 0 := by rw [hRf, gI_pIk (by decide), gI_pIk (by decide), gI_pIs]
    have k25 : gI Rf 118 25 = 0 := by rw [hRf, gI_pIk (by decide), gI_pIk (by decide), gI_pIk (by decide), gI_pIs]
    have k17 : gI Rf 118 17 = -1 := by rw [hRf, gI_pIk (by decide), gI_pIk (by decide), gI_pIk (by decide), gI_pIk (by decide), gI_pIs]
    have dn2 : gI R' (top + 1) 2 = nI (nn 2) := hPI.dn.2.2.1
    have v2 : gI (pI (pI (pI (pR R' 118 3 (some (top + 1))) 118 17 (-1)) 118 25 0) 118 16 0) (top + 1) 2 = nI (nn 2) := by
      rw [gI_pIa (by omega), gI_pIa (by omega), gI_pIa (by omega), gI_pR]
      exact dn2
    have ey2 : f_X13_island R 118 (nI n) top = some (nI (nn 2), Rf) := by
      rw [ey, e13, if_pos (Int32.le_refl _), j4, oc_x, show gR (pI (pI (pI (pR R' 118 3 (some (top + 1))) 118 17 (-1)) 118 25 0) 118 16 0) 118 3 = some (top + 1) from gR_pRs _ _ _ _, oc_x, v2, f_X13_done, ob_s, hRf]
    refine ⟨nI (nn 2), Cf, Rf, f1, ey2, jo, sc, sp, ic, fS, ⟨?_, ?_, ?_, ?_⟩, ⟨?_, ?_, ?_⟩, ⟨0, by omega, f21, ?_, fun k hk => absurd hk (Nat.not_lt_zero k)⟩, ⟨0, by omega, f83, k25, fun k hk => absurd hk (Nat.not_lt_zero k)⟩, ⟨0, by omega, fj0, k16⟩, Or.inr ⟨top + 1, RD R' (top + 1), nn, fC, ⟨gf3, ?_, by omega, fun c i hc => ?_⟩, fT, Or.inl ⟨fj1, k17⟩⟩⟩
    · rw [gf _ _ (by omega), jR _ (by decide)]; exact hR.1
    · rw [gf _ _ (by omega), jR _ (by decide)]; exact hR.2.1
    · rw [gf _ _ (by omega), jR _ (by decide)]; exact hR.2.2.1
    · rw [gf _ _ (by omega), jR _ (by decide)]; exact hR.2.2.2
    · rw [f17, k1]
    · rw [f45, e4, jk 13 (by decide) (by decide) (by decide) (by decide) (by decide), e13]
    · rw [k2, f17, if_neg (by decide)]
    · rw [jk 6 (by decide) (by decide) (by decide) (by decide) (by decide)]; exact d8
    · exact ((beg_js (R := R) (x := nI n) (o := top + 1) (by omega)).congr d6).lo (fun k => gf _ _ (by omega))
    · exact jf _ _ (by omega)
  · -- a fault
    unfold f_X7_empty f_X11_refused at ex
    rw [ob_s, if_pos rfl, ob_s] at ex
    have hpos : ¬ gI R' 118 13 ≤ 0 := fun z => absurd (Int32.lt_of_lt_of_le (D.2.1 ▸ D.2.2.2.1.2) z) Int32.lt_irrefl
    rw [if_neg hpos] at ey
    obtain ⟨Cf, hCf⟩ : ∃ Cf, Cf = pI (pI C' 2 1 0) 1 7 4 := ⟨_, rfl⟩
    obtain ⟨Rf, hRf⟩ : ∃ Rf, Rf = pI (pI R' 118 1 4) 118 2 (gI (pI R' 118 1 4) 118 14) := ⟨_, rfl⟩
    have cf : ∀ a k, a ≠ 2 → a ≠ 4 → a ≠ 6 → a ≠ 7 → (a < sp ∨ sp + 52 ≤ a) → (a ≠ 1 ∨ k ≠ 7) → gI Cf a k = gI C a k := fun a k h1 h2 h3 h4 h5 h6 => by
      rw [hCf, gI_pIn (by omega), gI_pIa h1]
      exact d5 a k h1 h2 h3 h4 h5
    have rf : ∀ a k, a ≤ top → (a ≠ 118 ∨ 14 < k) → gI Rf a k = gI R a k := fun a k h1 h2 => by
      rw [hRf, gI_pIn (by omega), gI_pIn (by omega)]
      exact d7 a k (by omega) (by omega)
    have gcf : Cf.2.2 = C.2.2 := by rw [hCf]; exact d4
    have grf : ∀ a k, a ≤ top → (a ≠ 118 ∨ k ≠ 4) → gR Rf a k = gR R a k := fun a k h1 h2 => by
      rw [hRf]
      exact (gr a k).trans (beg_R (by omega) h2)
    refine ⟨-1, Cf, Rf, by rw [ex, hCf], by rw [ey, hRf], jo, sc, ic, sp, hS.congr gcf, ⟨?_, ?_, ?_, ?_⟩, ⟨?_, ?_, ?_⟩, ⟨0, by omega, ?_, ?_, fun k hk => absurd hk (Nat.not_lt_zero k)⟩, ?_, ?_, ?_⟩
    · rw [grf _ _ (by omega) (by omega)]; exact hR.1
    · rw [grf _ _ (by omega) (by omega)]; exact hR.2.1
    · rw [grf _ _ (by omega) (by omega)]; exact hR.2.2.1
    · rw [grf _ _ (by omega) (by omega)]; exact hR.2.2.2
    · rw [hCf, hRf, gI_pIs, gI_pIk (by decide), gI_pIs]
    · rw [hCf, hRf, gI_pIa (by decide), gI_pIa (by decide), gI_pIk (by decide), gI_pIk (by decide)]
      exact D.2.1
    · rw [hCf, hRf, gI_pIs, gI_pIs, if_pos rfl, gI_pIk (by decide), gI_pIa (by decide), gI_pIa (by decide)]
      exact D.2.2.2.1.1.symm
    · rw [hCf, gI_pIa (by decide), gI_pIs]; rfl
    · rw [hRf, gI_pIk (by decide), gI_pIk (by decide), d8]; rfl
    · unfold SR at *
      simp (disch := omega) only [cf, rf]
      exact hV
    · unfold SD at *
      simp (disch := omega) only [cf, rf]
      exact hD
    · have y0 : ∀ k, gI Cf ic k = gI C ic k := fun k => cf _ _ (by omega) (by omega) (by omega) (by omega) (by omega) (by omega)
      have y8 : ∀ k, gI Cf (ic + 8) k = gI C (ic + 8) k := fun k => cf _ _ (by omega) (by omega) (by omega) (by omega) (by omega) (by omega)
      unfold IJ JN JB at *
      rcases hI with ⟨h1, h2, h3⟩ | ⟨j, D', nn, h1, h2, h3, h5⟩
      · refine Or.inl ⟨⟨h1.1.congr gcf, h1.2.1.cong y8, (y0 8).trans h1.2.2⟩, (grf 118 3 (by omega) (by omega)).trans h2, ?_⟩
        simp (disch := omega) only [cf, rf]
        exact h3
      · have hj31 := hb j h2.j h2.s
        have hj123 := h2.g
        have n5 := h1.nb.2.2.2.2.1
        refine Or.inr ⟨j, D', nn, h1.cong gcf (fun a k q1 q2 q3 => cf a k (by omega) (by omega) (by omega) (by omega) (by omega) (by omega)), ⟨(grf 118 3 (by omega) (by omega)).trans h2.j, h2.s.lo (fun k => grf _ _ (by omega) (by omega)), h2.g, fun c i hc => (rf _ _ (by omega) (by omega)).trans (h2.d c i hc)⟩, fun z i hi2 y hy => (cf _ _ (by omega) (by omega) (by omega) (by omega) (by omega) (by omega)).trans (h3 z i hi2 y hy), ?_⟩
        simp (disch := omega) only [cf, rf]
        exact h5
