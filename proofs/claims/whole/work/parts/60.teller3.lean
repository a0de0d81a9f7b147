/-! THE LINES, on: 'teller' -/
theorem eats_w {R : MM} {t : Nat} (ht : t < 57) (h1 : t ∉ [0, 1, 6, 11, 12, 19, 29]) : f_X13_eatsWord R 118 t = if wsel R t = -1 then some (0, R) else ob (f_X13_goesOn R 118) (fun z => some (1, z)) := by
  unfold f_X13_eatsWord
  rw [isWord_r R ht, ob_s, wsel_one ht h1]
  by_cases e : gI R 118 9 = 2
  · rw [if_pos e, if_pos e]
    by_cases e2 : cd t = gL R 118 15
    · rw [if_pos e2, if_pos e2, if_neg (by decide), if_neg (by decide)]
    · rw [if_neg e2, if_neg e2, if_pos rfl, if_pos rfl]
  · rw [if_neg e, if_neg e, if_pos rfl, if_pos rfl]
theorem tl_w {R : MM} {jr i : Nat} (h4 : gR R 118 4 = some jr) (hJ : JS R jr) (h6 : gI R jr 6 = nI i) (hi : i < 3) (h9 : ¬ gI R 118 9 = 5) (x w : Int32) :
    (if (gI (x, R).2 118 9) = 5 then (some (x, R).2) else (oc (gR (x, R).2 118 4) (none) (fun b34 => oc (gR (x, R).2 b34 39) none (fun b35 => oc (gR (x, R).2 118 4) (none) (fun b36 => chk (gI (x, R).2 b36 6 < 0 ∨ 3 ≤ ix (gI (x, R).2 b36 6)) (oc (gR (pI (x, R).2 b35 (ix (gI (x, R).2 b36 6)) w) 118 4) (none) (fun b38 => oc (gR (pI (x, R).2 b35 (ix (gI (x, R).2 b36 6)) w) b38 44) none (fun b39 => oc (gR (pI (x, R).2 b35 (ix (gI (x, R).2 b36 6)) w) 118 4) (none) (fun b40 => chk (gI (pI (x, R).2 b35 (ix (gI (x, R).2 b36 6)) w) b40 6 < 0 ∨ 3 ≤ ix (gI (pI (x, R).2 b35 (ix (gI (x, R).2 b36 6)) w) b40 6)) (oc (gR (pI (pI (x, R).2 b35 (ix (gI (x, R).2 b36 6)) w) b39 (ix (gI (pI (x, R).2 b35 (ix (gI (x, R).2 b36 6)) w) b40 6)) (x, R).1) 118 4) (none) (fun b42 => some (pI (pI (pI (x, R).2 b35 (ix (gI (x, R).2 b36 6)) w) b39 (ix (gI (pI (x, R).2 b35 (ix (gI (x, R).2 b36 6)) w) b40 6)) (x, R).1) b42 6 ((gI (pI (pI (x, R).2 b35 (ix (gI (x, R).2 b36 6)) w) b39 (ix (gI (pI (x, R).2 b35 (ix (gI (x, R).2 b36 6)) w) b40 6)) (x, R).1) b42 6) + 1))))))))))))) =
    some (pI (pI (pI R (jr + 23) i w) (jr + 28) i x) jr 6 (nI (i + 1))) := by
  dsimp only
  rw [if_neg h9]
  have y1 : ∀ (M : MM) (k : Nat) (v : Int32), gI (pI M (jr + 23) k v) jr 6 = gI M jr 6 := fun M k v => gI_pIa (by omega)
  have y2 : ∀ (M : MM) (k : Nat) (v : Int32), gI (pI M (jr + 28) k v) jr 6 = gI M jr 6 := fun M k v => gI_pIa (by omega)
  simp only [gR_I, h4, oc_x, hJ.k39, hJ.k44, h6, y1, y2, ix_n (show i < 2147483648 by omega), chk_m hi (show 3 < 2147483648 by decide), nI_1]
theorem tl_ref {R : MM} {jr i f : Nat} (h4 : gR R 118 4 = some jr) (hJ : JS R jr) (h6 : gI R jr 6 = nI i) (hi : i < 3) (h9 : ¬ gI R 118 9 = 5) (hw : wsel R 23 = -1) (w : Int32) :
    f_X13_readTeller_L59_1 (f + 1) R 118 w 0 = some (pI (pI (pI R (jr + 23) i w) (jr + 28) i 0) jr 6 (nI (i + 1))) := by
  rw [f_X13_readTeller_L59_1, if_pos rfl, eats_w (show 23 < 57 by decide) (by decide), if_pos hw, ob_s]
  exact tl_w h4 hJ h6 hi h9 0 w
theorem tl_ref2 {R R1 : MM} {jr i f : Nat} (hw : wsel R 23 ≠ -1) (hg : f_X13_goesOn R 118 = some R1) (h4 : gR R1 118 4 = some jr) (hJ : JS R1 jr) (h6 : gI R1 jr 6 = nI i) (hi : i < 3) (h9 : ¬ gI R1 118 9 = 5) (w : Int32) :
    f_X13_readTeller_L59_1 (f + 1) R 118 w 0 = some (pI (pI (pI R1 (jr + 23) i w) (jr + 28) i 1) jr 6 (nI (i + 1))) := by
  rw [f_X13_readTeller_L59_1, if_pos rfl, eats_w (show 23 < 57 by decide) (by decide), if_neg hw, hg, ob_s, ob_s]
  exact tl_w h4 hJ h6 hi h9 1 w
/-- 'teller' -/
theorem line_teller {C R : MM} {jr sp n s : Nat} {nn : Nat → Nat} (hF : RF C R jr) (hA : AL C R n s) (hP : PI C R sp jr nn) (hN : NM C R jr nn (tot nn)) (hw : wsel R 0 = 5) : ∃ C' R', f_X2_readLine C 4 sp = some C' ∧ f_X13_readTeller R 118 = some R' ∧ LO C R C' R' sp jr n s := by
  have hj : 123 < jr := hF.2.2.2.2.2.2.2.2
  have hJ := hF.2.2.2.2.2.2.2.1
  obtain ⟨hs, hs2⟩ := hP.2.1
  have hw1 : wsel R 0 ≠ -1 := by rw [hw]; decide
  have hcn : gI C (sp + 8) 5 = nI (nn 5) := hP.cn.2.2.2.2.2.1
  have hdn : gI R jr 6 = nI (nn 5) := hP.dn.2.2.2.2.2.1
  have hm4 : nn 5 ≤ 3 := hP.nb.2.2.2.2.2.1
  unfold f_X2_readLine
  rw [hF.1, oc_x, hA.among (show 0 < 57 by decide), ob_s, hw, if_neg (show ¬ (5 : Int32) = -1 by decide)]
  rcases Nat.lt_or_ge (nn 5) 3 with hm | hm
  · obtain ⟨Ca, Ra, C2, R2, a1, a2, a3, a4, a5, a6, a7, hF2, q2, r2, nc2, nr2, s2, z2, f2⟩ := front (k := 5) hF hA hs hN (tot_lt hP.nb (k := 5) (by decide) hm) (by decide) hw1
    have ad : f_X0_add C sp 5 = some (nI (nn 5), pI C (sp + 8) 5 (nI (nn 5 + 1))) := add_s (k := 5) hP.1 hcn (by decide) hm
    have a6' : f_X2_tellName Ca 4 5 (nI (nn 5)) = some C2 := a6
    have a7' : f_X13_readFresh Ra 118 2 (nI (nn 5)) = some R2 := a7
    rw [ad, ob_s, if_neg (nI_m1 (by omega)), show gR (pI C (sp + 8) 5 (nI (nn 5 + 1))) 4 0 = some 2 from hF.1, oc_x, a1, ob_s, if_neg (show ¬ (7 : Int32) ≤ 5 by decide), a6', ob_s, if_neg (show ¬ (5 : Int32) = 0 by decide), if_neg (show ¬ (5 : Int32) = 1 by decide), if_neg (show ¬ (5 : Int32) = 2 by decide), if_neg (show ¬ (5 : Int32) = 3 by decide), if_neg (show ¬ (5 : Int32) = 4 by decide), if_pos rfl]
    have w2 : f_X0_tellerAt C2 sp (nI (nn 5)) = some (some (sp + (44 + nn 5))) := tellerAt_s (hP.1.congr q2.1) (n := nn 5 + 1) (by rw [q2.e _ _ (by omega), gI_pIs]) (by omega) (by omega)
    rw [w2, ob_s, oc_x]
    unfold f_X2_readTeller
    rw [oc_x]
    obtain ⟨C3, v3, v3', R3, b3, c3, p3, p3', s3, z3, f3⟩ := p_part hF2 z2 (show 21 < 57 by decide) (by decide) (l := 0) (u := 999) (l' := 0) (u' := 999) (fun _ => ⟨rfl, rfl⟩)
    have hF3 := hF2.congr p3.1 p3'.1
    obtain ⟨C4, v4, R4, b4, c4, p4, p4', s4, z4, f4⟩ := p_need hF3 z3 (show 22 < 57 by decide) (by decide)
    have hF4 := hF3.congr p4.1 p4'.1
    rw [b3, ob_s, b4, ob_s]
    dsimp only
    have hR0 : f_X13_readTeller R 118 = if gI R4 118 9 = 5 then (f_X13_readTeller_L59 FU R4 118 0 0) else (f_X13_readTeller_L59_1 FU R4 118 0 1) := by
      unfold f_X13_readTeller
      have bg : f_X13_begins R 118 (nI (nn 5)) 3 = ob (f_X13_goesOn R 118) (fun z => some z) := begins_s (c := 3) hm (by decide)
      rw [hF.2.2.2.2.2.1, oc_x, hdn, bg, a2, ob_s, ob_s, a4, oc_x, a5 6, hdn, a7', ob_s, c3, ob_s, c4, ob_s]
    rw [hR0]
    have e4 := (p4.e).tr ((p3.e).tr q2.e)
    have k4 : KC C C4 sp := ((((KC.rf C sp).pI (a := sp + 8) (by omega) 5 (nI (nn 5 + 1))).tr (q2.k sp)).tr (p3.q.k sp)).tr (p4.q.k sp)
    have ej4 : EJ R4 R jr := (p4'.e hj).tr ((p3'.e hj).tr (r2.e hj))
    have kr4 : KR R R4 jr := ((r2.k).tr (p3'.q jr).k).tr (p4'.q jr).k
    have hr4 : gI R4 jr 6 = nI (nn 5) := (ej4 _ _ (by omega) (by omega) (by omega)).trans hdn
    have up0 : up nn 5 0 ≤ 4 := by
      unfold up
      rw [if_neg (by decide)]
      exact hP.nb.1
    have hFp : RF (pI C4 (sp + (44 + nn 5)) 1 0) R4 jr := hF4.congr rfl rfl
    have k4p : KC C (pI C4 (sp + (44 + nn 5)) 1 0) sp := k4.pI (by omega) _ _
    rcases z4 with z4 | z4
    · rw [if_neg z4.ne5]
      obtain ⟨g4, l4, -⟩ := f4 z4
      obtain ⟨g3, l3, -⟩ := f3 g4
      obtain ⟨l2, hM⟩ := f2 g3
      have hM4 : NM (pI C4 (sp + (44 + nn 5)) 1 0) R4 jr (up nn 5) (tot nn + 1) := ((hM.go hj p3 p3').go hj p4 p4').put (by omega) _ _
      obtain ⟨C', R', t2, t3, t4⟩ := tell_al (b := sp + (44 + nn 5)) (nn := up nn 5) (t := tot nn + 1) (n := n) (by omega) hs up0 4 0 0 s4 (pI C4 (sp + (44 + nn 5)) 1 0) R4 FU FU rfl (fu (by decide)) (fu (by decide)) hFp (z4.put (by omega) _ _) hM4 (gI_pIs _ _ _ _) (by decide) rfl
      rcases t4 with ⟨D, t5, t6⟩ | ⟨F5, o1, o3, M5, s', m', f, u1, u4, u5, u7, u8, u9⟩
      · have t5' : f_X2_readTeller_L34 FU (pI C4 (sp + (44 + nn 5)) 1 0) 4 (sp + (44 + nn 5)) 1 0 = some C' := t5
        have t6' : f_X13_readTeller_L59_1 FU R4 118 0 1 = some R' := t6
        rw [t5', t6']
        exact ⟨C', R', rfl, rfl, k4p.tr t2, kr4.tr t3, Or.inr D⟩
      · have u8' : f_X2_readTeller_L34 FU (pI C4 (sp + (44 + nn 5)) 1 0) 4 (sp + (44 + nn 5)) 1 0 = ob (f_X7_among C' 2 23) (fun z => if z = -1 then some (pI C' (sp + (44 + nn 5)) 0 0) else f_X7_advance (pI C' (sp + (44 + nn 5)) 0 1) 2) := u8
        have u9' : f_X13_readTeller_L59_1 FU R4 118 0 1 = f_X13_readTeller_L59_1 f R' 118 (nI m') 0 := u9
        obtain ⟨f', rfl⟩ := suc u7
        have x1 : gI R' jr 6 = nI (nn 5) := (o3 _ _ (by omega) (by omega) (by omega)).trans hr4
        have kc := k4p.tr t2
        have kr := kr4.tr t3
        have ej := o3.tr ej4
        -- both ends
        have fin : ∀ (Cx Rx : MM) (x : Int32) (sx : Nat), s < sx → AL Cx Rx n sx → KC C Cx sp → KR R Rx jr → EJ Rx R jr → (∀ a j, 8 ≤ a → a ≠ sp + (44 + nn 5) → gI Cx a j = gI C4 a j) → gI Cx (sp + (44 + nn 5)) 0 = x → gI Cx (sp + (44 + nn 5)) 1 = nI m' → NM Cx Rx jr (up nn 5) (tot nn + 1) →
            LO C R Cx (pI (pI (pI Rx (jr + 23) (nn 5) (nI m')) (jr + 28) (nn 5) x) jr 6 (nI (nn 5 + 1))) sp jr n s := by
          intro Cx Rx x sx hsx Ax kcx krx ejx fx h0 h1 Mx
          refine ⟨kcx, ((krx.pI (by omega) _ _).pI (by omega) _ _).pI (by omega) _ _, Or.inl ⟨sx, up nn 5, hsx, ((Ax.putr (by omega) _ _).putr (by omega) _ _).putr (by omega) _ _, ?_, ?_⟩⟩
          · refine hP.s5 hm kcx.1 (fun a j h1 h2 h3 => (fx a j (by omega) (by omega)).trans ((e4 a j (by omega)).trans (gI_pIa (by omega)))) ((fx _ _ (by omega) (by omega)).trans ((e4 _ _ (by omega)).trans (gI_pIs _ _ _ _)))
              (fun j h => (fx _ _ (by omega) (by omega)).trans ((e4 _ _ (by omega)).trans (gI_pIk h))) (fun j => (fx _ _ (by omega) (by omega)).trans ((e4 _ _ (by omega)).trans (gI_pIa (by omega))))
              (fun c i h1 h2 h3 h4 => by rw [gI_pIa (by omega), gI_pIn (by omega), gI_pIn (by omega)]; exact ejx _ _ (by omega) (by omega) (by omega)) (gI_pIs _ _ _ _)
              (fun j h1 h2 => by rw [gI_pIk h1, gI_pIa (by omega), gI_pIa (by omega)]; exact ejx _ _ (by omega) (by omega) (by omega)) ?_
            unfold EL RD
            rw [h0, h1, gI_pIa (show jr + 28 ≠ jr by omega), gI_pIs, gI_pIa (show jr + 23 ≠ jr by omega), gI_pIa (show jr + 23 ≠ jr + 28 by omega), gI_pIs]
            exact ⟨rfl, rfl⟩
          · rw [tot_up (by decide)]
            exact ((Mx.putr (by omega) (by omega) _).putr (by omega) (by omega) _).putr (by omega) (by omega) _
        have fr : ∀ a j, 8 ≤ a → a ≠ sp + (44 + nn 5) → gI C' a j = gI C4 a j := fun a j h1 h2 => (o1 a j h1 h2).trans (gI_pIa h2)
        rw [u8', u9', u4.among (show 23 < 57 by decide), ob_s]
        by_cases hst : wsel R' 23 = -1
        · rw [if_pos hst, tl_ref F5.2.2.2.2.2.1 F5.2.2.2.2.2.2.2.1 x1 hm u4.ne5 hst]
          exact ⟨_, _, rfl, rfl, fin _ R' 0 s' (by omega) (u4.put (by omega) _ _) (kc.pI (by omega) _ _) kr ej (fun a j h1 h2 => (gI_pIa h2).trans (fr a j h1 h2)) (gI_pIs _ _ _ _) ((gI_pIk (by decide)).trans u5) (M5.put (by omega) _ _)⟩
        · rw [if_neg hst]
          have F6 : RF (pI C' (sp + (44 + nn 5)) 0 1) R' jr := F5.congr rfl rfl
          have A6 : AL (pI C' (sp + (44 + nn 5)) 0 1) R' n s' := u4.put (by omega) _ _
          have ty : gI (pI C' (sp + (44 + nn 5)) 0 1) 2 4 = 1 := by rw [gI_pIa (by omega)]; exact u4.word.mpr (wsel_word hst)
          obtain ⟨C7, R7, d1, d2, p7, p7', d3⟩ := p_adv F6 (Or.inl A6) (fun _ => by rw [ty]; decide)
          rcases d3 with ⟨-, s7, l7, -, A7⟩ | ⟨D, -⟩
          · have F7 := F6.congr p7.1 p7'.1
            rw [d1, tl_ref2 hst d2 F7.2.2.2.2.2.1 F7.2.2.2.2.2.2.2.1 ((p7'.e hj _ _ (by omega) (by omega) (by omega)).trans x1) hm A7.ne5]
            exact ⟨_, _, rfl, rfl, fin C7 R7 1 s7 (by omega) A7 ((kc.pI (by omega) _ _).tr (p7.q.k sp)) (kr.tr (p7'.q jr).k) ((p7'.e hj).tr ej) (fun a j h1 h2 => (p7.e a j h1).trans ((gI_pIa h2).trans (fr a j h1 h2))) ((p7.e _ _ (by omega)).trans (gI_pIs _ _ _ _)) ((p7.e _ _ (by omega)).trans ((gI_pIk (by decide)).trans u5)) ((M5.put (by omega) _ _).go hj p7 p7')⟩
          · exact (D.no A6).elim
    · rw [if_pos z4.1]
      obtain ⟨C', t1, t2, t3⟩ := tell_de (sp := sp) (b := sp + (44 + nn 5)) (n := n) (by omega) hs (nr2.go hj p3' |>.go hj p4') 5 0 1 (pI C4 (sp + (44 + nn 5)) 1 0) FU rfl (fu (by decide)) hFp (z4.put (by omega) _ _) (((nc2.go p3).go p4).put (by omega) _ _)
      have t1' : f_X2_readTeller_L34 FU (pI C4 (sp + (44 + nn 5)) 1 0) 4 (sp + (44 + nn 5)) 1 0 = some C' := t1
      rw [t1', show FU = (FU - 1) + 1 by decide, f_X13_readTeller_L59, if_pos rfl, eatsw_o z4.1 (by decide), ob_s, ob_s, if_pos z4.1]
      exact ⟨C', R4, rfl, rfl, k4p.tr t2, kr4, Or.inr t3⟩
  · have hm2 : nn 5 = 3 := by omega
    obtain ⟨C1, R1, a1, a2, a3, a4, a5⟩ := p_fail hF (Or.inl hA) 5 (by decide)
    have hF1 := hF.congr a3.1 a4.1
    have ad : f_X0_add C sp 5 = some (-1, C) := add_n (k := 5) hP.1 hcn (by omega) (by decide) hm
    rw [ad, ob_s, if_pos rfl, if_pos (show (5 : Int32) < 7 by decide), a1, ob_s]
    exact ⟨C1, R1, rfl, teller_many hF.2.2.2.2.2.1 (by rw [hdn, hm2]; rfl) a2 a5.1 hF1.2.2.2.2.2.1 hF1.2.2.2.2.2.2.2.1 (hN.nr.go hj a4), a3.q.k sp, (a4.q jr).k, Or.inr a5⟩
