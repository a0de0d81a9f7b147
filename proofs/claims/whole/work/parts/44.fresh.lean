/-! A FRESH NAME -/
theorem AL.congr {C R C' R' : MM} {n s : Nat} (h : AL C R n s) (hc1 : C'.2.2 = C.2.2) (hc2 : ∀ k, gI C' 2 k = gI C 2 k) (hc3 : ∀ k, gI C' 3 k = gI C 3 k) (hc4 : gI C' 4 5 = gI C 4 5) (hc5 : gL C' 2 6 = gL C 2 6) (hr1 : R'.2.2 = R.2.2) (hr2 : ∀ k, gI R' 118 k = gI R 118 k) (hr3 : ∀ k, gI R' 119 k = gI R 119 k) (hr4 : gL R' 118 15 = gL R 118 15) : AL C' R' n s := by
  obtain ⟨h1, h2, ⟨b1, b2, b3, b4, b5, b6⟩, ⟨p, p1, p2, p3, p4, p5⟩, h5, h6, hL⟩ := h
  unfold gR at *
  unfold AL TK BY LX
  unfold LX at hL
  unfold gR
  rw [hc1, hr1, hc4, hc5, hr4]
  simp only [hc2, hc3, hr2, hr3]
  exact ⟨h1, h2, ⟨b1, b2, b3, b4, b5, b6⟩, ⟨p, p1, p2, p3, p4, p5⟩, h5, h6, hL⟩
theorem DE.congr {C R C' R' : MM} {n : Nat} (h : DE C R n) (hc2 : ∀ k, gI C' 2 k = gI C 2 k) (hc3 : ∀ k, gI C' 3 k = gI C 3 k) (hc4 : gI C' 4 5 = gI C 4 5) (hc5 : gI C' 4 6 = gI C 4 6) (hr2 : ∀ k, gI R' 118 k = gI R 118 k) : DE C' R' n := by
  obtain ⟨h1, h2, h3, h4, h5⟩ := h
  unfold DE WC
  unfold WC at h5
  simp only [hc2, hc3, hr2, hc4, hc5]
  exact ⟨h1, h2, h3, h4, h5⟩
/-- what a line's steps write outside its Island -/
def QFc (C C' : MM) : Prop := C'.2.2 = C.2.2 ∧ (∀ a k, (a ≠ 2 ∨ k < 3) → (a ≠ 4 ∨ k < 4) → a ≠ 6 → a ≠ 7 → gI C' a k = gI C a k) ∧ ∀ a k, a ≠ 2 → a ≠ 5 → gL C' a k = gL C a k
def QFr (R R' : MM) (jr : Nat) : Prop := R'.2.2 = R.2.2 ∧ (∀ a k, (a ≠ 118 ∨ k < 8 ∨ 14 < k) → (a ≠ jr ∨ k ≠ 8) → a ≠ jr + 30 → a ≠ jr + 31 → gI R' a k = gI R a k) ∧ ∀ a k, a ≠ 118 → a ≠ jr + 29 → gL R' a k = gL R a k
theorem QFc.rf (C : MM) : QFc C C := ⟨rfl, fun _ _ _ _ _ _ => rfl, fun _ _ _ _ => rfl⟩
theorem QFr.rf (R : MM) (jr : Nat) : QFr R R jr := ⟨rfl, fun _ _ _ _ _ _ => rfl, fun _ _ _ _ => rfl⟩
theorem QFc.tr {A B C : MM} (h1 : QFc A B) (h2 : QFc B C) : QFc A C := ⟨h2.1.trans h1.1, fun a k q1 q2 q3 q4 => (h2.2.1 a k q1 q2 q3 q4).trans (h1.2.1 a k q1 q2 q3 q4), fun a k q1 q2 => (h2.2.2 a k q1 q2).trans (h1.2.2 a k q1 q2)⟩
theorem QFr.tr {A B C : MM} {jr : Nat} (h1 : QFr A B jr) (h2 : QFr B C jr) : QFr A C jr := ⟨h2.1.trans h1.1, fun a k q1 q2 q3 q4 => (h2.2.1 a k q1 q2 q3 q4).trans (h1.2.1 a k q1 q2 q3 q4), fun a k q1 q2 => (h2.2.2 a k q1 q2).trans (h1.2.2 a k q1 q2)⟩
theorem PFc.q {C C' : MM} (h : PFc C C') : QFc C C' := ⟨h.1, fun a k q1 q2 _ _ => h.2.1 a k q1 (by omega), fun a k q1 _ => h.2.2 a k q1⟩
theorem PFr.q {R R' : MM} (h : PFr R R') (jr : Nat) : QFr R R' jr := ⟨h.1, fun a k q1 _ _ _ => h.2.1 a k q1, fun a k q1 _ => h.2.2 a k q1⟩
theorem tell_c {C : MM} (h0 : gR C 4 0 = some 2) (h1 : gR C 4 1 = some 5) (h2 : gR C 4 2 = some 6) (h3 : gR C 4 3 = some 7) {t : Nat} (ht : t ≤ 35) (h4 : gI C 4 4 = nI t) (x y : Int32) : f_X2_tellName C 4 x y =
    (if gI C 2 4 = 1 then (if (if gI C 2 4 = 1 then idx (wordsL (txt 29) 0) 0 (gL C 2 6) else -1) = (-1 : Int32) then (if fnd (gL C 5) (gL C 2 6) t 0 = (-1) then (if 35 ≤ t then ob (f_X7_advance C 2) (fun z => some z) else ob (f_X7_advance (pI (pI (pI (pL C 5 t (gL C 2 6)) 6 t x) 7 t y) 4 4 (nI (t + 1))) 2) (fun z => some z)) else ob (f_X2_fail C 4 3) (fun z => oc (gR z 4 0) none (fun b => ob (f_X7_advance z b) (fun z => some z)))) else ob (f_X2_fail C 4 1) (fun z => oc (gR z 4 0) none (fun b => ob (f_X7_advance z b) (fun z => some z)))) else ob (f_X2_fail C 4 1) (fun z => oc (gR z 4 0) none (fun b => ob (f_X7_advance z b) (fun z => some z)))) := by
  unfold f_X2_tellName
  rw [h0, h1]
  simp only [oc_x]
  rw [isWord_c, ob_s, b01]
  by_cases e1 : gI C 2 4 = 1
  · rw [if_pos e1, if_pos e1, among_c C (show 29 < 57 by decide), ob_s, if_pos e1]
    by_cases e2 : idx (wordsL (txt 29) 0) 0 (gL C 2 6) = -1
    · rw [if_pos e2, if_pos e2, find_c ht h0 h1 h4, ob_s]
      by_cases e3 : fnd (gL C 5) (gL C 2 6) t 0 = -1
      · rw [if_pos e3, if_pos e3, h4]
        by_cases e4 : 35 ≤ t
        · rw [if_pos e4, if_pos (show (35 : Int32) ≤ nI t from nI_le (a := 35) e4 (by omega))]
        · have e5 : t < 35 := by omega
          rw [if_neg e4, if_neg (show ¬ (35 : Int32) ≤ nI t from nI_ge (b := 35) e5 (by decide)), chk_n e5 (by decide), ix_n (by omega), show gR (pL C 5 t (gL C 2 6)) 4 2 = some 6 from h2, oc_x, gI_L, h4, chk_n e5 (by decide), ix_n (by omega), show gR (pI (pL C 5 t (gL C 2 6)) 6 t x) 4 3 = some 7 from h3, oc_x, gI_pIa (show 4 ≠ 6 by decide), gI_L, h4, chk_n e5 (by decide), ix_n (by omega), gI_pIa (show 4 ≠ 7 by decide), gI_pIa (show 4 ≠ 6 by decide), gI_L, h4, nI_1 t, show gR (pI (pI (pI (pL C 5 t (gL C 2 6)) 6 t x) 7 t y) 4 4 (nI (t + 1))) 4 0 = some 2 from h0, oc_x]
      · rw [if_neg e3, if_neg e3]
    · rw [if_neg e2, if_neg e2]
  · rw [if_neg e1, if_neg e1]
theorem gR_I (M : MM) (a k b j : Nat) (v : Int32) : gR (pI M a k v) b j = gR M b j := rfl
theorem gR_L (M : MM) (a k b j : Nat) (v : Int64) : gR (pL M a k v) b j = gR M b j := rfl
theorem fresh_r {R : MM} {jr : Nat} (h : gI R 118 9 = 2) (h5 : wsel R 29 = -1) (h4 : gR R 118 4 = some jr) (hJ : JS R jr) {t : Nat} (ht : t < 35) (h8 : gI R jr 8 = nI t) (x y : Int32) :
    (fnd (gL R (jr + 29)) (gL R 118 15) t 0 = -1 → f_X13_readFresh R 118 x y = ob (f_X13_goesOn (pI (pI (pI (pL R (jr + 29) t (gL R 118 15)) (jr + 30) t x) (jr + 31) t y) jr 8 (nI (t + 1))) 118) (fun z => some z)) ∧
    (fnd (gL R (jr + 29)) (gL R 118 15) t 0 ≠ -1 → ∀ R1, f_X13_wrong R 118 3 = some R1 → gI R1 118 9 = 5 → f_X13_readFresh R 118 x y = some R1) := by
  have n5 : ¬ gI R 118 9 = 5 := by rw [h]; decide
  have a1 : ∀ (M : MM) (k : Nat) (v : Int32), gI (pI M (jr + 30) k v) jr 8 = gI M jr 8 := fun M k v => gI_pIa (by omega)
  have a2 : ∀ (M : MM) (k : Nat) (v : Int32), gI (pI M (jr + 31) k v) jr 8 = gI M jr 8 := fun M k v => gI_pIa (by omega)
  unfold f_X13_readFresh
  rw [isName_r, if_pos h, if_pos h5, ob_s, if_neg (show ¬ (1 : Int32) = 0 by decide), h4, oc_x, find_r (by omega) hJ h8, ob_s]
  constructor
  · intro e
    rw [if_pos e, if_neg n5, oc_x, hJ.k45, oc_x, oc_x, h8, chk_n ht (by decide), ix_n (by omega)]
    simp only [gR_I, gR_L, h4, oc_x, hJ.k46, hJ.k47, gI_L, a1, a2, h8, ix_n (show t < 2147483648 by omega), chk_m ht (show 35 < 2147483648 by decide), nI_1 t]
  · intro e R1 e1 e2
    rw [if_neg e, e1, ob_s, if_pos e2]
/-- a fresh name -/
theorem p_fresh {C R : MM} {jr n s t k m : Nat} {nn : Nat → Nat} (hF : RF C R jr) (h : S2 C R n s) (hN : NM C R jr nn t) (ht : t < 35) (hk : k < 7) (hm : k < 2 → m < nn k) : ∃ C' R', f_X2_tellName C 4 (nI k) (nI m) = some C' ∧ f_X13_readFresh R 118 (nI (if k < 2 then k else 2)) (nI m) = some R' ∧ QFc C C' ∧ QFr R R' jr ∧ NC C' ∧ NR R' jr ∧
    ∃ s', S2 C' R' n s' ∧ (AL C' R' n s' → AL C R n s ∧ s < s' ∧ NM C' R' jr nn (t + 1)) := by
  have hT := hN
  obtain ⟨t1, t2, t3, t4⟩ := hN
  have hj : 123 < jr := hF.2.2.2.2.2.2.2.2
  have hJ : JS R jr := hF.2.2.2.2.2.2.2.1
  rw [tell_c hF.1 hF.2.1 hF.2.2.1 hF.2.2.2.1 t1 t2, if_neg (show ¬ 35 ≤ t by omega)]
  rcases h with h | h
  · have stop : ∃ C2 R1, ob (f_X2_fail C 4 1) (fun z => oc (gR z 4 0) none (fun b => ob (f_X7_advance z b) (fun z => some z))) = some C2 ∧ (f_X13_isName R 118 = some 0 → f_X13_readFresh R 118 (nI (if k < 2 then k else 2)) (nI m) = some R1) ∧ QFc C C2 ∧ QFr R R1 jr ∧ NC C2 ∧ NR R1 jr ∧ DE C2 R1 n := by
      obtain ⟨C1, R1, C2, a1, a2, a3, a4, a5, a6, a7, a8⟩ := op_stop hF (Or.inl h) 1 (by decide)
      have hF1 : RF C2 R1 jr := hF.congr a6.1 a7.1
      refine ⟨C2, R1, ?_, fun z => ?_, a6.q, a7.q jr, hT.nc.go a6, hT.nr.go hj a7, a8⟩
      · rw [a1, ob_s, a3, oc_x, a4, ob_s]
      · rw [fresh_stop z a2 a8.1, fresh_o a8.1 hF1.2.2.2.2.2.1 hF1.2.2.2.2.2.2.2.1 (hT.nr.go hj a7)]
    by_cases e1 : gI C 2 4 = 1
    · have hw := h.among (t := 29) (by decide)
      rw [among_c C (by decide)] at hw
      rw [if_pos e1, Option.some.inj hw]
      by_cases e2 : wsel R 29 = -1
      · rw [if_pos e2]
        have hfe : fnd (gL C 5) (gL C 2 6) t 0 = fnd (gL R (jr + 29)) (gL R 118 15) t 0 := fnd_congr (h.wordv e1) t 0 (fun k hk => (t4 k (by omega)).1)
        obtain ⟨f1, f2⟩ := fresh_r (h.word.mp e1) e2 hF.2.2.2.2.2.1 hJ ht t3 (nI (if k < 2 then k else 2)) (nI m)
        by_cases e3 : fnd (gL C 5) (gL C 2 6) t 0 = -1
        · rw [if_pos e3, f1 (hfe.symm.trans e3)]
          have hA : AL (pI (pI (pI (pL C 5 t (gL C 2 6)) 6 t (nI k)) 7 t (nI m)) 4 4 (nI (t + 1))) (pI (pI (pI (pL R (jr + 29) t (gL R 118 15)) (jr + 30) t (nI (if k < 2 then k else 2))) (jr + 31) t (nI m)) jr 8 (nI (t + 1))) n s := by
            refine h.congr rfl (fun j => ?_) (fun j => ?_) ?_ ?_ rfl (fun j => ?_) (fun j => ?_) ?_
            · rw [gI_pIa (by decide), gI_pIa (by decide), gI_pIa (by decide), gI_L]
            · rw [gI_pIa (by decide), gI_pIa (by decide), gI_pIa (by decide), gI_L]
            · rw [gI_pIk (by decide), gI_pIa (by decide), gI_pIa (by decide), gI_L]
            · rw [gL_I, gL_I, gL_I, gL_pLn (fun z => absurd z (by decide))]
            · rw [gI_pIa (by omega), gI_pIa (by omega), gI_pIa (by omega), gI_L]
            · rw [gI_pIa (by omega), gI_pIa (by omega), gI_pIa (by omega), gI_L]
            · rw [gL_I, gL_I, gL_I, gL_pLn (by omega)]
          have hM : NM (pI (pI (pI (pL C 5 t (gL C 2 6)) 6 t (nI k)) 7 t (nI m)) 4 4 (nI (t + 1))) (pI (pI (pI (pL R (jr + 29) t (gL R 118 15)) (jr + 30) t (nI (if k < 2 then k else 2))) (jr + 31) t (nI m)) jr 8 (nI (t + 1))) jr nn (t + 1) := by
            refine ⟨by omega, gI_pIs _ _ _ _, gI_pIs _ _ _ _, fun i hi => ?_⟩
            rw [gL_I, gL_I, gL_I, gL_I, gL_I, gL_I, gI_pIa (show 7 ≠ 4 by decide), gI_pIa (show 6 ≠ 4 by decide), gI_pIa (show 6 ≠ 7 by decide), gI_pIa (show jr + 31 ≠ jr by omega), gI_pIa (show jr + 30 ≠ jr by omega), gI_pIa (show jr + 30 ≠ jr + 31 by omega)]
            by_cases q : i = t
            · subst q
              rw [gL_pLs, gL_pLs, gI_pIs, gI_pIs, gI_pIs, gI_pIs]
              exact ⟨h.wordv e1, rfl, k, m, hk, rfl, rfl, rfl, hm⟩
            · rw [gL_pLn (fun _ => q), gL_pLn (fun _ => q)]
              simp only [gI_pIk q, gI_L]
              exact t4 i (by omega)
          have hFn : RF (pI (pI (pI (pL C 5 t (gL C 2 6)) 6 t (nI k)) 7 t (nI m)) 4 4 (nI (t + 1))) (pI (pI (pI (pL R (jr + 29) t (gL R 118 15)) (jr + 30) t (nI (if k < 2 then k else 2))) (jr + 31) t (nI m)) jr 8 (nI (t + 1))) jr := hF.congr rfl rfl
          have q1 : QFc C (pI (pI (pI (pL C 5 t (gL C 2 6)) 6 t (nI k)) 7 t (nI m)) 4 4 (nI (t + 1))) := ⟨rfl, fun a j z1 z2 z3 z4 => by rw [gI_pIn (by omega), gI_pIa z4, gI_pIa z3, gI_L], fun a j z1 z2 => by rw [gL_I, gL_I, gL_I, gL_pLn (fun z => absurd z z2)]⟩
          have q2 : QFr R (pI (pI (pI (pL R (jr + 29) t (gL R 118 15)) (jr + 30) t (nI (if k < 2 then k else 2))) (jr + 31) t (nI m)) jr 8 (nI (t + 1))) jr := ⟨rfl, fun a j z1 z2 z3 z4 => by rw [gI_pIn (by omega), gI_pIa z4, gI_pIa z3, gI_L], fun a j z1 z2 => by rw [gL_I, gL_I, gL_I, gL_pLn (fun z => absurd z z2)]⟩
          have e4 : gI (pI (pI (pI (pL C 5 t (gL C 2 6)) 6 t (nI k)) 7 t (nI m)) 4 4 (nI (t + 1))) 2 4 = 1 := by
            rw [gI_pIa (by decide), gI_pIa (by decide), gI_pIa (by decide), gI_L]; exact e1
          generalize pI (pI (pI (pL C 5 t (gL C 2 6)) 6 t (nI k)) 7 t (nI m)) 4 4 (nI (t + 1)) = Cn at *
          generalize pI (pI (pI (pL R (jr + 29) t (gL R 118 15)) (jr + 30) t (nI (if k < 2 then k else 2))) (jr + 31) t (nI m)) jr 8 (nI (t + 1)) = Rn at *
          obtain ⟨C', R', a1, a2, a3, a4, s', a5, a6⟩ := op_adv hFn (Or.inl hA) (P := True) (fun _ => ⟨Or.inl e4, trivial⟩)
          refine ⟨C', R', by rw [a1, ob_s], by rw [a2, ob_s], q1.tr a3.q, q2.tr (a4.q jr), hM.nc.go a3, hM.nr.go hj a4, s', a5, fun z => ⟨h, (a6 z).2.1, hM.go hj a3 a4⟩⟩
        · obtain ⟨C1, R1, C2, a1, a2, a3, a4, a5, a6, a7, a8⟩ := op_stop hF (Or.inl h) 3 (by decide)
          rw [if_neg e3, a1, ob_s, a3, oc_x, a4, ob_s, f2 (fun z => e3 (hfe.trans z)) R1 a2 a8.1]
          exact ⟨C2, R1, rfl, rfl, a6.q, a7.q jr, hT.nc.go a6, hT.nr.go hj a7, 0, Or.inr a8, fun z => (a8.no z).elim⟩
      · obtain ⟨C2, R1, a1, a2, a3, a4, a5, a6, a7⟩ := stop
        rw [if_neg e2, a1, a2 (by rw [isName_r, if_pos (h.word.mp e1), if_neg e2])]
        exact ⟨C2, R1, rfl, rfl, a3, a4, a5, a6, 0, Or.inr a7, fun z => (a7.no z).elim⟩
    · obtain ⟨C2, R1, a1, a2, a3, a4, a5, a6, a7⟩ := stop
      rw [if_neg e1, a1, a2 (by rw [isName_r, if_neg (fun z => e1 (h.word.mpr z))])]
      exact ⟨C2, R1, rfl, rfl, a3, a4, a5, a6, 0, Or.inr a7, fun z => (a7.no z).elim⟩
  · rw [fresh_o h.1 hF.2.2.2.2.2.1 hJ hT.nr, de_fail h, de_fail h]
    simp only [ob_s]
    rw [hF.1, oc_x]
    obtain ⟨C1, b1, b2, b3⟩ := de_adv hF h
    have hD : DE (pI (pI (pI (pL C 5 t (gL C 2 6)) 6 t (nI k)) 7 t (nI m)) 4 4 (nI (t + 1))) R n := by
      refine h.congr (fun j => ?_) (fun j => ?_) ?_ ?_ (fun j => rfl)
      · rw [gI_pIa (by decide), gI_pIa (by decide), gI_pIa (by decide), gI_L]
      · rw [gI_pIa (by decide), gI_pIa (by decide), gI_pIa (by decide), gI_L]
      · rw [gI_pIk (by decide), gI_pIa (by decide), gI_pIa (by decide), gI_L]
      · rw [gI_pIk (by decide), gI_pIa (by decide), gI_pIa (by decide), gI_L]
    have hFn : RF (pI (pI (pI (pL C 5 t (gL C 2 6)) 6 t (nI k)) 7 t (nI m)) 4 4 (nI (t + 1))) R jr := hF.congr rfl rfl
    have q1 : QFc C (pI (pI (pI (pL C 5 t (gL C 2 6)) 6 t (nI k)) 7 t (nI m)) 4 4 (nI (t + 1))) := ⟨rfl, fun a j z1 z2 z3 z4 => by rw [gI_pIn (by omega), gI_pIa z4, gI_pIa z3, gI_L], fun a j z1 z2 => by rw [gL_I, gL_I, gL_I, gL_pLn (fun z => absurd z z2)]⟩
    have q3 : NC (pI (pI (pI (pL C 5 t (gL C 2 6)) 6 t (nI k)) 7 t (nI m)) 4 4 (nI (t + 1))) := ⟨t + 1, by omega, gI_pIs _ _ _ _⟩
    obtain ⟨C2, d1, d2, d3⟩ := de_adv hFn hD
    rw [b1, d1]
    simp only [ob_s]
    have r1 : ∃ C' R', some C1 = some C' ∧ some R = some R' ∧ QFc C C' ∧ QFr R R' jr ∧ NC C' ∧ NR R' jr ∧ ∃ s', S2 C' R' n s' ∧ (AL C' R' n s' → AL C R n s ∧ s < s' ∧ NM C' R' jr nn (t + 1)) := ⟨C1, R, rfl, rfl, b2.q, QFr.rf R jr, hT.nc.go b2, hT.nr, 0, Or.inr b3, fun z => (b3.no z).elim⟩
    have r2 : ∃ C' R', some C2 = some C' ∧ some R = some R' ∧ QFc C C' ∧ QFr R R' jr ∧ NC C' ∧ NR R' jr ∧ ∃ s', S2 C' R' n s' ∧ (AL C' R' n s' → AL C R n s ∧ s < s' ∧ NM C' R' jr nn (t + 1)) := ⟨C2, R, rfl, rfl, q1.tr d2.q, QFr.rf R jr, q3.go d2, hT.nr, 0, Or.inr d3, fun z => (d3.no z).elim⟩
    repeat' split
    all_goals first | exact r1 | exact r2
def negW (v : Int32) : Int32 := -v
/-- a slope -/
theorem p_slope {C R : MM} {jr n s : Nat} (hF : RF C R jr) (h : S2 C R n s) : ∃ C' v v' R', f_X2_readSlope C 4 = some (v, C') ∧ f_X13_readSlope R 118 = some (v', R') ∧ OP C R n s C' R' (v = v' ∧ wsel R 6 ≠ -1) := by
  obtain ⟨C1, v1, R0, R1, a1, a2, a3, a4, a4', s1, a5, a6⟩ := p_choice hF h (show 6 < 57 by decide)
  obtain ⟨C2, v, v', R2, b1, b2, b3, b4, s2, b5, b6⟩ := p_whole (hF.congr a4.1 a4'.1) a5 (l := 0) (u := 20) (l' := 0) (u' := 20) (fun _ => ⟨rfl, rfl⟩)
  have e6 : wsel R 6 = if gI R 118 9 = 2 then (if cd 40 = gL R 118 15 then 0 else if cd 41 = gL R 118 15 then 1 else -1) else -1 := by
    unfold wsel
    rw [W6]
    rfl
  have hs : f_X13_isSlope R 118 = some (if wsel R 6 = -1 then 0 else 1) := by
    unfold f_X13_isSlope
    rw [isWord_r R (show 40 < 57 by decide), isWord_r R (show 41 < 57 by decide), e6, ob_s, ob_s]
    by_cases q : gI R 118 9 = 2
    · simp only [if_pos q]
      by_cases q1 : cd 40 = gL R 118 15
      · simp only [if_pos q1]; rfl
      · by_cases q2 : cd 41 = gL R 118 15
        · simp only [if_neg q1, if_pos q2]; rfl
        · simp only [if_neg q1, if_neg q2]; rfl
    · simp only [if_neg q]; rfl
  have hr : f_X13_readSlope R 118 = ob (if wsel R 6 = -1 then f_X13_wrong R 118 1 else some R) (fun z => ob (f_X13_goesOn z 118) (fun z => ob (f_X13_readWhole z 118 0 20) (fun z => if wsel R 6 = 1 then some (-z.1, z.2) else some (z.1, z.2)))) := by
    unfold f_X13_readSlope
    rw [hs, isWord_r R (show 41 < 57 by decide), ob_s, ob_s]
    have h1 : (if gI R 118 9 = 2 then (if cd 41 = gL R 118 15 then (1 : Int32) else 0) else 0) = if wsel R 6 = 1 then 1 else 0 := by
      rw [e6]
      by_cases q : gI R 118 9 = 2
      · simp only [if_pos q]
        by_cases q2 : cd 41 = gL R 118 15
        · have q1 : ¬ cd 40 = gL R 118 15 := fun z => cd_ne 41 (by decide) 40 (by decide) (by decide) (q2.trans z.symm)
          simp only [if_neg q1, if_pos q2]; rfl
        · simp only [if_neg q2]
          by_cases q1 : cd 40 = gL R 118 15
          · simp only [if_pos q1]; rfl
          · simp only [if_neg q1]; rfl
      · simp only [if_neg q]; rfl
    rw [h1]
    simp only [b01]
    by_cases q : wsel R 6 = -1
    · rw [if_pos q, if_pos q, if_pos rfl]
    · rw [if_neg q, if_neg q, if_neg (by decide)]; rfl
  refine ⟨C2, if v1 = 0 then v else -v, if wsel R 6 = 1 then -v' else v', R2, ?_, ?_, a4.tr b3, a4'.tr b4, s2, b5, fun z => ?_⟩
  · unfold f_X2_readSlope
    rw [a1, ob_s, b1, ob_s]
    split <;> rfl
  · rw [hr, a2, ob_s, a3, ob_s, b2, ob_s]
    split <;> rfl
  · obtain ⟨c1, c2, c3, -⟩ := b6 z
    obtain ⟨d1, d2, d3, d4⟩ := a6 c1
    refine ⟨d1, by omega, ?_, d4⟩
    rw [d3, c3]
    have d5 := d4
    rw [e6] at d5 ⊢
    by_cases q : gI R 118 9 = 2
    · simp only [if_pos q] at d5 ⊢
      by_cases q1 : cd 40 = gL R 118 15
      · simp only [if_pos q1]; rfl
      · by_cases q2 : cd 41 = gL R 118 15
        · simp only [if_neg q1, if_pos q2]; rfl
        · simp only [if_neg q1, if_neg q2] at d5
          exact absurd rfl d5
    · simp only [if_neg q] at d5
      exact absurd rfl d5

