/-! MOVES: restore -/
theorem gR_pRs (M : MM) (a k : Nat) (v : Option Nat) : gR (pR M a k v) a k = v := up2_self _ _ _ _
theorem gR_pRn {M : MM} {a k b j : Nat} {v : Option Nat} (h : b = a → j ≠ k) : gR (pR M a k v) b j = gR M b j := up2_ne _ _ h
theorem IS.pR {M : MM} {b k : Nat} {v : Option Nat} (h : IS M b) (hb : 14 ≤ b) : IS (pR M 1 k v) b := by
  unfold IS at *
  simp (disch := omega) only [gR_pRn]
  exact h
theorem ST.swap {M : MM} {jo sc ic sp : Nat} (h : ST M jo sc ic sp) : ST (pR (pR M 1 3 (some sc)) 1 4 (some jo)) sc jo ic sp := by
  obtain ⟨h1, h2, h3, h4, h5, h6, h7, h8, h9, h10, h11, h12, h13, h14, h15, h16, h17, h18, h19⟩ := h
  refine ⟨?_, ?_, ?_, ?_, ?_, ?_, ?_, ?_, ?_, ?_, ?_, ?_, ?_, ?_, ?_, (h16.pR (by decide)).pR (by decide), (h17.pR (by decide)).pR (by decide), by omega, h19⟩ <;> simp (disch := omega) only [gR_pRs, gR_pRn] <;> assumption
theorem dm {N d : Nat} (hN : N < 2 ^ 63) (d0 : 0 < d) (hd : d < 2 ^ 63) : lN N / lN d = lN (N / d) ∧ lN N - lN (N / d) * lN d = lN (N % d) := by
  have e := pk_lDiv hN d0 hd
  refine ⟨e, ?_⟩
  rw [← e]
  exact pk_lRem hN d0 hd
def OKL (to li : Nat) : Prop := (to = 3 ∧ li ≠ 3) ∨ (to ≠ 3 ∧ li = 3)
theorem J82_c {M : MM} {a to li pe : Nat} {w1 : Int32} (hw : w1 = 0 ∨ w1 = 1) (h2 : gI M a 2 = nI to) (h3 : gI M a 3 = nI pe) (h10 : gI M a 10 = nI li) (bt : to < 6) (bl : li < 4) (bp : pe < 201) : (f_X1_isOf_J82 M a w1 = some 1 ∧ w1 = 1 ∧ OKL to li ∧ pe ≠ 0 ∧ to ≠ 0) ∨ (f_X1_isOf_J82 M a w1 = some 0 ∧ ¬ (w1 = 1 ∧ OKL to li ∧ pe ≠ 0 ∧ to ≠ 0)) := by
  have hJ : ∀ w2 : Int32, f_X1_isOf_J117 M a w1 w2 = some (if pe = 0 then 0 else if to = 0 then 0 else if w1 = 0 then 0 else if w2 = 0 then 0 else 1) := fun w2 => by
    unfold f_X1_isOf_J117
    rw [h3, crowd_c, ob_s, h2]
    by_cases hp : pe = 0
    · rw [if_pos hp, if_pos (show nI pe < 1 by rw [hp]; decide), if_pos rfl]
    · rw [if_neg hp, if_neg (show ¬ nI pe < 1 from nI_nlt (b := 1) (by omega) (by omega)), if_neg (show ¬ (200 : Int32) < nI pe from nI_nlt (a := 200) (by omega) (by omega)), if_neg (show ¬ (1 : Int32) = 0 by decide)]
      by_cases ht : to = 0
      · rw [if_pos ht, if_pos (show nI to < 1 by rw [ht]; decide)]
      · rw [if_neg ht, if_neg (show ¬ nI to < 1 from nI_nlt (b := 1) (by omega) (by omega))]
        split
        · rfl
        · split <;> rfl
  unfold f_X1_isOf_J82
  rw [h2, h10, hJ, hJ]
  have e3 : nI to = 3 ↔ to = 3 := nI_eq (b := 3) (by omega) (by omega)
  have l3 : nI li = 3 ↔ li = 3 := nI_eq (b := 3) (by omega) (by omega)
  unfold OKL
  by_cases a1 : pe = 0
  · right
    refine ⟨?_, fun q => q.2.2.1 a1⟩
    simp only [if_pos a1]
    split
    · split <;> rfl
    · split <;> rfl
  · by_cases a2 : to = 0
    · right
      refine ⟨?_, fun q => q.2.2.2 a2⟩
      simp only [if_neg a1, if_pos a2]
      split
      · split <;> rfl
      · split <;> rfl
    · simp only [if_neg a1, if_neg a2]
      rcases hw with rfl | rfl
      · right
        refine ⟨?_, fun q => absurd q.1 (by decide)⟩
        simp only [if_true]
        split
        · split <;> rfl
        · split <;> rfl
      · simp only [show ((1 : Int32) = 0) = False from eq_false (by decide), if_false, if_true]
        by_cases t3 : to = 3
        · rw [if_pos (e3.mpr t3)]
          by_cases i3 : li = 3
          · rw [if_pos (l3.mpr i3)]
            exact Or.inr ⟨rfl, fun q => by omega⟩
          · rw [if_neg (fun z => i3 (l3.mp z))]
            exact Or.inl ⟨rfl, trivial, Or.inl ⟨t3, i3⟩, a1, a2⟩
        · rw [if_neg (fun z => t3 (e3.mp z))]
          by_cases i3 : li = 3
          · rw [if_pos (l3.mpr i3)]
            exact Or.inl ⟨rfl, trivial, Or.inr ⟨t3, i3⟩, a1, a2⟩
          · rw [if_neg (fun z => i3 (l3.mp z))]
            exact Or.inr ⟨rfl, fun q => by omega⟩
def OKI (D : DT) (n : Nat → Nat) (to pe st w r pl li : Nat) : Prop := r < n 1 ∧ st < n 2 ∧ w < n 0 ∧ (∃ h, D 5 r = nI h ∧ h ≤ 6 ∧ ((to = 2 ∧ pl = h) ∨ (to ≠ 2 ∧ pl < h))) ∧ OKL to li ∧ pe ≠ 0 ∧ to ≠ 0
theorem isOf_c {M : MM} {ic a to pe st w r pl li : Nat} {D : DT} {n : Nat → Nat} (hc : CI M ic D n) (h2 : gI M a 2 = nI to) (h3 : gI M a 3 = nI pe) (h4 : gI M a 4 = nI st) (h5 : gI M a 5 = nI w) (h6 : gI M a 6 = nI r) (h7 : gI M a 7 = nI pl) (h10 : gI M a 10 = nI li) (bt : to < 6) (bl : li < 4) (bp : pe < 201) (bs : st < 10) (bw : w < 4) (br : r < 3) (bpl : pl < 7) :
    (f_X1_isOf M a ic = some 1 ∧ OKI D n to pe st w r pl li) ∨ (f_X1_isOf M a ic = some 0 ∧ ¬ OKI D n to pe st w r pl li) := by
  have n3 := hc.nb.2.1
  have n4 := hc.nb.1
  have n10 := hc.nb.2.2.1
  unfold f_X1_isOf
  rw [h6]
  by_cases c1 : r < n 1
  · obtain ⟨h, x1, x6, xe⟩ := hc.vd.2.1 r c1
    rw [hc.r c1, ob_s, oc_x, h4, (hc.ce.2.1 r c1).2.1, xe]
    by_cases c2 : st < n 2
    · rw [has2_s hc.is hc.cn.2.2.1 (show n 2 < 100 by omega) c2, ob_s, if_neg (show ¬ (1 : Int32) = 0 by decide), h5]
      by_cases c3 : w < n 0
      · rw [has0_s hc.is hc.cn.1 (show n 0 < 100 by omega) c3, ob_s, if_neg (show ¬ (1 : Int32) = 0 by decide), h2, h7]
        have key : ∃ w1 : Int32, (w1 = 0 ∨ w1 = 1) ∧ (w1 = 1 ↔ ((to = 2 ∧ pl = h) ∨ (to ≠ 2 ∧ pl < h))) ∧ (if nI to = 2 then (if nI pl = nI h then (f_X1_isOf_J82 M a 1) else (f_X1_isOf_J82 M a 0)) else (if nI h ≤ nI pl then (f_X1_isOf_J82 M a 0) else (f_X1_isOf_J82 M a 1))) = f_X1_isOf_J82 M a w1 := by
          by_cases t2 : to = 2
          · rw [if_pos (show nI to = 2 by rw [t2]; rfl)]
            by_cases q : pl = h
            · exact ⟨1, Or.inr rfl, ⟨fun _ => Or.inl ⟨t2, q⟩, fun _ => rfl⟩, if_pos (by rw [q])⟩
            · exact ⟨0, Or.inl rfl, ⟨fun z => absurd z (by decide), fun z => by omega⟩, if_neg (fun z => q ((nI_eq (by omega) (by omega)).mp z))⟩
          · rw [if_neg (show ¬ (nI to = (2 : Int32)) from fun z => t2 ((nI_eq (a := to) (b := 2) (by omega) (by omega)).mp z))]
            by_cases q : pl < h
            · exact ⟨1, Or.inr rfl, ⟨fun _ => Or.inr ⟨t2, q⟩, fun _ => rfl⟩, if_neg (nI_ge q (by omega))⟩
            · exact ⟨0, Or.inl rfl, ⟨fun z => absurd z (by decide), fun z => by omega⟩, if_pos (nI_le (by omega) (by omega))⟩
        obtain ⟨w1, w01, wi, we⟩ := key
        rw [we]
        rcases J82_c (a := a) w01 h2 h3 h10 bt bl bp with ⟨q1, q2, q3, q4, q5⟩ | ⟨q1, q2⟩
        · exact Or.inl ⟨q1, c1, c2, c3, ⟨h, xe, x6, wi.mp q2⟩, q3, q4, q5⟩
        · refine Or.inr ⟨q1, fun ⟨_, _, _, ⟨h', e1, e2, e3⟩, e4, e5, e6⟩ => q2 ⟨wi.mpr ?_, e4, e5, e6⟩⟩
          have : h = h' := (nI_eq (by omega) (by omega)).mp (xe.symm.trans e1)
          rw [this]; exact e3
      · rw [has0_n hc.is hc.cn.1 (Or.inr (nI_le (show n 0 ≤ w by omega) (by omega))), ob_s, if_pos rfl]
        exact Or.inr ⟨rfl, fun q => c3 q.2.2.1⟩
    · rw [has2_n hc.is hc.cn.2.2.1 (Or.inr (nI_le (show n 2 ≤ st by omega) (by omega))), ob_s, if_pos rfl]
      exact Or.inr ⟨rfl, fun q => c2 q.2.1⟩
  · rw [roadAt_n hc.is hc.cn.2.1 (Or.inr (nI_le (show n 1 ≤ r by omega) (by omega))), ob_s, oc_z]
    exact Or.inr ⟨rfl, fun q => c1 q.1⟩
/-- the numbers of an image -/
theorem parts_l {N : Nat} (hN : N < 2 ^ 63) : lN N / 201 = lN (N / 201) ∧ lN N - lN (N / 201) * 201 = lN (N % 201) ∧ lN (N / 201) / 3 = lN ((N / 201) / 3) ∧ lN (N / 201) - lN ((N / 201) / 3) * 3 = lN ((N / 201) % 3) ∧ lN ((N / 201) / 3) / 4 = lN (((N / 201) / 3) / 4) ∧ lN ((N / 201) / 3) - lN (((N / 201) / 3) / 4) * 4 = lN (((N / 201) / 3) % 4) ∧ lN (((N / 201) / 3) / 4) / 10 = lN ((((N / 201) / 3) / 4) / 10) ∧ lN (((N / 201) / 3) / 4) - lN ((((N / 201) / 3) / 4) / 10) * 10 = lN ((((N / 201) / 3) / 4) % 10) ∧ lN ((((N / 201) / 3) / 4) / 10) / 4 = lN (((((N / 201) / 3) / 4) / 10) / 4) ∧ lN ((((N / 201) / 3) / 4) / 10) - lN (((((N / 201) / 3) / 4) / 10) / 4) * 4 = lN (((((N / 201) / 3) / 4) / 10) % 4) ∧ lN (((((N / 201) / 3) / 4) / 10) / 4) / 541 = lN ((((((N / 201) / 3) / 4) / 10) / 4) / 541) ∧ lN (((((N / 201) / 3) / 4) / 10) / 4) - lN ((((((N / 201) / 3) / 4) / 10) / 4) / 541) * 541 = lN ((((((N / 201) / 3) / 4) / 10) / 4) % 541) ∧ lN ((((((N / 201) / 3) / 4) / 10) / 4) / 541) / 7 = lN (((((((N / 201) / 3) / 4) / 10) / 4) / 541) / 7) ∧ lN ((((((N / 201) / 3) / 4) / 10) / 4) / 541) - lN (((((((N / 201) / 3) / 4) / 10) / 4) / 541) / 7) * 7 = lN (((((((N / 201) / 3) / 4) / 10) / 4) / 541) % 7) ∧ lN (((((((N / 201) / 3) / 4) / 10) / 4) / 541) / 7) / 6 = lN ((((((((N / 201) / 3) / 4) / 10) / 4) / 541) / 7) / 6) ∧ lN (((((((N / 201) / 3) / 4) / 10) / 4) / 541) / 7) - lN ((((((((N / 201) / 3) / 4) / 10) / 4) / 541) / 7) / 6) * 6 = lN ((((((((N / 201) / 3) / 4) / 10) / 4) / 541) / 7) % 6) := by
  have b0 : N < 2 ^ 63 := hN
  have b1 : (N / 201) < 2 ^ 63 := Nat.lt_of_le_of_lt (Nat.div_le_self _ _) b0
  have b2 : ((N / 201) / 3) < 2 ^ 63 := Nat.lt_of_le_of_lt (Nat.div_le_self _ _) b1
  have b3 : (((N / 201) / 3) / 4) < 2 ^ 63 := Nat.lt_of_le_of_lt (Nat.div_le_self _ _) b2
  have b4 : ((((N / 201) / 3) / 4) / 10) < 2 ^ 63 := Nat.lt_of_le_of_lt (Nat.div_le_self _ _) b3
  have b5 : (((((N / 201) / 3) / 4) / 10) / 4) < 2 ^ 63 := Nat.lt_of_le_of_lt (Nat.div_le_self _ _) b4
  have b6 : ((((((N / 201) / 3) / 4) / 10) / 4) / 541) < 2 ^ 63 := Nat.lt_of_le_of_lt (Nat.div_le_self _ _) b5
  have b7 : (((((((N / 201) / 3) / 4) / 10) / 4) / 541) / 7) < 2 ^ 63 := Nat.lt_of_le_of_lt (Nat.div_le_self _ _) b6
  have b8 : ((((((((N / 201) / 3) / 4) / 10) / 4) / 541) / 7) / 6) < 2 ^ 63 := Nat.lt_of_le_of_lt (Nat.div_le_self _ _) b7
  exact ⟨(dm b0 (d := 201) (by decide) (by decide)).1, (dm b0 (d := 201) (by decide) (by decide)).2, (dm b1 (d := 3) (by decide) (by decide)).1, (dm b1 (d := 3) (by decide) (by decide)).2, (dm b2 (d := 4) (by decide) (by decide)).1, (dm b2 (d := 4) (by decide) (by decide)).2, (dm b3 (d := 10) (by decide) (by decide)).1, (dm b3 (d := 10) (by decide) (by decide)).2, (dm b4 (d := 4) (by decide) (by decide)).1, (dm b4 (d := 4) (by decide) (by decide)).2, (dm b5 (d := 541) (by decide) (by decide)).1, (dm b5 (d := 541) (by decide) (by decide)).2, (dm b6 (d := 7) (by decide) (by decide)).1, (dm b6 (d := 7) (by decide) (by decide)).2, (dm b7 (d := 6) (by decide) (by decide)).1, (dm b7 (d := 6) (by decide) (by decide)).2⟩
theorem rest_r {R : MM} {j : Nat} {D : DT} {n : Nat → Nat} (hj : RI R j D) (hd : DN D n) (hb : NB n) (hvd : VD D n) {N : Nat} (hN : N < 2 ^ 63) :
    (((((((((N / 201) / 3) / 4) / 10) / 4) / 541) / 7) / 6) ≤ 65536 ∧ OKI D n ((((((((N / 201) / 3) / 4) / 10) / 4) / 541) / 7) % 6) (N % 201) ((((N / 201) / 3) / 4) % 10) (((N / 201) / 3) % 4) ((N / 201) % 3) (((((((N / 201) / 3) / 4) / 10) / 4) / 541) % 7) (((((N / 201) / 3) / 4) / 10) % 4) → f_X13_restore R 118 (lN N) = some (1, pI (pI (pI (pI (pI (pI (pI (pI (pI (pI (pI (pI R 118 0 0) 118 16 (nI ((((((((N / 201) / 3) / 4) / 10) / 4) / 541) / 7) / 6))) 118 17 (nI ((((N / 201) / 3) / 4) % 10))) 118 18 (nI (((N / 201) / 3) % 4))) 118 19 (nI ((N / 201) % 3))) 118 20 (nI (N % 201))) 118 21 (nI ((((((((N / 201) / 3) / 4) / 10) / 4) / 541) / 7) % 6))) 118 22 (nI (((((((N / 201) / 3) / 4) / 10) / 4) / 541) % 7))) 118 23 (nI ((((((N / 201) / 3) / 4) / 10) / 4) % 541))) 118 24 (if (((((N / 201) / 3) / 4) / 10) % 4) = 3 then -2 else nI (((((N / 201) / 3) / 4) / 10) % 4))) 118 1 0) 118 2 (-1))) ∧ (¬ (((((((((N / 201) / 3) / 4) / 10) / 4) / 541) / 7) / 6) ≤ 65536 ∧ OKI D n ((((((((N / 201) / 3) / 4) / 10) / 4) / 541) / 7) % 6) (N % 201) ((((N / 201) / 3) / 4) % 10) (((N / 201) / 3) % 4) ((N / 201) % 3) (((((((N / 201) / 3) / 4) / 10) / 4) / 541) % 7) (((((N / 201) / 3) / 4) / 10) % 4)) → f_X13_restore R 118 (lN N) = some (0, rM R 2)) := by
  have ⟨e1, m1, e2, m2, e3, m3, e4, m4, e5, m5, e6, m6, e7, m7, e8, m8⟩ := parts_l hN
  have n3 := hb.2.1
  have n4 := hb.1
  have n10 := hb.2.2.1
  have q0 : 0 ≤ lg_cmp (lN N) 0 := (lg_cmp_ge _ _).mpr ((pk_lLE (a := 0) (by decide) hN).mpr (Nat.zero_le N))
  have q8 : (0 ≤ lg_cmp (lN ((((((((N / 201) / 3) / 4) / 10) / 4) / 541) / 7) / 6)) 65537) ↔ ¬ ((((((((N / 201) / 3) / 4) / 10) / 4) / 541) / 7) / 6) ≤ 65536 := (lg_cmp_ge _ _).trans ((pk_lLE (a := 65537) (by decide) (Nat.lt_of_le_of_lt (Nat.le_trans (Nat.div_le_self _ _) (Nat.le_trans (Nat.div_le_self _ _) (Nat.le_trans (Nat.div_le_self _ _) (Nat.le_trans (Nat.div_le_self _ _) (Nat.le_trans (Nat.div_le_self _ _) (Nat.le_trans (Nat.div_le_self _ _) (Nat.le_trans (Nat.div_le_self _ _) (Nat.div_le_self _ _)))))))) hN)).trans (by omega))
  have bp : (N % 201) < 201 := Nat.mod_lt _ (by decide)
  have br : ((N / 201) % 3) < 3 := Nat.mod_lt _ (by decide)
  have bw : (((N / 201) / 3) % 4) < 4 := Nat.mod_lt _ (by decide)
  have bs : ((((N / 201) / 3) / 4) % 10) < 10 := Nat.mod_lt _ (by decide)
  have bl : (((((N / 201) / 3) / 4) / 10) % 4) < 4 := Nat.mod_lt _ (by decide)
  have bpl : (((((((N / 201) / 3) / 4) / 10) / 4) / 541) % 7) < 7 := Nat.mod_lt _ (by decide)
  have bt : ((((((((N / 201) / 3) / 4) / 10) / 4) / 541) / 7) % 6) < 6 := Nat.mod_lt _ (by decide)
  unfold f_X13_restore f_X13_denied f_X13_refused f_X13_granted f_X13_done
  simp only [e1, m1, e2, m2, e3, m3, e4, m4, e5, m5, e6, m6, e7, m7, e8, m8, lN_i, (hj.t 0).j, oc_x, ob_s, if_pos q0]
  generalize ((((((((N / 201) / 3) / 4) / 10) / 4) / 541) / 7) / 6) = sd at *
  generalize ((((((((N / 201) / 3) / 4) / 10) / 4) / 541) / 7) % 6) = to at *
  generalize (((((((N / 201) / 3) / 4) / 10) / 4) / 541) % 7) = pl at *
  generalize ((((((N / 201) / 3) / 4) / 10) / 4) % 541) = mi at *
  generalize (((((N / 201) / 3) / 4) / 10) % 4) = li at *
  generalize ((((N / 201) / 3) / 4) % 10) = st at *
  generalize (((N / 201) / 3) % 4) = w at *
  generalize ((N / 201) % 3) = r at *
  generalize (N % 201) = pe at *
  clear e1 m1 e2 m2 e3 m3 e4 m4 e5 m5 e6 m6 e7 m7 e8 m8
  by_cases c8 : sd ≤ 65536
  · rw [if_neg (fun z => (q8.mp z) c8)]
    by_cases ct : to = 0
    · rw [if_pos (show nI to = 0 by rw [ct]; rfl)]
      exact ⟨fun q => absurd ct q.2.2.2.2.2.2.2, fun _ => rfl⟩
    rw [if_neg (nI_ne0 (by omega) (by omega))]
    by_cases cs : st < n 2
    · rw [isStatue_s (hj.t 0) hd.2.2.1 cs (by omega), ob_s, if_neg (show ¬ (1 : Int32) = 0 by decide)]
      by_cases cw : w < n 0
      · rw [isWay_s (hj.t 0) hd.1 cw (by omega), ob_s, if_neg (show ¬ (1 : Int32) = 0 by decide)]
        by_cases cr : r < n 1
        · obtain ⟨h, x1, x6, xe⟩ := hvd.2.1 r cr
          rw [isRoad_s (hj.t 0) hd.2.1 cr (by omega), ob_s, if_neg (show ¬ (1 : Int32) = 0 by decide)]
          by_cases cp : pe = 0
          · rw [if_pos (show nI pe = 0 by rw [cp]; rfl)]
            exact ⟨fun q => absurd cp q.2.2.2.2.2.2.1, fun _ => rfl⟩
          rw [if_neg (nI_ne0 (by omega) (by omega))]
          simp only [(hj.t 0).s.k13, oc_x, chk_m br (show (3 : Nat) < 2147483648 by decide), ix_n (show r < 2147483648 by omega), (hj.t 0).d 5 r (by decide), xe]
          have e3 : nI to = 3 ↔ to = 3 := nI_eq (b := 3) (by omega) (by omega)
          have e2 : nI to = 2 ↔ to = 2 := nI_eq (b := 2) (by omega) (by omega)
          have l3 : nI li = 3 ↔ li = 3 := nI_eq (b := 3) (by omega) (by omega)
          have ph : nI pl = nI h ↔ pl = h := nI_eq (by omega) (by omega)
          have ph2 : nI pl < nI h ↔ pl < h := nI_ltI (by omega) (by omega)
          have hh : (∃ h', D 5 r = nI h' ∧ h' ≤ 6 ∧ ((to = 2 ∧ pl = h') ∨ (to ≠ 2 ∧ pl < h'))) ↔ ((to = 2 ∧ pl = h) ∨ (to ≠ 2 ∧ pl < h)) := by
            constructor
            · rintro ⟨h', a1, a2, a3⟩
              have : h = h' := (nI_eq (by omega) (by omega)).mp (xe.symm.trans a1)
              rw [this]; exact a3
            · exact fun z => ⟨h, xe, x6, z⟩
          unfold OKI OKL
          rw [hh]
          simp only [e3, e2, l3, ph, ph2, c8, cs, cw, cr, cp, ct, true_and, ne_eq, not_false_eq_true, and_true]
          clear hh e3 e2 l3 ph ph2 q8 hvd
          by_cases i3 : li = 3
          · simp only [if_pos i3]
            by_cases t3 : to = 3
            · simp only [if_pos t3]
              exact ⟨fun q => by omega, fun _ => rfl⟩
            · simp only [if_neg t3]
              by_cases t2 : to = 2
              · simp only [if_pos t2]
                by_cases p1 : pl = h
                · simp only [if_pos p1]
                  exact ⟨fun _ => trivial, fun q => absurd ⟨Or.inl ⟨t2, p1⟩, Or.inr ⟨t3, i3⟩⟩ q⟩
                · simp only [if_neg p1]
                  exact ⟨fun q => by omega, fun _ => rfl⟩
              · simp only [if_neg t2]
                by_cases p1 : pl < h
                · simp only [if_pos p1]
                  exact ⟨fun _ => trivial, fun q => absurd ⟨Or.inr ⟨t2, p1⟩, Or.inr ⟨t3, i3⟩⟩ q⟩
                · simp only [if_neg p1]
                  exact ⟨fun q => by omega, fun _ => rfl⟩
          · simp only [if_neg i3]
            by_cases t3 : to = 3
            · have t2 : ¬ to = 2 := by omega
              simp only [if_pos t3, if_neg t2]
              by_cases p1 : pl < h
              · simp only [if_pos p1]
                exact ⟨fun _ => trivial, fun q => absurd ⟨Or.inr ⟨t2, p1⟩, Or.inl ⟨t3, i3⟩⟩ q⟩
              · simp only [if_neg p1]
                exact ⟨fun q => by omega, fun _ => rfl⟩
            · simp only [if_neg t3]
              exact ⟨fun q => by omega, fun _ => rfl⟩
        · rw [isRoad_n (hj.t 0) hd.2.1 (Or.inr (nI_le (show n 1 ≤ r by omega) (by omega))), ob_s, if_pos rfl]
          exact ⟨fun q => absurd q.2.1 cr, fun _ => rfl⟩
      · rw [isWay_n (hj.t 0) hd.1 (Or.inr (nI_le (show n 0 ≤ w by omega) (by omega))), ob_s, if_pos rfl]
        exact ⟨fun q => absurd q.2.2.2.1 cw, fun _ => rfl⟩
    · rw [isStatue_n (hj.t 0) hd.2.2.1 (Or.inr (nI_le (show n 2 ≤ st by omega) (by omega))), ob_s, if_pos rfl]
      exact ⟨fun q => absurd q.2.2.1 cs, fun _ => rfl⟩
  · rw [if_pos (q8.mpr c8)]
    exact ⟨fun q => absurd q.1 c8, fun _ => rfl⟩
theorem t_restore {C R : MM} (h : TOP C R) (x1 : Int64) : FT C R (f_X11_restore C 1 x1) (f_X13_restore R 118 x1) := by
  have h0 := h
  obtain ⟨jo, sc, ic, sp, hS, hR, hQ, hP, hV, hD, hI⟩ := h
  have hi := ic14 hS
  rcases hI with ⟨hb, hr, -⟩ | ⟨j, D, n, hc, hj, hT, hJ⟩
  · refine (QQ.mk 0 1 (by decide) ?_ ?_).top h0
    · unfold f_X11_restore
      simp only [hS.a5, oc_x, oc_z, ob_s, if_true, if_false, l00, l01, l02, l10, l11, l12, bare_b hb, f_X11_denied]
    · unfold f_X13_restore
      rw [show gR (pI R 118 0 0) 118 3 = none from hr, oc_z]
      simp only [oc_x, oc_z, ob_s, if_true, if_false, l00, l01, l02, l10, l11, l12, f_X13_denied, f_X13_refused]
      rfl
  -- refused: the other journey alone was written
  have bad : ∀ C1 : MM, C1.2.2 = C.2.2 → (∀ b k, b ≠ sc → gI C1 b k = gI C b k) → TOP (pI C1 1 7 2) (rM R 2) := by
    intro C1 eC fC
    have e : ∀ a k, (a ≠ sc ∧ a ≠ 1) → gI (pI C1 1 7 2) a k = gI C a k := fun a k q => by rw [gI_pIa q.2]; exact fC a k q.1
    have r : ∀ a k, a ≠ 118 ∨ 3 ≤ k → gI (rM R 2) a k = gI R a k := fun a k q => by
      unfold rM
      rw [gI_pIn (by omega), gI_pIn (by omega), gI_pIn (by omega)]
    refine TOP.mv (jo' := jo) (sc' := sc) (sp := sp) hR hP hV (hS.congr eC) rfl (fun a k q => e a k (by omega)) (fun a k q => r a k (by omega)) ?_ ?_ ?_
    · refine TQ.mk' (tr := 2) (by decide) (gI_pIs _ _ _ _) ?_ (gI_pIs _ _ _ _) ?_
      · unfold rM; rw [gI_pIk (by decide), gI_pIs]
      · rw [e 4 5 (by omega), r 118 13 (by omega)]; exact hQ.2.1
    · unfold SD at *
      simp (disch := omega) only [e, r]
      exact hD
    · refine Or.inr ⟨j, D, n, hc.congr (fun a k q => e a k (by omega)) eC hi.1, hj.congr (fun a k q => r a k (by omega)) rfl, hT.congr (fun a k q => e a k (by omega)) hi.1, ?_⟩
      unfold JN JB at *
      simp (disch := omega) only [e, r]
      exact hJ
  have fail : ∀ C1 : MM, C1.2.2 = C.2.2 → (∀ b k, b ≠ sc → gI C1 b k = gI C b k) → f_X1_fromImage C sc x1 ic = some (0, C1) → f_X13_restore R 118 x1 = some (0, rM R 2) → FT C R (f_X11_restore C 1 x1) (f_X13_restore R 118 x1) := by
    intro C1 eC fC e1 e2
    refine ⟨0, pI C1 1 7 2, rM R 2, ?_, e2, bad C1 eC fC⟩
    unfold f_X11_restore
    simp only [hS.a5, hS.a4, oc_x, oc_z, ob_s, if_true, if_false, l00, l01, l02, l10, l11, l12, live_b hc, e1, f_X11_denied]
  have fr : ∀ (v1 v2 v3 v4 v5 v6 v7 v8 : Int32) (b k : Nat), b ≠ sc → gI (pI (pI (pI (pI (pI (pI (pI (pI C sc 3 v1) sc 6 v2) sc 5 v3) sc 4 v4) sc 10 v5) sc 8 v6) sc 7 v7) sc 2 v8) b k = gI C b k := fun v1 v2 v3 v4 v5 v6 v7 v8 b k hb => by
    rw [gI_pIa hb, gI_pIa hb, gI_pIa hb, gI_pIa hb, gI_pIa hb, gI_pIa hb, gI_pIa hb, gI_pIa hb]
  by_cases hx : x1 < 0
  · refine fail _ ?_ ?_ (show f_X1_fromImage C sc x1 ic = _ from by unfold f_X1_fromImage; rw [if_pos ((lg_cmp_lt _ _).mpr hx)]) ?_
    · rfl
    · exact fr _ _ _ _ _ _ _ _
    · unfold f_X13_restore
      rw [(hj.t 0).j, oc_x, if_neg (fun z => absurd ((lg_cmp_ge _ _).mp z) (Int64.not_le.mpr hx)), f_X13_denied, f_X13_refused, ob_s, ob_s]
      rfl
  obtain ⟨N, hN, rfl⟩ := pk_lOf hx
  have hrr := rest_r hj hc.dn hc.nb hc.vd hN
  obtain ⟨e1, m1, e2, m2, e3, m3, e4, m4, e5, m5, e6, m6, e7, m7, e8, m8⟩ := parts_l hN
  have bp : (N % 201) < 201 := Nat.mod_lt _ (by decide)
  have br : ((N / 201) % 3) < 3 := Nat.mod_lt _ (by decide)
  have bw : (((N / 201) / 3) % 4) < 4 := Nat.mod_lt _ (by decide)
  have bs : ((((N / 201) / 3) / 4) % 10) < 10 := Nat.mod_lt _ (by decide)
  have bl : (((((N / 201) / 3) / 4) / 10) % 4) < 4 := Nat.mod_lt _ (by decide)
  have bpl : (((((((N / 201) / 3) / 4) / 10) / 4) / 541) % 7) < 7 := Nat.mod_lt _ (by decide)
  have bt : ((((((((N / 201) / 3) / 4) / 10) / 4) / 541) / 7) % 6) < 6 := Nat.mod_lt _ (by decide)
  have q0 : ¬ lg_cmp (lN N) 0 < 0 := fun z => hx ((lg_cmp_lt _ _).mp z)
  have q8 : (0 < lg_cmp (lN ((((((((N / 201) / 3) / 4) / 10) / 4) / 541) / 7) / 6)) 65536) ↔ ¬ ((((((((N / 201) / 3) / 4) / 10) / 4) / 541) / 7) / 6) ≤ 65536 := (lg_cmp_gt _ _).trans ((pk_lLT (a := 65536) (by decide) (Nat.lt_of_le_of_lt (Nat.le_trans (Nat.div_le_self _ _) (Nat.le_trans (Nat.div_le_self _ _) (Nat.le_trans (Nat.div_le_self _ _) (Nat.le_trans (Nat.div_le_self _ _) (Nat.le_trans (Nat.div_le_self _ _) (Nat.le_trans (Nat.div_le_self _ _) (Nat.le_trans (Nat.div_le_self _ _) (Nat.div_le_self _ _)))))))) hN)).trans (by omega))
  have hfi : f_X1_fromImage C sc (lN N) ic = f_X1_fromImage C sc (lN N) ic := rfl
  conv at hfi => rhs; unfold f_X1_fromImage
  simp only [e1, m1, e2, m2, e3, m3, e4, m4, e5, m5, e6, m6, e7, m7, e8, m8, lN_i, if_neg q0] at hfi
  clear e1 m1 e2 m2 e3 m3 e4 m4 e5 m5 e6 m6 e7 m7 e8 m8
  generalize ((((((((N / 201) / 3) / 4) / 10) / 4) / 541) / 7) / 6) = sd at *
  generalize ((((((((N / 201) / 3) / 4) / 10) / 4) / 541) / 7) % 6) = to at *
  generalize (((((((N / 201) / 3) / 4) / 10) / 4) / 541) % 7) = pl at *
  generalize ((((((N / 201) / 3) / 4) / 10) / 4) % 541) = mi at *
  generalize (((((N / 201) / 3) / 4) / 10) % 4) = li at *
  generalize ((((N / 201) / 3) / 4) % 10) = st at *
  generalize (((N / 201) / 3) % 4) = w at *
  generalize ((N / 201) % 3) = r at *
  generalize (N % 201) = pe at *
  by_cases c8 : sd ≤ 65536
  · rw [if_neg (fun z => (q8.mp z) c8)] at hfi
    obtain ⟨C1, hC1⟩ : ∃ C1, C1 = pI (pI (pI (pI (pI (pI (pI (pI C sc 3 (nI pe)) sc 6 (nI r)) sc 5 (nI w)) sc 4 (nI st)) sc 10 (nI li)) sc 8 (nI mi)) sc 7 (nI pl)) sc 2 (nI to) := ⟨_, rfl⟩
    rw [← hC1] at hfi
    have f1 : ∀ b k, b ≠ sc → gI C1 b k = gI C b k := fun b k hb => by rw [hC1]; exact fr _ _ _ _ _ _ _ _ b k hb
    have eC1 : C1.2.2 = C.2.2 := by rw [hC1]; rfl
    have g2 : gI C1 sc 2 = nI to := by rw [hC1]; simp (disch := omega) only [gI_pIs, gI_pIn]
    have g3 : gI C1 sc 3 = nI pe := by rw [hC1]; simp (disch := omega) only [gI_pIs, gI_pIn]
    have g4 : gI C1 sc 4 = nI st := by rw [hC1]; simp (disch := omega) only [gI_pIs, gI_pIn]
    have g5 : gI C1 sc 5 = nI w := by rw [hC1]; simp (disch := omega) only [gI_pIs, gI_pIn]
    have g6 : gI C1 sc 6 = nI r := by rw [hC1]; simp (disch := omega) only [gI_pIs, gI_pIn]
    have g7 : gI C1 sc 7 = nI pl := by rw [hC1]; simp (disch := omega) only [gI_pIs, gI_pIn]
    have g8 : gI C1 sc 8 = nI mi := by rw [hC1]; simp (disch := omega) only [gI_pIs, gI_pIn]
    have g10 : gI C1 sc 10 = nI li := by rw [hC1]; simp (disch := omega) only [gI_pIs, gI_pIn]
    have hcC : CI C1 ic D n := hc.congr (fun a k q => f1 a k (by omega)) eC1 hi.1
    rcases isOf_c hcC g2 g3 g4 g5 g6 g7 g10 bt bl bp bs bw br bpl with ⟨ho, hok⟩ | ⟨ho, hok⟩
    · have hR1 := hrr.1 ⟨c8, hok⟩
      obtain ⟨o1, o2, o3, ⟨h, x1, x2, x3⟩, o5, o6, o7⟩ := hok
      obtain ⟨⟨kd, kd4, hkd⟩, -⟩ := hc.vd.1 w o3
      -- what the class makes of it, whole
      have cls : ∃ C2 : MM, ∃ lie : Int32, f_X1_fromImage C sc (lN N) ic = some (1, C2) ∧ C2.2.2 = C.2.2 ∧ (∀ b k, b ≠ sc → gI C2 b k = gI C b k) ∧ lie = (if li = 3 then -2 else nI li) ∧ gI C2 sc 0 = nI sd ∧ gI C2 sc 1 = 1 ∧ gI C2 sc 2 = nI to ∧ gI C2 sc 3 = nI pe ∧ gI C2 sc 4 = nI st ∧ gI C2 sc 5 = nI w ∧ gI C2 sc 6 = nI r ∧ gI C2 sc 7 = nI pl ∧ gI C2 sc 8 = nI mi ∧ gI C2 sc 9 = (stv 3 kd * D 7 st) * nI (if to = 3 then pl + 1 else pl) ∧ gI C2 sc 10 = lie := by
        rw [ho, ob_s, if_neg (show ¬ (1 : Int32) = 0 by decide), gI_pIk (show 2 ≠ 0 by decide), gI_pIk (show 2 ≠ 1 by decide), g2] at hfi
        have wd : ∀ M2 : MM, (∀ b k, b ≠ sc → gI M2 b k = gI C b k) → M2.2.2 = C.2.2 → gI M2 sc 4 = nI st → gI M2 sc 5 = nI w → gI M2 sc 2 = nI to → gI M2 sc 7 = nI pl → f_X1_woodSoFar M2 sc ic = some ((stv 3 kd * D 7 st) * nI (if to = 3 then pl + 1 else pl)) := by
          intro M2 a1 a2 a3 a4 a5 a6
          have hc2 : CI M2 ic D n := hc.congr (fun a k q => a1 a k (by omega)) a2 hi.1
          unfold f_X1_woodSoFar
          rw [a3, hc2.s o2, ob_s, oc_x, a4, hc2.w o3, ob_s, oc_x, (hc2.ce.2.2.1 st o2).1, woodFor_c ((EWk hc2 o3).2.1.trans hkd) kd4, ob_s, a5, a6]
          by_cases t3 : to = 3
          · rw [if_pos (show nI to = 3 by rw [t3]; rfl), if_pos t3, nI_1 pl]
          · rw [if_neg (show ¬ (nI to = (3 : Int32)) from fun z => t3 ((nI_eq (a := to) (b := 3) (by omega) (by omega)).mp z)), if_neg t3]
        by_cases t3 : to = 3
        · rw [if_pos (show nI to = 3 by rw [t3]; rfl), wd (pI (pI C1 sc 1 1) sc 0 (nI sd)) (fun b k hb => by rw [gI_pIa hb, gI_pIa hb]; exact f1 b k hb) eC1 (by rw [gI_pIk (by decide), gI_pIk (by decide)]; exact g4) (by rw [gI_pIk (by decide), gI_pIk (by decide)]; exact g5) (by rw [gI_pIk (by decide), gI_pIk (by decide)]; exact g2) (by rw [gI_pIk (by decide), gI_pIk (by decide)]; exact g7), ob_s] at hfi
          have l3 : li ≠ 3 := by
            rcases o5 with q | q
            · exact q.2
            · exact absurd t3 q.1
          refine ⟨_, nI li, hfi, eC1, fun b k hb => ?_, (if_neg l3).symm, ?_⟩
          · rw [gI_pIa hb, gI_pIa hb, gI_pIa hb]; exact f1 b k hb
          · simp (disch := omega) only [gI_pIs, gI_pIn]
            exact ⟨trivial, trivial, g2, g3, g4, g5, g6, g7, g8, trivial, g10⟩
        · rw [if_neg (show ¬ (nI to = (3 : Int32)) from fun z => t3 ((nI_eq (a := to) (b := 3) (by omega) (by omega)).mp z)), wd (pI (pI (pI C1 sc 1 1) sc 0 (nI sd)) sc 10 (-2)) (fun b k hb => by rw [gI_pIa hb, gI_pIa hb, gI_pIa hb]; exact f1 b k hb) eC1 (by rw [gI_pIk (by decide), gI_pIk (by decide), gI_pIk (by decide)]; exact g4) (by rw [gI_pIk (by decide), gI_pIk (by decide), gI_pIk (by decide)]; exact g5) (by rw [gI_pIk (by decide), gI_pIk (by decide), gI_pIk (by decide)]; exact g2) (by rw [gI_pIk (by decide), gI_pIk (by decide), gI_pIk (by decide)]; exact g7), ob_s] at hfi
          have l3 : li = 3 := by
            rcases o5 with q | q
            · exact absurd q.1 t3
            · exact q.2
          refine ⟨_, -2, hfi, eC1, fun b k hb => ?_, (if_pos l3).symm, ?_⟩
          · rw [gI_pIa hb, gI_pIa hb, gI_pIa hb, gI_pIa hb]; exact f1 b k hb
          · simp (disch := omega) only [gI_pIs, gI_pIn]
            exact ⟨trivial, trivial, g2, g3, g4, g5, g6, g7, g8, trivial, trivial⟩
      obtain ⟨C2, lie, e1, eC2, f2, hlie, c0, c1, c2, c3, c4, c5, c6, c7, c9, c10, c11⟩ := cls
      have hS2 : ST C2 jo sc ic sp := hS.congr eC2
      refine ⟨1, pI (pR (pR C2 1 3 (some sc)) 1 4 (some jo)) 1 7 0, _, ?_, hR1, ?_⟩
      · unfold f_X11_restore
        simp only [hS.a5, hS.a4, oc_x, oc_z, ob_s, if_true, if_false, l00, l01, l02, l10, l11, l12, live_b hc, e1, hS2.a3, hS2.a4, f_X11_allowed]
      · have e : ∀ a k, (a ≠ sc ∧ a ≠ 1) → gI (pI (pR (pR C2 1 3 (some sc)) 1 4 (some jo)) 1 7 0) a k = gI C a k := fun a k q => by rw [gI_pIa q.2]; exact f2 a k q.1
        have e' : ∀ k, gI (pI (pR (pR C2 1 3 (some sc)) 1 4 (some jo)) 1 7 0) sc k = gI C2 sc k := fun k => gI_pIa (by omega)
        have hS3 : ST (pI (pR (pR C2 1 3 (some sc)) 1 4 (some jo)) 1 7 0) sc jo ic sp := hS2.swap.congr rfl
        obtain ⟨R2, hR2⟩ : ∃ R2, R2 = pI (pI (pI (pI (pI (pI (pI (pI (pI (pI R 118 0 0) 118 16 (nI sd)) 118 17 (nI st)) 118 18 (nI w)) 118 19 (nI r)) 118 20 (nI pe)) 118 21 (nI to)) 118 22 (nI pl)) 118 23 (nI mi)) 118 24 (if li = 3 then -2 else nI li) := ⟨_, rfl⟩
        rw [← hR2]
        have rQ : ∀ a k, a ≠ 118 ∨ (3 ≤ k ∧ (k < 16 ∨ 24 < k)) → gI (pI (pI R2 118 1 0) 118 2 (-1)) a k = gI R a k := fun a k q => by
          rw [hR2]
          simp (disch := omega) only [gI_pIn]
        have rr : gI R2 118 16 = nI sd ∧ gI R2 118 17 = nI st ∧ gI R2 118 18 = nI w ∧ gI R2 118 19 = nI r ∧ gI R2 118 20 = nI pe ∧ gI R2 118 21 = nI to ∧ gI R2 118 22 = nI pl ∧ gI R2 118 23 = nI mi ∧ gI R2 118 24 = lie := by
          rw [hR2, hlie]
          simp (disch := omega) only [gI_pIs, gI_pIn]
          exact ⟨trivial, trivial, trivial, trivial, trivial, trivial, trivial, trivial, trivial⟩
        obtain ⟨r16, r17, r18, r19, r20, r21, r22, r23, r24⟩ := rr
        have eR2 : (pI (pI R2 118 1 0) 118 2 (-1)).2.2 = R.2.2 := by rw [hR2]; rfl
        have hjI : CI (pI (pR (pR C2 1 3 (some sc)) 1 4 (some jo)) 1 7 0) ic D n := by
          have a1 := hc.congr (M' := C2) (fun a k q => f2 a k (by omega)) eC2 hi.1
          exact ⟨hS3.isI, a1.nb, a1.vd, a1.ce.congr (fun a k q => gI_pIa (by omega)) hi.1, a1.cn.congr (fun a k q => gI_pIa (by omega)) hi.1, a1.ef.congr (fun a k q => gI_pIa (by omega)) hi.1, a1.dn, a1.n0⟩
        refine TOP.mv (jo' := sc) (sc' := jo) (sp := sp) hR hP hV hS3 eR2 (fun a k q => e a k (by omega)) (fun a k q => rQ a k (by omega)) ?_ ⟨sd, c8, ?_, ?_⟩ ?_
        · refine TQ.mk' (tr := 0) (by decide) (gI_pIs _ _ _ _) ?_ (gI_pIs _ _ _ _) ?_
          · rw [gI_pIk (by decide), gI_pIs]
          · rw [e 4 5 (by omega), rQ 118 13 (by omega)]; exact hQ.2.1
        · rw [e']; exact c0
        · simp (disch := omega) only [gI_pIn]; exact r16
        · refine Or.inr ⟨j, D, n, hjI, hj.congr (fun a k q => rQ a k (by omega)) eR2, hT.congr (fun a k q => e a k (by omega)) hi.1, Or.inr ⟨st, w, _, pe, to, pl, h, kd, o2, o3, o1, by omega, by omega, ⟨x2, x1⟩, ⟨kd4, hkd⟩, by omega, by omega, ?_⟩⟩
          simp only [e']
          simp (disch := omega) only [gI_pIn]
          refine ⟨c1, c2, c3, c4, c5, c6, c7, c10, ?_, r17, r18, r19, r20, r21, r22, r23.trans c9.symm, r24.trans c11.symm⟩
          rcases o5 with ⟨q1, q2⟩ | ⟨q1, q2⟩
          · exact Or.inl ⟨q1, li, by omega, by rw [c11, hlie, if_neg q2]⟩
          · exact Or.inr ⟨q1, by rw [c11, hlie, if_pos q2]⟩
    · rw [ho, ob_s, if_pos rfl] at hfi
      exact fail C1 eC1 f1 hfi (hrr.2 (fun q => hok q.2))
  · rw [if_pos (q8.mpr c8)] at hfi
    refine fail _ ?_ ?_ hfi (hrr.2 (fun q => c8 q.1))
    · rfl
    · exact fr _ _ _ _ _ _ _ _
