/-! TREES: the calls -/
theorem SR.t {C R : MM} (h : SR C R) (v : Int32) : SR C (pI R 118 0 v) := by
  unfold SR at *
  simp (disch := omega) only [gI_pIn]
  exact h
theorem RT.t {R : MM} (h : RT R) (v : Int32) : RT (pI R 118 0 v) := h
theorem year_c (M : MM) (x : Int32) : f_X11_isYear M x = some (if x < 0 then 0 else if 100 ≤ x then 0 else 1) := by
  unfold f_X11_isYear
  split
  · rfl
  · split <;> rfl
theorem year01 (x : Int32) : ((if x < 0 then (0 : Int32) else if 100 ≤ x then 0 else 1) = 0 ∧ (if x < 0 then (0 : Int32) else if 99 < x then 0 else 1) = 0) ∨ ((if x < 0 then (0 : Int32) else if 100 ≤ x then 0 else 1) = 1 ∧ (if x < 0 then (0 : Int32) else if 99 < x then 0 else 1) = 1 ∧ ∃ y, y < 100 ∧ x = nI y) := by
  by_cases h : x < 0
  · rw [if_pos h, if_pos h]; exact Or.inl ⟨rfl, rfl⟩
  · rw [if_neg h, if_neg h]
    obtain ⟨y, hy, rfl⟩ := nI_of h
    by_cases h2 : 100 ≤ y
    · rw [if_pos (show (100 : Int32) ≤ nI y from nI_le (a := 100) h2 hy), if_pos (show (99 : Int32) < nI y from nI_lt (a := 99) (by omega) hy)]
      exact Or.inl ⟨rfl, rfl⟩
    · rw [if_neg (show ¬ (100 : Int32) ≤ nI y from nI_ge (b := 100) (by omega) (by decide)), if_neg (show ¬ (99 : Int32) < nI y from nI_nlt (a := 99) (b := y) (by omega) (by decide))]
      exact Or.inr ⟨rfl, rfl, y, by omega, rfl⟩
section GONE
variable {C R : MM} {ic j : Nat} {D : DT} {n : Nat → Nat}
theorem gone_l (hc : CI C ic D n) (hj : RI R j D) (hT : TR C ic D n) (hl : ¬ D 0 27 = -1) {i : Nat} (hi : i < n 4) : ∀ (d y f1 f2 : Nat), y + d = 100 → d < f1 → d < f2 →
    ∃ v, f_X6_yearGone_L2 f1 C (ic + (34 + 2 * i)) (nI y) = some v ∧ f_X13_gone_L39 f2 R 118 (nI i) (nI y) = some (v, pI (pI R 118 1 0) 118 2 (-1)) := by
  have n5 := hc.nb.2.2.2.2.1
  have hvy := hc.vd.2.2.2.2 i hi
  intro d
  induction d with
  | zero =>
    intro y f1 f2 hk g1 g2
    obtain ⟨f1, rfl⟩ := suc g1
    obtain ⟨f2, rfl⟩ := suc g2
    have hy : (100 : Int32) ≤ nI y := nI_le (a := 100) (by omega) (by omega)
    rw [f_X6_yearGone_L2, hc.is.ct i (by omega), oc_x, if_pos hy, f_X13_gone_L39, if_pos hy, f_X13_done, ob_s]
    exact ⟨-2, rfl, rfl⟩
  | succ d ih =>
    intro y f1 f2 hk g1 g2
    obtain ⟨f1, rfl⟩ := suc g1
    obtain ⟨f2, rfl⟩ := suc g2
    have hy : ¬ (100 : Int32) ≤ nI y := nI_ge (b := 100) (by omega) (by decide)
    rw [f_X6_yearGone_L2, hc.is.ct i (by omega), oc_x, if_neg hy, oc_x, chk_n (show y < 100 by omega) (by decide), ix_n (show y < 2147483648 by omega), hT hl i hi y (by omega), nI_1 y, f_X13_gone_L39, if_neg hy, treesIn_r hj (by omega) hvy (by omega), ob_s, nI_1 y, f_X13_done, ob_s]
    by_cases h : 10 ≤ tree D i y
    · rw [if_pos h, if_pos h]
      exact ih (y + 1) f1 f2 (by omega) (by omega) (by omega)
    · rw [if_neg h, if_neg h]
      exact ⟨_, rfl, rfl⟩
theorem flag8 (hc : CI C ic D n) : (f_X0_has C ic 8 0 = some 0 ∧ D 0 30 = -1) ∨ (f_X0_has C ic 8 0 = some 1 ∧ ¬ D 0 30 = -1 ∧ gI C ic 12 = D 0 30 ∧ gI C ic 13 = D 0 31) := by
  rcases hc.ef.2.2.1 with ⟨h1, h2⟩ | ⟨h1, ⟨t, h2, h3⟩, h4⟩
  · exact Or.inl ⟨has8_n (n := 0) hc.is h1 (Or.inr (by decide)), h2⟩
  · refine Or.inr ⟨has8_s (n := 1) (k := 0) hc.is h1 (by decide) (by decide), ?_, h4⟩
    rw [h3]
    exact m1_nI (by omega)
theorem flag9 (hc : CI C ic D n) : (f_X0_has C ic 9 0 = some 0 ∧ D 0 32 = -1) ∨ (f_X0_has C ic 9 0 = some 1 ∧ ¬ D 0 32 = -1 ∧ gI C ic 14 = D 0 32 ∧ gI C ic 15 = D 0 33 ∧ gI C ic 16 = D 0 34) := by
  rcases hc.ef.2.2.2 with ⟨h1, h2⟩ | ⟨h1, ⟨t, h2, h3⟩, h4⟩
  · exact Or.inl ⟨has9_n (n := 0) hc.is h1 (Or.inr (by decide)), h2⟩
  · refine Or.inr ⟨has9_s (n := 1) (k := 0) hc.is h1 (by decide) (by decide), ?_, h4⟩
    rw [h3]
    exact m1_nI (by omega)
end GONE
theorem q_trees {C R : MM} {jo sc ic sp : Nat} (hS : ST C jo sc ic sp) (hI : IR C R ic) (x1 x2 : Int32) : QQ C R (f_X11_trees C 1 x1 x2) (f_X13_trees R 118 x1 x2) := by
  unfold f_X11_trees f_X13_trees  
  rcases hI with ⟨hb, hr⟩ | ⟨j, D, n, hc, hj, hT⟩
  · refine QQ.mk (-1) 1 (by decide) ?_ ?_
    · simp only [hS.a5, oc_x, oc_z, ob_s, if_true, if_false, l00, l01, l02, l10, l11, l12, (bare_n hb _).2.2.2.2.1, f_X11_refused]
    · simp only [oc_x, oc_z, ob_s, if_true, if_false, l00, l01, l02, l10, l11, l12, (rnone (M := pI R 118 0 0) hr _).2.2.2, f_X13_refused]
      rfl
  rcases inr x1 (show n 4 < 2147483648 by have := hc.nb.2.2.2.2.1; omega) with hx1 | ⟨k1, hk1, rfl⟩
  · have c1 := storyAt_n hc.is hc.cn.2.2.2.2.1 hx1
    have r1 := isStory_n (hj.t 0) hc.dn.2.2.2.2.1 hx1
    refine QQ.mk (-1) 1 (by decide) ?_ ?_
    · simp only [hS.a5, oc_x, oc_z, ob_s, if_true, if_false, l00, l01, l02, l10, l11, l12, c1, f_X11_refused]
    · simp only [oc_x, oc_z, ob_s, if_true, if_false, l00, l01, l02, l10, l11, l12, r1, f_X13_refused]
      rfl
  · have c1 := hc.y hk1
    have r1 := isStory_s (hj.t 0) hc.dn.2.2.2.2.1 hk1 (show n 4 < 100 by have := hc.nb.2.2.2.2.1; omega)
    have n5 := hc.nb.2.2.2.2.1
    have hvy := hc.vd.2.2.2.2 k1 hk1
    rcases year01 x2 with ⟨y1, y2⟩ | ⟨y1, y2, y, y3, rfl⟩
    · refine QQ.mk (-1) 2 (by decide) ?_ ?_
      · simp only [hS.a5, oc_x, oc_z, ob_s, if_true, if_false, l00, l01, l02, l10, l11, l12, c1, year_c, y1, f_X11_refused]
      · simp only [oc_x, oc_z, ob_s, if_true, if_false, l00, l01, l02, l10, l11, l12, r1, in_eq, y2, f_X13_refused]
        rfl
    · rcases land_h hc with ⟨h1, h2⟩ | ⟨h1, h2, h3, -⟩
      · refine QQ.mk (-1) 6 (by decide) ?_ ?_
        · simp only [hS.a5, oc_x, oc_z, ob_s, if_true, if_false, l00, l01, l02, l10, l11, l12, c1, year_c, y1, h1, f_X11_refused]
        · simp only [oc_x, oc_z, ob_s, if_true, if_false, l00, l01, l02, l10, l11, l12, r1, in_eq, y2, (hj.t 0).j, (hj.t 0).d0, if_pos h2, f_X13_refused]
          rfl
      · refine QQ.mk (tree D k1 y) 0 (by decide) ?_ ?_
        · simp only [hS.a5, oc_x, oc_z, ob_s, if_true, if_false, l00, l01, l02, l10, l11, l12, c1, year_c, y1, h1, treesIn_c hc hT h2 hk1 y3, f_X11_granted]
        · simp only [oc_x, oc_z, ob_s, if_true, if_false, l00, l01, l02, l10, l11, l12, r1, in_eq, y2, (hj.t 0).j, (hj.t 0).d0, if_neg h2, treesIn_r (hj.t 0) (show k1 < 5 by omega) hvy (show y < 200 by omega), f_X13_done]
          rfl
theorem q_gone {C R : MM} {jo sc ic sp : Nat} (hS : ST C jo sc ic sp) (hI : IR C R ic) (x1 : Int32) : QQ C R (f_X11_gone C 1 x1) (f_X13_gone R 118 x1) := by
  unfold f_X11_gone f_X13_gone  
  rcases hI with ⟨hb, hr⟩ | ⟨j, D, n, hc, hj, hT⟩
  · refine QQ.mk (-1) 1 (by decide) ?_ ?_
    · simp only [hS.a5, oc_x, oc_z, ob_s, if_true, if_false, l00, l01, l02, l10, l11, l12, (bare_n hb _).2.2.2.2.1, f_X11_refused]
    · simp only [oc_x, oc_z, ob_s, if_true, if_false, l00, l01, l02, l10, l11, l12, (rnone (M := pI R 118 0 0) hr _).2.2.2, f_X13_refused]
      rfl
  rcases inr x1 (show n 4 < 2147483648 by have := hc.nb.2.2.2.2.1; omega) with hx1 | ⟨k1, hk1, rfl⟩
  · have c1 := storyAt_n hc.is hc.cn.2.2.2.2.1 hx1
    have r1 := isStory_n (hj.t 0) hc.dn.2.2.2.2.1 hx1
    refine QQ.mk (-1) 1 (by decide) ?_ ?_
    · simp only [hS.a5, oc_x, oc_z, ob_s, if_true, if_false, l00, l01, l02, l10, l11, l12, c1, f_X11_refused]
    · simp only [oc_x, oc_z, ob_s, if_true, if_false, l00, l01, l02, l10, l11, l12, r1, f_X13_refused]
      rfl
  · have c1 := hc.y hk1
    have r1 := isStory_s (hj.t 0) hc.dn.2.2.2.2.1 hk1 (show n 4 < 100 by have := hc.nb.2.2.2.2.1; omega)
    have n5 := hc.nb.2.2.2.2.1
    rcases land_h hc with ⟨h1, h2⟩ | ⟨h1, h2, h3, -⟩
    · refine QQ.mk (-1) 6 (by decide) ?_ ?_
      · simp only [hS.a5, oc_x, oc_z, ob_s, if_true, if_false, l00, l01, l02, l10, l11, l12, c1, h1, f_X11_refused]
      · simp only [oc_x, oc_z, ob_s, if_true, if_false, l00, l01, l02, l10, l11, l12, r1, (hj.t 0).j, (hj.t 0).d0, if_pos h2, f_X13_refused]
        rfl
    · obtain ⟨v, e1, e2⟩ := gone_l hc (hj.t 0) hT h2 hk1 100 0 FU FU (by omega) (fu (by omega)) (fu (by omega))
      have e1 : f_X6_yearGone C (ic + (34 + 2 * k1)) = some v := e1
      refine QQ.mk v 0 (by decide) ?_ ?_
      · simp only [hS.a5, oc_x, oc_z, ob_s, if_true, if_false, l00, l01, l02, l10, l11, l12, c1, h1, e1, f_X11_granted]
      · simp only [oc_x, oc_z, ob_s, if_true, if_false, l00, l01, l02, l10, l11, l12, r1, (hj.t 0).j, (hj.t 0).d0, if_neg h2]
        exact e2
theorem landT_b {C : MM} {jo sc ic sp : Nat} (hS : ST C jo sc ic sp) (hb : CB C ic) : f_X11_landTrouble C 1 = some 1 := by
  unfold f_X11_landTrouble
  simp only [hS.a5, oc_x, oc_z, ob_s, if_true, if_false, l00, l01, l02, l10, l11, l12, bare_b hb]
theorem landT_l {C : MM} {jo sc ic sp : Nat} {D : DT} {n : Nat → Nat} (hS : ST C jo sc ic sp) (hc : CI C ic D n) : (f_X11_landTrouble C 1 = some 6 ∧ D 0 27 = -1) ∨ (f_X11_landTrouble C 1 = some 0 ∧ ¬ D 0 27 = -1 ∧ ∃ t, t ≤ 999 ∧ D 0 27 = nI t) := by
  unfold f_X11_landTrouble
  rcases land_h hc with ⟨h1, h2⟩ | ⟨h1, h2, h3, -⟩
  · refine Or.inl ⟨?_, h2⟩
    simp only [hS.a5, oc_x, oc_z, ob_s, if_true, if_false, l00, l01, l02, l10, l11, l12, live_b hc, h1]
  · refine Or.inr ⟨?_, h2, h3⟩
    simp only [hS.a5, oc_x, oc_z, ob_s, if_true, if_false, l00, l01, l02, l10, l11, l12, live_b hc, h1]
theorem q_fits {C R : MM} {jo sc ic sp : Nat} (hS : ST C jo sc ic sp) (hR : RT R) (hV : SR C R) (hI : IR C R ic) : QQ C R (f_X11_fits C 1) (f_X13_fits R 118) := by
  unfold f_X11_fits f_X13_fits
  rcases hI with ⟨hb, hr⟩ | ⟨j, D, n, hc, hj, hT⟩
  · refine QQ.mk (-1) 1 (by decide) ?_ ?_
    · simp only [landT_b hS hb, oc_x, oc_z, ob_s, if_true, if_false, l00, l01, l02, l10, l11, l12, f_X11_refused]
    · rw [show gR (pI R 118 0 0) 118 3 = none from hr, oc_z]
      simp only [oc_x, oc_z, ob_s, if_true, if_false, l00, l01, l02, l10, l11, l12, f_X13_refused]
      rfl
  rcases landT_l hS hc with ⟨h1, h2⟩ | ⟨h1, h2, h3⟩
  · refine QQ.mk (-1) 6 (by decide) ?_ ?_
    · simp only [h1, oc_x, oc_z, ob_s, if_true, if_false, l00, l01, l02, l10, l11, l12, f_X11_refused, show ((6 : Int32) = 0) = False from eq_false (by decide)]
    · simp only [oc_x, oc_z, ob_s, if_true, if_false, l00, l01, l02, l10, l11, l12, (hj.t 0).j, (hj.t 0).d0, if_pos h2, f_X13_refused]
      rfl
  have n5 := hc.nb.2.2.2.2.1
  have hf : ∀ i, i < n 4 → f_X4_agrees C 8 (ic + (34 + 2 * i)) = some (fitV C ic i) ∧ f_X13_isFit (pI R 118 0 0) 118 (nI i) = some (fitV C ic i) := fun i hi => agree_p ⟨hS.g0, hS.g1, hS.g2⟩ (hR.t 0) (hV.t 0) hc (hj.t 0) hT h2 h3 hi
  obtain ⟨V, hB, e1, e2⟩ := fits_p hf hc (hj.t 0)
  refine QQ.mk (nI V) 0 (by decide) ?_ ?_
  · simp only [h1, hS.a2, hS.a5, oc_x, oc_z, ob_s, if_true, if_false, l00, l01, l02, l10, l11, l12, e1, f_X11_granted]
  · simp only [oc_x, oc_z, ob_s, if_true, if_false, l00, l01, l02, l10, l11, l12, (hj.t 0).j, (hj.t 0).d0, if_neg h2, e2, f_X13_done]
    rfl
theorem q_weight {C R : MM} {jo sc ic sp : Nat} (hS : ST C jo sc ic sp) (hR : RT R) (hV : SR C R) (hI : IR C R ic) : QQ C R (f_X11_weight C 1) (f_X13_weight R 118) := by
  unfold f_X11_weight f_X13_weight
  rcases hI with ⟨hb, hr⟩ | ⟨j, D, n, hc, hj, hT⟩
  · refine QQ.mk (-1) 1 (by decide) ?_ ?_
    · simp only [landT_b hS hb, oc_x, oc_z, ob_s, if_true, if_false, l00, l01, l02, l10, l11, l12, f_X11_refused]
    · rw [show gR (pI R 118 0 0) 118 3 = none from hr, oc_z]
      simp only [oc_x, oc_z, ob_s, if_true, if_false, l00, l01, l02, l10, l11, l12, f_X13_refused]
      rfl
  rcases landT_l hS hc with ⟨h1, h2⟩ | ⟨h1, h2, h3⟩
  · refine QQ.mk (-1) 6 (by decide) ?_ ?_
    · simp only [h1, oc_x, oc_z, ob_s, if_true, if_false, l00, l01, l02, l10, l11, l12, f_X11_refused, show ((6 : Int32) = 0) = False from eq_false (by decide)]
    · simp only [oc_x, oc_z, ob_s, if_true, if_false, l00, l01, l02, l10, l11, l12, (hj.t 0).j, (hj.t 0).d0, if_pos h2, f_X13_refused]
      rfl
  have n5 := hc.nb.2.2.2.2.1
  have hf : ∀ i, i < n 4 → f_X4_agrees C 8 (ic + (34 + 2 * i)) = some (fitV C ic i) ∧ f_X13_isFit (pI R 118 0 0) 118 (nI i) = some (fitV C ic i) := fun i hi => agree_p ⟨hS.g0, hS.g1, hS.g2⟩ (hR.t 0) (hV.t 0) hc (hj.t 0) hT h2 h3 hi
  obtain ⟨V, hB, e1, e2⟩ := fits_p hf hc (hj.t 0)
  obtain ⟨v, e3, e4⟩ := weight_l hf hc (hj.t 0) hB (n 4) 0 0 FU FU (by omega) (fu (by omega)) (fu (by omega))
  have e3 : f_X0_weightOf C ic (nI V) = some v := e3
  refine QQ.mk v 0 (by decide) ?_ ?_
  · simp only [h1, hS.a2, hS.a5, oc_x, oc_z, ob_s, if_true, if_false, l00, l01, l02, l10, l11, l12, e1, e3, f_X11_granted]
  · simp only [oc_x, oc_z, ob_s, if_true, if_false, l00, l01, l02, l10, l11, l12, (hj.t 0).j, (hj.t 0).d0, if_neg h2]
    exact e4
theorem bits_0 : ∀ B, B < 32 → (∀ i, i < 5 → (((nI B) >>> (nI i &&& 31)) &&& 1 : Int32) = 0) → B = 0 := by decide +kernel
theorem bits_hi : ∀ k, k < 6 → ∀ B, B < 32 → B < 2 ^ k → ∀ i, i < 5 → k ≤ i → (((nI B) >>> (nI i &&& 31)) &&& 1 : Int32) = 0 := by decide +kernel
theorem BF.zero {C : MM} {ic B k : Nat} (h : BF C ic B k) (hk : k ≤ 5) (hz : ∀ i, i < k → fitV C ic i = 0) : B = 0 := by
  have hB : B < 32 := Nat.lt_of_lt_of_le h.1 (Nat.pow_le_pow_right (n := 2) (by decide) hk)
  refine bits_0 B hB (fun i hi => ?_)
  by_cases q : i < k
  · exact (h.2.1 i q).1 (hz i q)
  · exact bits_hi k (by omega) B hB h.1 i hi (by omega)
theorem q_dig {C R : MM} {jo sc ic sp : Nat} (hS : ST C jo sc ic sp) (hR : RT R) (hV : SR C R) (hI : IR C R ic) : QQ C R (f_X11_dig C 1) (f_X13_dig R 118) := by
  unfold f_X11_dig f_X13_dig
  rcases hI with ⟨hb, hr⟩ | ⟨j, D, n, hc, hj, hT⟩
  · refine QQ.mk (-1) 1 (by decide) ?_ ?_
    · simp only [landT_b hS hb, oc_x, oc_z, ob_s, if_true, if_false, l00, l01, l02, l10, l11, l12, f_X11_refused]
    · rw [show gR (pI R 118 0 0) 118 3 = none from hr, oc_z]
      simp only [oc_x, oc_z, ob_s, if_true, if_false, l00, l01, l02, l10, l11, l12, f_X13_refused]
      rfl
  rcases landT_l hS hc with ⟨h1, h2⟩ | ⟨h1, h2, h3⟩
  · refine QQ.mk (-1) 6 (by decide) ?_ ?_
    · simp only [h1, oc_x, oc_z, ob_s, if_true, if_false, l00, l01, l02, l10, l11, l12, f_X11_refused, show ((6 : Int32) = 0) = False from eq_false (by decide)]
    · simp only [oc_x, oc_z, ob_s, if_true, if_false, l00, l01, l02, l10, l11, l12, (hj.t 0).j, (hj.t 0).d0, if_pos h2, f_X13_refused]
      rfl
  have n5 := hc.nb.2.2.2.2.1
  have hf : ∀ i, i < n 4 → f_X4_agrees C 8 (ic + (34 + 2 * i)) = some (fitV C ic i) ∧ f_X13_isFit (pI R 118 0 0) 118 (nI i) = some (fitV C ic i) := fun i hi => agree_p ⟨hS.g0, hS.g1, hS.g2⟩ (hR.t 0) (hV.t 0) hc (hj.t 0) hT h2 h3 hi
  obtain ⟨V, hB, e1, e2⟩ := fits_p hf hc (hj.t 0)
  have hV32 : V < 32 := Nat.lt_of_lt_of_le hB.1 (Nat.pow_le_pow_right (n := 2) (by decide) n5)
  by_cases h0 : V = 0
  · subst h0
    refine QQ.mk (-1) 6 (by decide) ?_ ?_
    · simp only [h1, hS.a2, hS.a5, oc_x, oc_z, ob_s, if_true, if_false, l00, l01, l02, l10, l11, l12, e1, show (nI 0 = (0 : Int32)) = True from eq_true rfl, f_X11_refused]
    · simp only [oc_x, oc_z, ob_s, if_true, if_false, l00, l01, l02, l10, l11, l12, (hj.t 0).j, (hj.t 0).d0, if_neg h2, e2, show (nI 0 = (0 : Int32)) = True from eq_true rfl, f_X13_refused]
      rfl
  · have hne : ∃ i, i < n 4 ∧ fitV C ic i ≠ 0 := by
      apply Classical.byContradiction
      intro hq
      have hz : ∀ i, i < n 4 → fitV C ic i = 0 := fun i hi => Classical.byContradiction (fun z => hq ⟨i, hi, z⟩)
      exact h0 (BF.zero hB n5 hz)
    obtain ⟨v, e3, e4⟩ := dig_p hc (hj.t 0) hT h2 h3 hB h0 hne
    have hv0 : ¬ nI V = (0 : Int32) := nI_ne0 (by omega) (by omega)
    refine QQ.mk v 0 (by decide) ?_ ?_
    · simp only [h1, hS.a2, hS.a5, oc_x, oc_z, ob_s, if_true, if_false, l00, l01, l02, l10, l11, l12, e1, if_neg hv0, e3, f_X11_granted]
    · simp only [oc_x, oc_z, ob_s, if_true, if_false, l00, l01, l02, l10, l11, l12, (hj.t 0).j, (hj.t 0).d0, if_neg h2, e2, if_neg hv0]
      exact e4
theorem q_lived {C R : MM} {jo sc ic sp : Nat} (hS : ST C jo sc ic sp) (hI : IR C R ic) (x1 : Int32) : QQ C R (f_X11_lived C 1 x1) (f_X13_lived R 118 x1) := by
  unfold f_X11_lived f_X13_lived
  rcases hI with ⟨hb, hr⟩ | ⟨j, D, n, hc, hj, hT⟩
  · refine QQ.mk (-1) 1 (by decide) ?_ ?_
    · simp only [hS.a5, oc_x, oc_z, ob_s, if_true, if_false, l00, l01, l02, l10, l11, l12, bare_b hb, f_X11_refused]
    · rw [show gR (pI R 118 0 0) 118 3 = none from hr, oc_z]
      simp only [oc_x, oc_z, ob_s, if_true, if_false, l00, l01, l02, l10, l11, l12, f_X13_refused]
      rfl
  rcases flag8 hc with ⟨h1, h2⟩ | ⟨h1, h2, h3, h4⟩
  · refine QQ.mk (-1) 6 (by decide) ?_ ?_
    · simp only [hS.a5, oc_x, oc_z, ob_s, if_true, if_false, l00, l01, l02, l10, l11, l12, live_b hc, h1, f_X11_refused]
    · simp only [oc_x, oc_z, ob_s, if_true, if_false, l00, l01, l02, l10, l11, l12, (hj.t 0).j, (hj.t 0).d0, if_pos h2, f_X13_refused]
      rfl
  rcases flag9 hc with ⟨g1, g2⟩ | ⟨g1, g2, g3, g4, g5⟩
  · refine QQ.mk (-1) 6 (by decide) ?_ ?_
    · simp only [hS.a5, oc_x, oc_z, ob_s, if_true, if_false, l00, l01, l02, l10, l11, l12, live_b hc, h1, g1, f_X11_refused]
    · simp only [oc_x, oc_z, ob_s, if_true, if_false, l00, l01, l02, l10, l11, l12, (hj.t 0).j, (hj.t 0).d0, if_neg h2, if_pos g2, f_X13_refused]
      rfl
  by_cases hx : x1 = 0
  · obtain ⟨m, e1, e2⟩ := mn_ (D 0 32 * D 0 33) (D 0 30 * D 0 31)
    by_cases hz : D 0 32 * D 0 33 < D 0 30 * D 0 31
    · refine QQ.mk (D 0 32 * D 0 33) 0 (by decide) ?_ ?_
      · simp only [hS.a5, oc_x, oc_z, ob_s, if_true, if_false, l00, l01, l02, l10, l11, l12, live_b hc, h1, g1, f_X0_inhabitants, if_pos hx, h3, h4, g3, g4, if_pos hz, f_X11_granted]
      · simp only [oc_x, oc_z, ob_s, if_true, if_false, l00, l01, l02, l10, l11, l12, (hj.t 0).j, (hj.t 0).d0, if_neg h2, if_neg g2, if_pos hx, if_pos (Int32.le_of_lt hz), f_X13_done]
        rfl
    · refine QQ.mk (D 0 30 * D 0 31) 0 (by decide) ?_ ?_
      · simp only [hS.a5, oc_x, oc_z, ob_s, if_true, if_false, l00, l01, l02, l10, l11, l12, live_b hc, h1, g1, f_X0_inhabitants, if_pos hx, h3, h4, g3, g4, if_neg hz, f_X11_granted]
      · simp only [oc_x, oc_z, ob_s, if_true, if_false, l00, l01, l02, l10, l11, l12, (hj.t 0).j, (hj.t 0).d0, if_neg h2, if_neg g2, if_pos hx, f_X13_done]
        by_cases hq : D 0 32 * D 0 33 ≤ D 0 30 * D 0 31
        · rw [if_pos hq, Int32.le_antisymm hq (i32_le hz)]; rfl
        · rw [if_neg hq]; rfl
  · by_cases hz : D 0 32 * D 0 34 < D 0 30 * D 0 31
    · refine QQ.mk (D 0 32 * D 0 34) 0 (by decide) ?_ ?_
      · simp only [hS.a5, oc_x, oc_z, ob_s, if_true, if_false, l00, l01, l02, l10, l11, l12, live_b hc, h1, g1, f_X0_inhabitants, if_neg hx, h3, h4, g3, g5, if_pos hz, f_X11_granted]
      · simp only [oc_x, oc_z, ob_s, if_true, if_false, l00, l01, l02, l10, l11, l12, (hj.t 0).j, (hj.t 0).d0, if_neg h2, if_neg g2, if_neg hx, if_pos (Int32.le_of_lt hz), f_X13_done]
        rfl
    · refine QQ.mk (D 0 30 * D 0 31) 0 (by decide) ?_ ?_
      · simp only [hS.a5, oc_x, oc_z, ob_s, if_true, if_false, l00, l01, l02, l10, l11, l12, live_b hc, h1, g1, f_X0_inhabitants, if_neg hx, h3, h4, g3, g5, if_neg hz, f_X11_granted]
      · simp only [oc_x, oc_z, ob_s, if_true, if_false, l00, l01, l02, l10, l11, l12, (hj.t 0).j, (hj.t 0).d0, if_neg h2, if_neg g2, if_neg hx, f_X13_done]
        by_cases hq : D 0 32 * D 0 34 ≤ D 0 30 * D 0 31
        · rw [if_pos hq, Int32.le_antisymm hq (i32_le hz)]; rfl
        · rw [if_neg hq]; rfl
