/-! THE TAPE, WHAT WAS SEEN, AND WHAT IS SIMPLY TOLD -/
theorem TOP.t {C R : MM} (h : TOP C R) (v : Int32) : TOP C (pI R 118 0 v) := by
  obtain ⟨jo, sc, ic, sp, hS, hR, hQ, hP, hV, hD, hI⟩ := h
  have r : ∀ a k, a ≠ 118 ∨ k ≠ 0 → gI (pI R 118 0 v) a k = gI R a k := fun a k h => gI_pIn (by omega)
  refine ⟨jo, sc, ic, sp, hS, hR, ?_, ?_, ?_, ?_, ?_⟩
  · unfold TQ at *
    simp (disch := omega) only [r]
    exact hQ
  · unfold TP at *
    simp (disch := omega) only [r]
    exact hP
  · unfold SR at *
    simp (disch := omega) only [r]
    exact hV
  · unfold SD at *
    simp (disch := omega) only [r]
    exact hD
  · unfold IJ JN JB at *
    rcases hI with h1 | ⟨j, D, n, h1, h2, h3, h5⟩
    · refine Or.inl ?_
      simp (disch := omega) only [r]
      exact h1
    · refine Or.inr ⟨j, D, n, h1, h2.put (by decide), h3, ?_⟩
      simp (disch := omega) only [r]
      exact h5
/-- what is told without a word of trouble -/
def NT (C R : MM) (x : Option Int32) (y : Option (Int32 × MM)) : Prop := ∃ r, x = some r ∧ y = some (r, pI R 118 0 0)
theorem t_trouble {C R : MM} (h : TOP C R) : NT C R (f_X11_trouble C 1) (f_X13_trouble R 118) := by
  obtain ⟨jo, sc, ic, sp, hS, hR, hQ, hP, hV, hD, hI⟩ := h
  refine ⟨gI C 1 7, rfl, ?_⟩
  unfold f_X13_trouble
  rw [gI_pIk (by decide), hQ.1]
theorem t_fault {C R : MM} (h : TOP C R) : NT C R (f_X11_fault C 1) (f_X13_fault R 118) := by
  obtain ⟨jo, sc, ic, sp, hS, hR, hQ, hP, hV, hD, hI⟩ := h
  refine ⟨gI C 4 5, ?_, ?_⟩
  · unfold f_X11_fault
    rw [hS.a1, oc_x]
  · unfold f_X13_fault
    rw [gI_pIk (by decide), hQ.2.1]
theorem t_where {C R : MM} (h : TOP C R) : NT C R (f_X11_where C 1) (f_X13_where R 118) := by
  obtain ⟨jo, sc, ic, sp, hS, hR, hQ, hP, hV, hD, hI⟩ := h
  refine ⟨if gI C 1 7 = 4 then gI C 4 6 else -1, ?_, ?_⟩
  · unfold f_X11_where
    rw [hS.a1, oc_x]
    split <;> rfl
  · unfold f_X13_where
    rw [gI_pIk (by decide), hQ.2.2]
theorem in10 (M : MM) : f_X13_in M 0 0 10 = some 1 ∧ f_X13_in M 1 0 10 = some 1 ∧ f_X13_in M 2 0 10 = some 1 ∧ f_X13_in M 3 0 10 = some 1 ∧ f_X13_in M 4 0 10 = some 1 ∧ f_X13_in M 5 0 10 = some 1 ∧ f_X13_in M 6 0 10 = some 1 ∧ f_X13_in M 7 0 10 = some 1 ∧ f_X13_in M 8 0 10 = some 1 ∧ f_X13_in M 9 0 10 = some 1 ∧ f_X13_in M 10 0 10 = some 1 := ⟨rfl, rfl, rfl, rfl, rfl, rfl, rfl, rfl, rfl, rfl, rfl⟩
theorem not10 {x : Int32} (h0 : ¬ x = 0) (h1 : ¬ x = 1) (h2 : ¬ x = 2) (h3 : ¬ x = 3) (h4 : ¬ x = 4) (h5 : ¬ x = 5) (h6 : ¬ x = 6) (h7 : ¬ x = 7) (h8 : ¬ x = 8) (h9 : ¬ x = 9) (h10 : ¬ x = 10) (M : MM) : f_X13_in M x 0 10 = some 0 := by
  rw [in_eq]
  rcases rng x 0 10 with ⟨-, h⟩ | ⟨-, -, h⟩ | ⟨a, b, -⟩
  · rw [h]
  · rw [h]
  · exfalso
    obtain ⟨k, hk, rfl⟩ := nI_of2 (M := 10) (n := 10) (by decide) a b
    have hc : k = 0 ∨ k = 1 ∨ k = 2 ∨ k = 3 ∨ k = 4 ∨ k = 5 ∨ k = 6 ∨ k = 7 ∨ k = 8 ∨ k = 9 ∨ k = 10 := by omega
    rcases hc with rfl | rfl | rfl | rfl | rfl | rfl | rfl | rfl | rfl | rfl | rfl
    · exact h0 rfl
    · exact h1 rfl
    · exact h2 rfl
    · exact h3 rfl
    · exact h4 rfl
    · exact h5 rfl
    · exact h6 rfl
    · exact h7 rfl
    · exact h8 rfl
    · exact h9 rfl
    · exact h10 rfl
theorem t_size {C R : MM} (h : TOP C R) (x1 : Int32) : NT C R (f_X11_size C 1 x1) (f_X13_size R 118 x1) := by
  obtain ⟨jo, sc, ic, sp, hS, hR, hQ, hP, hV, hD, hI⟩ := h
  obtain ⟨t, ht, t1, t2, -⟩ := hP
  obtain ⟨s, hs, s1, s2, -⟩ := hV
  obtain ⟨sd, hsd, d1, d2⟩ := hD
  have g : ∀ k, k ≠ 0 → gI (pI R 118 0 0) 118 k = gI R 118 k := fun k hk => gI_pIk hk
  unfold f_X11_size f_X13_size
  by_cases h0 : x1 = 0
  · subst h0
    rcases hI with ⟨hb, hr, hn, j0, j8⟩ | ⟨j, D, n, hc, hj, hT, hJ⟩
    · refine ⟨0, ?_, ?_⟩
      · rw [if_pos rfl, hS.a5, oc_x, cnt0 hb.1, ob_s, hb.2.1.1]; rfl
      · rw [if_neg (show ¬ (0 : Int32) = 9 by decide), (in10 _).1, ob_s, if_neg (show ¬ (1 : Int32) = 0 by decide), show gR (pI R 118 0 0) 118 3 = none from hr, oc_z]
    · refine ⟨nI (n 0), ?_, ?_⟩
      · rw [if_pos rfl, hS.a5, oc_x, hc.c0, ob_s]
      · rw [if_neg (show ¬ (0 : Int32) = 9 by decide), (in10 _).1, ob_s, if_neg (show ¬ (1 : Int32) = 0 by decide), (hj.t 0).j, oc_x, if_pos rfl, oc_x, (hj.t 0).d0, hc.dn.1]
  by_cases h1 : x1 = 1
  · subst h1
    rcases hI with ⟨hb, hr, hn, j0, j8⟩ | ⟨j, D, n, hc, hj, hT, hJ⟩
    · refine ⟨0, ?_, ?_⟩
      · rw [if_neg (show ¬ (1 : Int32) = 0 by decide), if_pos rfl, hS.a5, oc_x, cnt1 hb.1, ob_s, hb.2.1.2.1]; rfl
      · rw [if_neg (show ¬ (1 : Int32) = 9 by decide), (in10 _).2.1, ob_s, if_neg (show ¬ (1 : Int32) = 0 by decide), show gR (pI R 118 0 0) 118 3 = none from hr, oc_z]
    · refine ⟨nI (n 1), ?_, ?_⟩
      · rw [if_neg (show ¬ (1 : Int32) = 0 by decide), if_pos rfl, hS.a5, oc_x, hc.c1, ob_s]
      · rw [if_neg (show ¬ (1 : Int32) = 9 by decide), (in10 _).2.1, ob_s, if_neg (show ¬ (1 : Int32) = 0 by decide), (hj.t 0).j, oc_x, if_neg (show ¬ (1 : Int32) = 0 by decide), if_pos rfl, oc_x, (hj.t 0).d0, hc.dn.2.1]
  by_cases h2 : x1 = 2
  · subst h2
    rcases hI with ⟨hb, hr, hn, j0, j8⟩ | ⟨j, D, n, hc, hj, hT, hJ⟩
    · refine ⟨0, ?_, ?_⟩
      · rw [if_neg (show ¬ (2 : Int32) = 0 by decide), if_neg (show ¬ (2 : Int32) = 1 by decide), if_pos rfl, hS.a5, oc_x, cnt2 hb.1, ob_s, hb.2.1.2.2.1]; rfl
      · rw [if_neg (show ¬ (2 : Int32) = 9 by decide), (in10 _).2.2.1, ob_s, if_neg (show ¬ (1 : Int32) = 0 by decide), show gR (pI R 118 0 0) 118 3 = none from hr, oc_z]
    · refine ⟨nI (n 2), ?_, ?_⟩
      · rw [if_neg (show ¬ (2 : Int32) = 0 by decide), if_neg (show ¬ (2 : Int32) = 1 by decide), if_pos rfl, hS.a5, oc_x, hc.c2, ob_s]
      · rw [if_neg (show ¬ (2 : Int32) = 9 by decide), (in10 _).2.2.1, ob_s, if_neg (show ¬ (1 : Int32) = 0 by decide), (hj.t 0).j, oc_x, if_neg (show ¬ (2 : Int32) = 0 by decide), if_neg (show ¬ (2 : Int32) = 1 by decide), if_pos rfl, oc_x, (hj.t 0).d0, hc.dn.2.2.1]
  by_cases h3 : x1 = 3
  · subst h3
    rcases hI with ⟨hb, hr, hn, j0, j8⟩ | ⟨j, D, n, hc, hj, hT, hJ⟩
    · refine ⟨0, ?_, ?_⟩
      · rw [if_neg (show ¬ (3 : Int32) = 0 by decide), if_neg (show ¬ (3 : Int32) = 1 by decide), if_neg (show ¬ (3 : Int32) = 2 by decide), if_pos rfl, hS.a5, oc_x, cnt3 hb.1, ob_s, hb.2.1.2.2.2.1]; rfl
      · rw [if_neg (show ¬ (3 : Int32) = 9 by decide), (in10 _).2.2.2.1, ob_s, if_neg (show ¬ (1 : Int32) = 0 by decide), show gR (pI R 118 0 0) 118 3 = none from hr, oc_z]
    · refine ⟨nI (n 3), ?_, ?_⟩
      · rw [if_neg (show ¬ (3 : Int32) = 0 by decide), if_neg (show ¬ (3 : Int32) = 1 by decide), if_neg (show ¬ (3 : Int32) = 2 by decide), if_pos rfl, hS.a5, oc_x, hc.c3, ob_s]
      · rw [if_neg (show ¬ (3 : Int32) = 9 by decide), (in10 _).2.2.2.1, ob_s, if_neg (show ¬ (1 : Int32) = 0 by decide), (hj.t 0).j, oc_x, if_neg (show ¬ (3 : Int32) = 0 by decide), if_neg (show ¬ (3 : Int32) = 1 by decide), if_neg (show ¬ (3 : Int32) = 2 by decide), if_pos rfl, oc_x, (hj.t 0).d0, hc.dn.2.2.2.1]
  by_cases h4 : x1 = 4
  · subst h4
    rcases hI with ⟨hb, hr, hn, j0, j8⟩ | ⟨j, D, n, hc, hj, hT, hJ⟩
    · refine ⟨0, ?_, ?_⟩
      · rw [if_neg (show ¬ (4 : Int32) = 0 by decide), if_neg (show ¬ (4 : Int32) = 1 by decide), if_neg (show ¬ (4 : Int32) = 2 by decide), if_neg (show ¬ (4 : Int32) = 3 by decide), if_pos rfl, hS.a5, oc_x, cnt4 hb.1, ob_s, hb.2.1.2.2.2.2.1]; rfl
      · rw [if_neg (show ¬ (4 : Int32) = 9 by decide), (in10 _).2.2.2.2.1, ob_s, if_neg (show ¬ (1 : Int32) = 0 by decide), show gR (pI R 118 0 0) 118 3 = none from hr, oc_z]
    · refine ⟨nI (n 4), ?_, ?_⟩
      · rw [if_neg (show ¬ (4 : Int32) = 0 by decide), if_neg (show ¬ (4 : Int32) = 1 by decide), if_neg (show ¬ (4 : Int32) = 2 by decide), if_neg (show ¬ (4 : Int32) = 3 by decide), if_pos rfl, hS.a5, oc_x, hc.c4, ob_s]
      · rw [if_neg (show ¬ (4 : Int32) = 9 by decide), (in10 _).2.2.2.2.1, ob_s, if_neg (show ¬ (1 : Int32) = 0 by decide), (hj.t 0).j, oc_x, if_neg (show ¬ (4 : Int32) = 0 by decide), if_neg (show ¬ (4 : Int32) = 1 by decide), if_neg (show ¬ (4 : Int32) = 2 by decide), if_neg (show ¬ (4 : Int32) = 3 by decide), if_pos rfl, oc_x, (hj.t 0).d0, hc.dn.2.2.2.2.1]
  by_cases h5 : x1 = 5
  · subst h5
    rcases hI with ⟨hb, hr, hn, j0, j8⟩ | ⟨j, D, n, hc, hj, hT, hJ⟩
    · refine ⟨0, ?_, ?_⟩
      · rw [if_neg (show ¬ (5 : Int32) = 0 by decide), if_neg (show ¬ (5 : Int32) = 1 by decide), if_neg (show ¬ (5 : Int32) = 2 by decide), if_neg (show ¬ (5 : Int32) = 3 by decide), if_neg (show ¬ (5 : Int32) = 4 by decide), if_pos rfl, hS.a5, oc_x, cnt5 hb.1, ob_s, hb.2.1.2.2.2.2.2.1]; rfl
      · rw [if_neg (show ¬ (5 : Int32) = 9 by decide), (in10 _).2.2.2.2.2.1, ob_s, if_neg (show ¬ (1 : Int32) = 0 by decide), show gR (pI R 118 0 0) 118 3 = none from hr, oc_z]
    · refine ⟨nI (n 5), ?_, ?_⟩
      · rw [if_neg (show ¬ (5 : Int32) = 0 by decide), if_neg (show ¬ (5 : Int32) = 1 by decide), if_neg (show ¬ (5 : Int32) = 2 by decide), if_neg (show ¬ (5 : Int32) = 3 by decide), if_neg (show ¬ (5 : Int32) = 4 by decide), if_pos rfl, hS.a5, oc_x, hc.c5, ob_s]
      · rw [if_neg (show ¬ (5 : Int32) = 9 by decide), (in10 _).2.2.2.2.2.1, ob_s, if_neg (show ¬ (1 : Int32) = 0 by decide), (hj.t 0).j, oc_x, if_neg (show ¬ (5 : Int32) = 0 by decide), if_neg (show ¬ (5 : Int32) = 1 by decide), if_neg (show ¬ (5 : Int32) = 2 by decide), if_neg (show ¬ (5 : Int32) = 3 by decide), if_neg (show ¬ (5 : Int32) = 4 by decide), if_pos rfl, oc_x, (hj.t 0).d0, hc.dn.2.2.2.2.2.1]
  by_cases h6 : x1 = 6
  · subst h6
    rcases hI with ⟨hb, hr, hn, j0, j8⟩ | ⟨j, D, n, hc, hj, hT, hJ⟩
    · refine ⟨0, ?_, ?_⟩
      · rw [if_neg (show ¬ (6 : Int32) = 0 by decide), if_neg (show ¬ (6 : Int32) = 1 by decide), if_neg (show ¬ (6 : Int32) = 2 by decide), if_neg (show ¬ (6 : Int32) = 3 by decide), if_neg (show ¬ (6 : Int32) = 4 by decide), if_neg (show ¬ (6 : Int32) = 5 by decide), if_pos rfl, hS.a5, oc_x, cnt6 hb.1, ob_s, hb.2.1.2.2.2.2.2.2]; rfl
      · rw [if_neg (show ¬ (6 : Int32) = 9 by decide), (in10 _).2.2.2.2.2.2.1, ob_s, if_neg (show ¬ (1 : Int32) = 0 by decide), show gR (pI R 118 0 0) 118 3 = none from hr, oc_z]
    · refine ⟨nI (n 6), ?_, ?_⟩
      · rw [if_neg (show ¬ (6 : Int32) = 0 by decide), if_neg (show ¬ (6 : Int32) = 1 by decide), if_neg (show ¬ (6 : Int32) = 2 by decide), if_neg (show ¬ (6 : Int32) = 3 by decide), if_neg (show ¬ (6 : Int32) = 4 by decide), if_neg (show ¬ (6 : Int32) = 5 by decide), if_pos rfl, hS.a5, oc_x, hc.c6, ob_s]
      · rw [if_neg (show ¬ (6 : Int32) = 9 by decide), (in10 _).2.2.2.2.2.2.1, ob_s, if_neg (show ¬ (1 : Int32) = 0 by decide), (hj.t 0).j, oc_x, if_neg (show ¬ (6 : Int32) = 0 by decide), if_neg (show ¬ (6 : Int32) = 1 by decide), if_neg (show ¬ (6 : Int32) = 2 by decide), if_neg (show ¬ (6 : Int32) = 3 by decide), if_neg (show ¬ (6 : Int32) = 4 by decide), if_neg (show ¬ (6 : Int32) = 5 by decide), if_pos rfl, oc_x, (hj.t 0).d0, hc.dn.2.2.2.2.2.2]
  by_cases h7 : x1 = 7
  · subst h7
    rcases hI with ⟨hb, hr, hn, j0, j8⟩ | ⟨j, D, n, hc, hj, hT, hJ⟩
    · refine ⟨0, ?_, ?_⟩
      · rw [if_neg (show ¬ (7 : Int32) = 0 by decide), if_neg (show ¬ (7 : Int32) = 1 by decide), if_neg (show ¬ (7 : Int32) = 2 by decide), if_neg (show ¬ (7 : Int32) = 3 by decide), if_neg (show ¬ (7 : Int32) = 4 by decide), if_neg (show ¬ (7 : Int32) = 5 by decide), if_neg (show ¬ (7 : Int32) = 6 by decide), if_pos rfl, hS.a2, oc_x, j8]
      · rw [if_neg (show ¬ (7 : Int32) = 9 by decide), (in10 _).2.2.2.2.2.2.2.1, ob_s, if_neg (show ¬ (1 : Int32) = 0 by decide), show gR (pI R 118 0 0) 118 3 = none from hr, oc_z]
    · refine ⟨nI s, ?_, ?_⟩
      · rw [if_neg (show ¬ (7 : Int32) = 0 by decide), if_neg (show ¬ (7 : Int32) = 1 by decide), if_neg (show ¬ (7 : Int32) = 2 by decide), if_neg (show ¬ (7 : Int32) = 3 by decide), if_neg (show ¬ (7 : Int32) = 4 by decide), if_neg (show ¬ (7 : Int32) = 5 by decide), if_neg (show ¬ (7 : Int32) = 6 by decide), if_pos rfl, hS.a2, oc_x, s1]
      · rw [if_neg (show ¬ (7 : Int32) = 9 by decide), (in10 _).2.2.2.2.2.2.2.1, ob_s, if_neg (show ¬ (1 : Int32) = 0 by decide), (hj.t 0).j, oc_x, if_neg (show ¬ (7 : Int32) = 0 by decide), if_neg (show ¬ (7 : Int32) = 1 by decide), if_neg (show ¬ (7 : Int32) = 2 by decide), if_neg (show ¬ (7 : Int32) = 3 by decide), if_neg (show ¬ (7 : Int32) = 4 by decide), if_neg (show ¬ (7 : Int32) = 5 by decide), if_neg (show ¬ (7 : Int32) = 6 by decide), if_pos rfl, g 25 (by decide), s2]
  by_cases h8 : x1 = 8
  · subst h8
    rcases hI with ⟨hb, hr, hn, j0, j8⟩ | ⟨j, D, n, hc, hj, hT, hJ⟩
    · refine ⟨0, ?_, ?_⟩
      · rw [if_neg (show ¬ (8 : Int32) = 0 by decide), if_neg (show ¬ (8 : Int32) = 1 by decide), if_neg (show ¬ (8 : Int32) = 2 by decide), if_neg (show ¬ (8 : Int32) = 3 by decide), if_neg (show ¬ (8 : Int32) = 4 by decide), if_neg (show ¬ (8 : Int32) = 5 by decide), if_neg (show ¬ (8 : Int32) = 6 by decide), if_neg (show ¬ (8 : Int32) = 7 by decide), if_pos rfl, hS.a3, oc_x, j0]
      · rw [if_neg (show ¬ (8 : Int32) = 9 by decide), (in10 _).2.2.2.2.2.2.2.2.1, ob_s, if_neg (show ¬ (1 : Int32) = 0 by decide), show gR (pI R 118 0 0) 118 3 = none from hr, oc_z]
    · refine ⟨nI sd, ?_, ?_⟩
      · rw [if_neg (show ¬ (8 : Int32) = 0 by decide), if_neg (show ¬ (8 : Int32) = 1 by decide), if_neg (show ¬ (8 : Int32) = 2 by decide), if_neg (show ¬ (8 : Int32) = 3 by decide), if_neg (show ¬ (8 : Int32) = 4 by decide), if_neg (show ¬ (8 : Int32) = 5 by decide), if_neg (show ¬ (8 : Int32) = 6 by decide), if_neg (show ¬ (8 : Int32) = 7 by decide), if_pos rfl, hS.a3, oc_x, d1]
      · rw [if_neg (show ¬ (8 : Int32) = 9 by decide), (in10 _).2.2.2.2.2.2.2.2.1, ob_s, if_neg (show ¬ (1 : Int32) = 0 by decide), (hj.t 0).j, oc_x, if_neg (show ¬ (8 : Int32) = 0 by decide), if_neg (show ¬ (8 : Int32) = 1 by decide), if_neg (show ¬ (8 : Int32) = 2 by decide), if_neg (show ¬ (8 : Int32) = 3 by decide), if_neg (show ¬ (8 : Int32) = 4 by decide), if_neg (show ¬ (8 : Int32) = 5 by decide), if_neg (show ¬ (8 : Int32) = 6 by decide), if_neg (show ¬ (8 : Int32) = 7 by decide), if_pos rfl, g 16 (by decide), d2]
  by_cases h9 : x1 = 9
  · subst h9
    refine ⟨nI t, ?_, ?_⟩
    · rw [if_neg (show ¬ (9 : Int32) = 0 by decide), if_neg (show ¬ (9 : Int32) = 1 by decide), if_neg (show ¬ (9 : Int32) = 2 by decide), if_neg (show ¬ (9 : Int32) = 3 by decide), if_neg (show ¬ (9 : Int32) = 4 by decide), if_neg (show ¬ (9 : Int32) = 5 by decide), if_neg (show ¬ (9 : Int32) = 6 by decide), if_neg (show ¬ (9 : Int32) = 7 by decide), if_neg (show ¬ (9 : Int32) = 8 by decide), if_pos rfl, hS.a0, oc_x, t1]
    · rw [if_pos rfl, g 6 (by decide), t2]
  by_cases h10 : x1 = 10
  · subst h10
    rcases hI with ⟨hb, hr, hn, j0, j8⟩ | ⟨j, D, n, hc, hj, hT, hJ⟩
    · refine ⟨0, ?_, ?_⟩
      · rw [if_neg (show ¬ (10 : Int32) = 0 by decide), if_neg (show ¬ (10 : Int32) = 1 by decide), if_neg (show ¬ (10 : Int32) = 2 by decide), if_neg (show ¬ (10 : Int32) = 3 by decide), if_neg (show ¬ (10 : Int32) = 4 by decide), if_neg (show ¬ (10 : Int32) = 5 by decide), if_neg (show ¬ (10 : Int32) = 6 by decide), if_neg (show ¬ (10 : Int32) = 7 by decide), if_neg (show ¬ (10 : Int32) = 8 by decide), if_neg (show ¬ (10 : Int32) = 9 by decide), if_pos rfl, hS.a5, oc_x, hb.2.2]
      · rw [if_neg (show ¬ (10 : Int32) = 9 by decide), (in10 _).2.2.2.2.2.2.2.2.2.2, ob_s, if_neg (show ¬ (1 : Int32) = 0 by decide), show gR (pI R 118 0 0) 118 3 = none from hr, oc_z]
    · refine ⟨D 0 3, ?_, ?_⟩
      · rw [if_neg (show ¬ (10 : Int32) = 0 by decide), if_neg (show ¬ (10 : Int32) = 1 by decide), if_neg (show ¬ (10 : Int32) = 2 by decide), if_neg (show ¬ (10 : Int32) = 3 by decide), if_neg (show ¬ (10 : Int32) = 4 by decide), if_neg (show ¬ (10 : Int32) = 5 by decide), if_neg (show ¬ (10 : Int32) = 6 by decide), if_neg (show ¬ (10 : Int32) = 7 by decide), if_neg (show ¬ (10 : Int32) = 8 by decide), if_neg (show ¬ (10 : Int32) = 9 by decide), if_pos rfl, hS.a5, oc_x, hc.ef.1]
      · rw [if_neg (show ¬ (10 : Int32) = 9 by decide), (in10 _).2.2.2.2.2.2.2.2.2.2, ob_s, if_neg (show ¬ (1 : Int32) = 0 by decide), (hj.t 0).j, oc_x, if_neg (show ¬ (10 : Int32) = 0 by decide), if_neg (show ¬ (10 : Int32) = 1 by decide), if_neg (show ¬ (10 : Int32) = 2 by decide), if_neg (show ¬ (10 : Int32) = 3 by decide), if_neg (show ¬ (10 : Int32) = 4 by decide), if_neg (show ¬ (10 : Int32) = 5 by decide), if_neg (show ¬ (10 : Int32) = 6 by decide), if_neg (show ¬ (10 : Int32) = 7 by decide), if_neg (show ¬ (10 : Int32) = 8 by decide), oc_x, (hj.t 0).d0]
  refine ⟨-1, ?_, ?_⟩
  · rw [if_neg h0, if_neg h1, if_neg h2, if_neg h3, if_neg h4, if_neg h5, if_neg h6, if_neg h7, if_neg h8, if_neg h9, if_neg h10]
  · rw [if_neg h9, not10 h0 h1 h2 h3 h4 h5 h6 h7 h8 h9 h10, ob_s, if_pos rfl]
theorem in6 (M : MM) : f_X13_in M 0 0 6 = some 1 ∧ f_X13_in M 1 0 6 = some 1 ∧ f_X13_in M 2 0 6 = some 1 ∧ f_X13_in M 3 0 6 = some 1 ∧ f_X13_in M 4 0 6 = some 1 ∧ f_X13_in M 5 0 6 = some 1 ∧ f_X13_in M 6 0 6 = some 1 := ⟨rfl, rfl, rfl, rfl, rfl, rfl, rfl⟩
theorem not6 {x : Int32} (h0 : ¬ x = 0) (h1 : ¬ x = 1) (h2 : ¬ x = 2) (h3 : ¬ x = 3) (h4 : ¬ x = 4) (h5 : ¬ x = 5) (h6 : ¬ x = 6) (M : MM) : f_X13_in M x 0 6 = some 0 := by
  rw [in_eq]
  rcases rng x 0 6 with ⟨-, h⟩ | ⟨-, -, h⟩ | ⟨a, b, -⟩
  · rw [h]
  · rw [h]
  · exfalso
    obtain ⟨k, hk, rfl⟩ := nI_of2 (M := 6) (n := 6) (by decide) a b
    have hc : k = 0 ∨ k = 1 ∨ k = 2 ∨ k = 3 ∨ k = 4 ∨ k = 5 ∨ k = 6 := by omega
    rcases hc with rfl | rfl | rfl | rfl | rfl | rfl | rfl
    · exact h0 rfl
    · exact h1 rfl
    · exact h2 rfl
    · exact h3 rfl
    · exact h4 rfl
    · exact h5 rfl
    · exact h6 rfl
theorem t_statue {C R : MM} (h : TOP C R) (x1 x2 : Int32) : NT C R (f_X11_statue C 1 x1 x2) (f_X13_statue R 118 x1 x2) := by
  obtain ⟨jo, sc, ic, sp, hS, hR, hQ, hP, hV, hD, hI⟩ := h
  unfold f_X11_statue f_X13_statue
  rw [hS.a5, oc_x]
  rcases hI with ⟨hb, hr, -⟩ | ⟨j, D, n, hc, hj, hT, hJ⟩
  · refine ⟨-1, ?_, ?_⟩
    · rw [(bare_n hb x1).2.2.1, ob_s, oc_z]
    · rw [(rnone (M := pI R 118 0 0) hr x1).2.2.1, ob_s, if_pos rfl]
  have n10 := hc.nb.2.2.1
  rcases inr x1 (show n 2 < 2147483648 by omega) with h1 | ⟨k, hk, rfl⟩
  · refine ⟨-1, ?_, ?_⟩
    · rw [statueAt_n hc.is hc.cn.2.2.1 h1, ob_s, oc_z]
    · rw [isStatue_n (hj.t 0) hc.dn.2.2.1 h1, ob_s, if_pos rfl]
  have es := hc.ce.2.2.1 k hk
  have k10 : k < 10 := by omega
  rw [hc.s hk, ob_s, oc_x, isStatue_s (hj.t 0) hc.dn.2.2.1 hk (by omega), ob_s, if_neg (show ¬ (1 : Int32) = 0 by decide)]
  unfold f_X5_report
  by_cases h0 : x2 = 0
  · subst h0
    refine ⟨D 7 k, ?_, ?_⟩
    · rw [if_pos rfl, ob_s, es.1]
    · rw [(in6 _).1, ob_s, if_neg (show ¬ (1 : Int32) = 0 by decide), if_pos rfl, (hj.t 0).j, oc_x, (hj.t 0).s.k15, oc_x, chk_n k10 (by decide), ix_n (by omega), (hj.t 0).d 7 k (by decide)]
  by_cases h1 : x2 = 1
  · subst h1
    refine ⟨D 8 k, ?_, ?_⟩
    · rw [if_neg (show ¬ (1 : Int32) = 0 by decide), if_pos rfl, ob_s, es.2.1]
    · rw [(in6 _).2.1, ob_s, if_neg (show ¬ (1 : Int32) = 0 by decide), if_neg (show ¬ (1 : Int32) = 0 by decide), if_pos rfl, (hj.t 0).j, oc_x, (hj.t 0).s.k16, oc_x, chk_n k10 (by decide), ix_n (by omega), (hj.t 0).d 8 k (by decide)]
  by_cases h2 : x2 = 2
  · subst h2
    refine ⟨D 9 k, ?_, ?_⟩
    · rw [if_neg (show ¬ (2 : Int32) = 0 by decide), if_neg (show ¬ (2 : Int32) = 1 by decide), if_pos rfl, ob_s, es.2.2.1]
    · rw [(in6 _).2.2.1, ob_s, if_neg (show ¬ (1 : Int32) = 0 by decide), if_neg (show ¬ (2 : Int32) = 0 by decide), if_neg (show ¬ (2 : Int32) = 1 by decide), if_pos rfl, (hj.t 0).j, oc_x, (hj.t 0).s.k17, oc_x, chk_n k10 (by decide), ix_n (by omega), (hj.t 0).d 9 k (by decide)]
  by_cases h3 : x2 = 3
  · subst h3
    refine ⟨D 10 k, ?_, ?_⟩
    · rw [if_neg (show ¬ (3 : Int32) = 0 by decide), if_neg (show ¬ (3 : Int32) = 1 by decide), if_neg (show ¬ (3 : Int32) = 2 by decide), if_pos rfl, ob_s, es.2.2.2.1]
    · rw [(in6 _).2.2.2.1, ob_s, if_neg (show ¬ (1 : Int32) = 0 by decide), if_neg (show ¬ (3 : Int32) = 0 by decide), if_neg (show ¬ (3 : Int32) = 1 by decide), if_neg (show ¬ (3 : Int32) = 2 by decide), if_pos rfl, (hj.t 0).j, oc_x, (hj.t 0).s.k18, oc_x, chk_n k10 (by decide), ix_n (by omega), (hj.t 0).d 10 k (by decide)]
  by_cases h4 : x2 = 4
  · subst h4
    refine ⟨D 11 k, ?_, ?_⟩
    · rw [if_neg (show ¬ (4 : Int32) = 0 by decide), if_neg (show ¬ (4 : Int32) = 1 by decide), if_neg (show ¬ (4 : Int32) = 2 by decide), if_neg (show ¬ (4 : Int32) = 3 by decide), if_pos rfl, ob_s, es.2.2.2.2.1]
    · rw [(in6 _).2.2.2.2.1, ob_s, if_neg (show ¬ (1 : Int32) = 0 by decide), if_neg (show ¬ (4 : Int32) = 0 by decide), if_neg (show ¬ (4 : Int32) = 1 by decide), if_neg (show ¬ (4 : Int32) = 2 by decide), if_neg (show ¬ (4 : Int32) = 3 by decide), if_pos rfl, (hj.t 0).j, oc_x, (hj.t 0).s.k19, oc_x, chk_n k10 (by decide), ix_n (by omega), (hj.t 0).d 11 k (by decide)]
  by_cases h5 : x2 = 5
  · subst h5
    refine ⟨D 12 k, ?_, ?_⟩
    · rw [if_neg (show ¬ (5 : Int32) = 0 by decide), if_neg (show ¬ (5 : Int32) = 1 by decide), if_neg (show ¬ (5 : Int32) = 2 by decide), if_neg (show ¬ (5 : Int32) = 3 by decide), if_neg (show ¬ (5 : Int32) = 4 by decide), if_pos rfl, ob_s, es.2.2.2.2.2.1]
    · rw [(in6 _).2.2.2.2.2.1, ob_s, if_neg (show ¬ (1 : Int32) = 0 by decide), if_neg (show ¬ (5 : Int32) = 0 by decide), if_neg (show ¬ (5 : Int32) = 1 by decide), if_neg (show ¬ (5 : Int32) = 2 by decide), if_neg (show ¬ (5 : Int32) = 3 by decide), if_neg (show ¬ (5 : Int32) = 4 by decide), if_pos rfl, (hj.t 0).j, oc_x, (hj.t 0).s.k20, oc_x, chk_n k10 (by decide), ix_n (by omega), (hj.t 0).d 12 k (by decide)]
  by_cases h6 : x2 = 6
  · subst h6
    refine ⟨D 13 k, ?_, ?_⟩
    · rw [if_neg (show ¬ (6 : Int32) = 0 by decide), if_neg (show ¬ (6 : Int32) = 1 by decide), if_neg (show ¬ (6 : Int32) = 2 by decide), if_neg (show ¬ (6 : Int32) = 3 by decide), if_neg (show ¬ (6 : Int32) = 4 by decide), if_neg (show ¬ (6 : Int32) = 5 by decide), if_pos rfl, ob_s, es.2.2.2.2.2.2.1]
    · rw [(in6 _).2.2.2.2.2.2, ob_s, if_neg (show ¬ (1 : Int32) = 0 by decide), if_neg (show ¬ (6 : Int32) = 0 by decide), if_neg (show ¬ (6 : Int32) = 1 by decide), if_neg (show ¬ (6 : Int32) = 2 by decide), if_neg (show ¬ (6 : Int32) = 3 by decide), if_neg (show ¬ (6 : Int32) = 4 by decide), if_neg (show ¬ (6 : Int32) = 5 by decide), (hj.t 0).j, oc_x, (hj.t 0).s.k21, oc_x, chk_n k10 (by decide), ix_n (by omega), (hj.t 0).d 13 k (by decide)]
  refine ⟨-1, ?_, ?_⟩
  · rw [if_neg h0, if_neg h1, if_neg h2, if_neg h3, if_neg h4, if_neg h5, if_neg h6, ob_s]
  · rw [not6 h0 h1 h2 h3 h4 h5 h6, ob_s, if_pos rfl]
/-- calls about what was seen: the rest stands -/
theorem TOP.sg {C R C' R' : MM} (h : TOP C R) (eC : C'.2.2 = C.2.2) (eR : R'.2.2 = R.2.2) (e : ∀ a k, (2 ≤ a ∧ a < 8) ∨ 12 ≤ a → gI C' a k = gI C a k) (r : ∀ a k, (a = 118 ∧ 3 ≤ k ∧ k ≠ 25) ∨ a = 119 ∨ 124 ≤ a → gI R' a k = gI R a k) (hQ : TQ C' R') (hV : SR C' R') (hb : gR R 118 3 = none → gI C' 8 3 = 0) : TOP C' R' := by
  obtain ⟨jo, sc, ic, sp, hS, hR, -, hP, -, hD, hI⟩ := h
  have hi := ic14 hS
  refine ⟨jo, sc, ic, sp, hS.congr eC, hR.congr eR, hQ, ?_, hV, ?_, ?_⟩
  · unfold TP at *
    simp (disch := omega) only [e, r]
    exact hP
  · unfold SD at *
    simp (disch := omega) only [e, r]
    exact hD
  · rcases hI with ⟨h1, h2, h3, h4, h5⟩ | ⟨j, D, n, h1, h2, h3, h5⟩
    · refine Or.inl ⟨h1.congr (fun a k q => e a k (by omega)) eC hi.1, by unfold gR; rw [eR]; exact h2, ?_, ?_, hb h2⟩
      · unfold JN at *
        simp (disch := omega) only [e, r]
        exact h3
      · rw [e jo 0 (by omega)]; exact h4
    · refine Or.inr ⟨j, D, n, h1.congr (fun a k q => e a k (by omega)) eC hi.1, h2.congr (fun a k q => r a k (by omega)) eR, h3.congr (fun a k q => e a k (by omega)) hi.1, ?_⟩
      unfold JN JB at *
      simp (disch := omega) only [e, r]
      exact h5
theorem t_forget {C R : MM} (h : TOP C R) : FT C R (f_X11_forget C 1) (f_X13_forget R 118) := by
  have h0 := h
  obtain ⟨jo, sc, ic, sp, hS, hR, hQ, hP, ⟨s, hs, s1, s2, -⟩, hD, hI⟩ := h
  refine ⟨nI s, pI C 8 3 0, pI (pI R 118 0 0) 118 25 0, ?_, ?_, ?_⟩
  · unfold f_X11_forget f_X4_clear
    rw [hS.a2, oc_x, oc_x, ob_s, s1]
  · unfold f_X13_forget
    rw [gI_pIk (by decide), s2]
  · refine h0.sg rfl rfl (fun a k q => gI_pIa (by omega)) (fun a k q => by rw [gI_pIn (by omega), gI_pIn (by omega)]) ?_ ⟨0, by omega, ?_, ?_, fun k hk => absurd hk (by omega)⟩ (fun _ => gI_pIs _ _ _ _)
    · unfold TQ at *
      simp (disch := omega) only [gI_pIn]
      exact hQ
    · rw [gI_pIs]; rfl
    · rw [gI_pIs]; rfl
theorem t_see {C R : MM} (h : TOP C R) (x1 x2 x3 : Int32) : FT C R (f_X11_see C 1 x1 x2 x3) (f_X13_see R 118 x1 x2 x3) := by
  have h0 := h
  obtain ⟨jo, sc, ic, sp, hS, hR, hQ, hP, ⟨s, hs, s1, s2, s3⟩, hD, hI⟩ := h
  unfold f_X11_see f_X13_see
  rcases hI with ⟨hb, hr, -⟩ | ⟨j, D, n, hc, hj, hT, hJ⟩
  · refine (QQ.mk (-1) 1 (by decide) ?_ ?_).top h0
    · simp only [hS.a5, oc_x, oc_z, ob_s, if_true, if_false, l00, l01, l02, l10, l11, l12, bare_b hb, f_X11_refused]
    · rw [show gR (pI R 118 0 0) 118 3 = none from hr, oc_z]
      simp only [oc_x, oc_z, ob_s, if_true, if_false, l00, l01, l02, l10, l11, l12, f_X13_refused]
      rfl
  rcases year01 x1 with ⟨y1, y2⟩ | ⟨y1, y2, y, y3, rfl⟩
  · refine (QQ.mk (-1) 2 (by decide) ?_ ?_).top h0
    · simp only [hS.a5, oc_x, oc_z, ob_s, if_true, if_false, l00, l01, l02, l10, l11, l12, live_b hc, year_c, y1, f_X11_refused]
    · simp only [oc_x, oc_z, ob_s, if_true, if_false, l00, l01, l02, l10, l11, l12, (hj.t 0).j, in_eq, y2, f_X13_refused]
      rfl
  rcases rng x2 0 9999 with ⟨g1, g3⟩ | ⟨g1, g2, g3⟩ | ⟨g1, g2, g3⟩
  · refine (QQ.mk (-1) 2 (by decide) ?_ ?_).top h0
    · simp only [hS.a5, oc_x, oc_z, ob_s, if_true, if_false, l00, l01, l02, l10, l11, l12, live_b hc, year_c, y1, if_pos g1, f_X11_refused]
    · simp only [oc_x, oc_z, ob_s, if_true, if_false, l00, l01, l02, l10, l11, l12, (hj.t 0).j, in_eq, y2, g3, f_X13_refused]
      rfl
  · refine (QQ.mk (-1) 2 (by decide) ?_ ?_).top h0
    · simp only [hS.a5, oc_x, oc_z, ob_s, if_true, if_false, l00, l01, l02, l10, l11, l12, live_b hc, year_c, y1, if_neg g1, if_pos (i32_lt g2), f_X11_refused]
    · simp only [oc_x, oc_z, ob_s, if_true, if_false, l00, l01, l02, l10, l11, l12, (hj.t 0).j, in_eq, y2, g3, f_X13_refused]
      rfl
  rcases rng x3 0 999 with ⟨k1, k3⟩ | ⟨k1, k2, k3⟩ | ⟨k1, k2, k3⟩
  · refine (QQ.mk (-1) 2 (by decide) ?_ ?_).top h0
    · simp only [hS.a5, oc_x, oc_z, ob_s, if_true, if_false, l00, l01, l02, l10, l11, l12, live_b hc, year_c, y1, if_neg g1, if_neg (Int32.not_lt.mpr g2), if_pos k1, f_X11_refused]
    · simp only [oc_x, oc_z, ob_s, if_true, if_false, l00, l01, l02, l10, l11, l12, (hj.t 0).j, in_eq, y2, g3, k3, f_X13_refused]
      rfl
  · refine (QQ.mk (-1) 2 (by decide) ?_ ?_).top h0
    · simp only [hS.a5, oc_x, oc_z, ob_s, if_true, if_false, l00, l01, l02, l10, l11, l12, live_b hc, year_c, y1, if_neg g1, if_neg (Int32.not_lt.mpr g2), if_neg k1, if_neg k2, f_X11_refused]
    · simp only [oc_x, oc_z, ob_s, if_true, if_false, l00, l01, l02, l10, l11, l12, (hj.t 0).j, in_eq, y2, g3, k3, f_X13_refused]
      rfl
  obtain ⟨t, ht, rfl⟩ := nI_of2 (M := 9999) (n := 9999) (by decide) g1 g2
  obtain ⟨w, hw, rfl⟩ := nI_of2 (M := 999) (n := 999) (by decide) k1 k2
  by_cases h12 : s = 12
  · have ea : f_X4_add C 8 (nI y) (nI t) (nI w) = some (0, C) := by
      unfold f_X4_add
      rw [hS.g0, oc_x, s1, if_neg (show ¬ nI s < (12 : Int32) from nI_nlt (b := 12) (by omega) (by omega))]
    refine (QQ.mk (-1) 3 (by decide) ?_ ?_).top h0
    · simp only [hS.a5, hS.a2, oc_x, oc_z, ob_s, if_true, if_false, l00, l01, l02, l10, l11, l12, live_b hc, year_c, y1, if_neg g1, if_neg (Int32.not_lt.mpr g2), if_neg k1, if_pos k2, ea, f_X11_refused]
    · simp only [oc_x, oc_z, ob_s, if_true, if_false, l00, l01, l02, l10, l11, l12, (hj.t 0).j, in_eq, y2, g3, k3, gI_pIk (show 25 ≠ 0 by decide), s2, if_pos (show nI s = (12 : Int32) by rw [h12]; rfl), f_X13_refused]
      rfl
  have s12 : s < 12 := by omega
  obtain ⟨C1, hC1⟩ : ∃ C1, C1 = pI (pI (pI (pI C 9 s (nI y)) 10 s (nI t)) 11 s (nI w)) 8 3 (nI (s + 1)) := ⟨_, rfl⟩
  have ea : f_X4_add C 8 (nI y) (nI t) (nI w) = some (1, C1) := by
    unfold f_X4_add
    have e1 : gI (pI C 9 s (nI y)) 8 3 = nI s := by rw [gI_pIa (by decide)]; exact s1
    have e2 : gI (pI (pI C 9 s (nI y)) 10 s (nI t)) 8 3 = nI s := by rw [gI_pIa (by decide)]; exact e1
    have e3 : gI (pI (pI (pI C 9 s (nI y)) 10 s (nI t)) 11 s (nI w)) 8 3 = nI s := by rw [gI_pIa (by decide)]; exact e2
    rw [hS.g0, oc_x, s1, if_pos (show nI s < (12 : Int32) from nI_lt (b := 12) (by omega) (by decide)), oc_x, chk_n s12 (by decide), ix_n (by omega), show gR (pI C 9 s (nI y)) 8 1 = some 10 from hS.g1, oc_x, e1, chk_n s12 (by decide), ix_n (by omega), show gR (pI (pI C 9 s (nI y)) 10 s (nI t)) 8 2 = some 11 from hS.g2, oc_x, e2, chk_n s12 (by decide), ix_n (by omega), e3, nI_1 s, ← hC1]
  have e : ∀ a k, (a < 9 ∧ (a ≠ 8 ∨ k ≠ 3)) ∨ 12 ≤ a → gI C1 a k = gI C a k := fun a k q => by
    rw [hC1]
    simp (disch := omega) only [gI_pIn]
  have h83 : gI C1 8 3 = nI (s + 1) := by rw [hC1, gI_pIs]
  refine ⟨nI (s + 1), pI C1 1 7 0, pI (pI (pI (pI (pI (pI (pI R 118 0 0) 120 s (nI y)) 121 s (nI t)) 122 s (nI w)) 118 25 (nI (s + 1))) 118 1 0) 118 2 (-1), ?_, ?_, ?_⟩
  · have hr2 : gR C1 1 2 = some 8 := by rw [hC1]; exact hS.a2
    simp only [hS.a5, hS.a2, oc_x, oc_z, ob_s, if_true, if_false, l00, l01, l02, l10, l11, l12, live_b hc, year_c, y1, if_neg g1, if_neg (Int32.not_lt.mpr g2), if_neg k1, if_pos k2, ea, hr2, h83, f_X11_granted]
  · have e0 : gI (pI R 118 0 0) 118 25 = nI s := by rw [gI_pIk (by decide)]; exact s2
    have e1 : gI (pI (pI R 118 0 0) 120 s (nI y)) 118 25 = nI s := by rw [gI_pIa (by decide)]; exact e0
    have e2 : gI (pI (pI (pI R 118 0 0) 120 s (nI y)) 121 s (nI t)) 118 25 = nI s := by rw [gI_pIa (by decide)]; exact e1
    have e3 : gI (pI (pI (pI (pI R 118 0 0) 120 s (nI y)) 121 s (nI t)) 122 s (nI w)) 118 25 = nI s := by rw [gI_pIa (by decide)]; exact e2
    have ne : ¬ nI s = (12 : Int32) := fun z => h12 ((nI_eq (a := s) (b := 12) (by omega) (by omega)).mp z)
    rw [(hj.t 0).j, oc_x, in_eq, ob_s, y2, if_neg (show ¬ (1 : Int32) = 0 by decide), in_eq, ob_s, g3, if_neg (show ¬ (1 : Int32) = 0 by decide), in_eq, ob_s, k3, if_neg (show ¬ (1 : Int32) = 0 by decide), e0, if_neg ne, show gR (pI R 118 0 0) 118 26 = some 120 from hR.2.1, oc_x, chk_n s12 (by decide), ix_n (show s < 2147483648 by omega), show gR (pI (pI R 118 0 0) 120 s (nI y)) 118 27 = some 121 from hR.2.2.1, oc_x, e1, chk_n s12 (by decide), ix_n (show s < 2147483648 by omega), show gR (pI (pI (pI R 118 0 0) 120 s (nI y)) 121 s (nI t)) 118 28 = some 122 from hR.2.2.2, oc_x, e2, chk_n s12 (by decide), ix_n (show s < 2147483648 by omega), e3, nI_1 s, gI_pIs, f_X13_done, ob_s]
  · have e' : ∀ a k, (2 ≤ a ∧ a < 9 ∧ (a ≠ 8 ∨ k ≠ 3)) ∨ 12 ≤ a → gI (pI C1 1 7 0) a k = gI C a k := fun a k q => by rw [gI_pIa (by omega)]; exact e a k (by omega)
    have r : ∀ a k, (a = 118 ∧ 3 ≤ k ∧ k ≠ 25) ∨ (a ≠ 118 ∧ a ≠ 120 ∧ a ≠ 121 ∧ a ≠ 122) → gI (pI (pI (pI (pI (pI (pI (pI R 118 0 0) 120 s (nI y)) 121 s (nI t)) 122 s (nI w)) 118 25 (nI (s + 1))) 118 1 0) 118 2 (-1)) a k = gI R a k := fun a k q => by
      simp (disch := omega) only [gI_pIn]
    refine h0.sg (by rw [hC1]; rfl) rfl (fun a k q => e' a k (by omega)) (fun a k q => r a k (by omega)) ?_ ⟨s + 1, by omega, ?_, ?_, fun k hk => ?_⟩ (fun z => absurd (z.symm.trans hj.j) (by simp))
    · refine TQ.mk' (tr := 0) (by decide) (gI_pIs _ _ _ _) ?_ (gI_pIs _ _ _ _) ?_
      · rw [gI_pIk (by decide), gI_pIs]
      · rw [e' 4 5 (by omega), r 118 13 (by omega)]; exact hQ.2.1
    · rw [gI_pIa (by decide)]; exact h83
    · simp (disch := omega) only [gI_pIs, gI_pIn]
    · by_cases q : k = s
      · subst q
        refine ⟨⟨y, y3, ?_, ?_⟩, ⟨t, ht, ?_, ?_⟩, ⟨w, hw, ?_, ?_⟩⟩ <;> (try rw [hC1]) <;> simp (disch := omega) only [gI_pIs, gI_pIn]
      · have hk' : k < s := by omega
        obtain ⟨⟨a1, a2, a3, a4⟩, ⟨b1, b2, b3, b4⟩, ⟨c1, c2, c3, c4⟩⟩ := s3 k hk'
        refine ⟨⟨a1, a2, ?_, ?_⟩, ⟨b1, b2, ?_, ?_⟩, ⟨c1, c2, ?_, ?_⟩⟩ <;> (try rw [hC1]) <;> simp (disch := omega) only [gI_pIn] <;> assumption
