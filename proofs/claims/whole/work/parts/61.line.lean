/-! ONE LINE, whichever it is -/
theorem cd_nn {a b : Nat} {v : Int64} (ha : a < 42) (hb : b < 42) (h1 : 30 ≤ a) (h2 : 30 ≤ b) (h : a ≠ b) (e : cd a = v) : ¬ cd b = v := by
  intro e2
  rcases Nat.lt_or_ge a b with q | q
  · exact cd_ne b hb a q h1 (e2.trans e.symm)
  · exact cd_ne a ha b (by omega) h2 (e.trans e2.symm)
theorem rl_30 {R : MM} (h : gI R 118 9 = 2) (e : cd 30 = gL R 118 15) : f_X13_readLine R 118 = ob (f_X13_readWay R 118) (fun z => some z) ∧ wsel R 0 = 0 := by
  have n31 : ¬ cd 31 = gL R 118 15 := cd_nn (by decide) (by decide) (by decide) (by decide) (show 30 ≠ 31 by decide) e
  have n32 : ¬ cd 32 = gL R 118 15 := cd_nn (by decide) (by decide) (by decide) (by decide) (show 30 ≠ 32 by decide) e
  have n33 : ¬ cd 33 = gL R 118 15 := cd_nn (by decide) (by decide) (by decide) (by decide) (show 30 ≠ 33 by decide) e
  have n34 : ¬ cd 34 = gL R 118 15 := cd_nn (by decide) (by decide) (by decide) (by decide) (show 30 ≠ 34 by decide) e
  have n35 : ¬ cd 35 = gL R 118 15 := cd_nn (by decide) (by decide) (by decide) (by decide) (show 30 ≠ 35 by decide) e
  have n36 : ¬ cd 36 = gL R 118 15 := cd_nn (by decide) (by decide) (by decide) (by decide) (show 30 ≠ 36 by decide) e
  have n37 : ¬ cd 37 = gL R 118 15 := cd_nn (by decide) (by decide) (by decide) (by decide) (show 30 ≠ 37 by decide) e
  have n38 : ¬ cd 38 = gL R 118 15 := cd_nn (by decide) (by decide) (by decide) (by decide) (show 30 ≠ 38 by decide) e
  have n39 : ¬ cd 39 = gL R 118 15 := cd_nn (by decide) (by decide) (by decide) (by decide) (show 30 ≠ 39 by decide) e
  constructor
  · unfold f_X13_readLine
    simp only [isWord_r R (show 30 < 57 by decide), isWord_r R (show 31 < 57 by decide), isWord_r R (show 32 < 57 by decide), isWord_r R (show 33 < 57 by decide), isWord_r R (show 34 < 57 by decide), isWord_r R (show 35 < 57 by decide), isWord_r R (show 36 < 57 by decide), isWord_r R (show 37 < 57 by decide), isWord_r R (show 38 < 57 by decide), isWord_r R (show 39 < 57 by decide), ob_s, if_pos h, b01, if_pos e, if_pos e, if_true, if_neg (show ¬ (1 : Int32) = 0 by decide)]
  · unfold wsel
    rw [if_pos h, W0]
    simp only [idx, if_pos e, if_pos e] <;> rfl
theorem rl_31 {R : MM} (h : gI R 118 9 = 2) (e : cd 31 = gL R 118 15) : f_X13_readLine R 118 = ob (f_X13_readRoad R 118) (fun z => some z) ∧ wsel R 0 = 1 := by
  have n30 : ¬ cd 30 = gL R 118 15 := cd_nn (by decide) (by decide) (by decide) (by decide) (show 31 ≠ 30 by decide) e
  have n32 : ¬ cd 32 = gL R 118 15 := cd_nn (by decide) (by decide) (by decide) (by decide) (show 31 ≠ 32 by decide) e
  have n33 : ¬ cd 33 = gL R 118 15 := cd_nn (by decide) (by decide) (by decide) (by decide) (show 31 ≠ 33 by decide) e
  have n34 : ¬ cd 34 = gL R 118 15 := cd_nn (by decide) (by decide) (by decide) (by decide) (show 31 ≠ 34 by decide) e
  have n35 : ¬ cd 35 = gL R 118 15 := cd_nn (by decide) (by decide) (by decide) (by decide) (show 31 ≠ 35 by decide) e
  have n36 : ¬ cd 36 = gL R 118 15 := cd_nn (by decide) (by decide) (by decide) (by decide) (show 31 ≠ 36 by decide) e
  have n37 : ¬ cd 37 = gL R 118 15 := cd_nn (by decide) (by decide) (by decide) (by decide) (show 31 ≠ 37 by decide) e
  have n38 : ¬ cd 38 = gL R 118 15 := cd_nn (by decide) (by decide) (by decide) (by decide) (show 31 ≠ 38 by decide) e
  have n39 : ¬ cd 39 = gL R 118 15 := cd_nn (by decide) (by decide) (by decide) (by decide) (show 31 ≠ 39 by decide) e
  constructor
  · unfold f_X13_readLine
    simp only [isWord_r R (show 30 < 57 by decide), isWord_r R (show 31 < 57 by decide), isWord_r R (show 32 < 57 by decide), isWord_r R (show 33 < 57 by decide), isWord_r R (show 34 < 57 by decide), isWord_r R (show 35 < 57 by decide), isWord_r R (show 36 < 57 by decide), isWord_r R (show 37 < 57 by decide), isWord_r R (show 38 < 57 by decide), isWord_r R (show 39 < 57 by decide), ob_s, if_pos h, b01, if_neg n30, if_pos e, if_true, if_neg (show ¬ (1 : Int32) = 0 by decide)]
  · unfold wsel
    rw [if_pos h, W0]
    simp only [idx, if_neg n30, if_pos e] <;> rfl
theorem rl_32 {R : MM} (h : gI R 118 9 = 2) (e : cd 32 = gL R 118 15) : f_X13_readLine R 118 = ob (f_X13_readStatue R 118) (fun z => some z) ∧ wsel R 0 = 2 := by
  have n30 : ¬ cd 30 = gL R 118 15 := cd_nn (by decide) (by decide) (by decide) (by decide) (show 32 ≠ 30 by decide) e
  have n31 : ¬ cd 31 = gL R 118 15 := cd_nn (by decide) (by decide) (by decide) (by decide) (show 32 ≠ 31 by decide) e
  have n33 : ¬ cd 33 = gL R 118 15 := cd_nn (by decide) (by decide) (by decide) (by decide) (show 32 ≠ 33 by decide) e
  have n34 : ¬ cd 34 = gL R 118 15 := cd_nn (by decide) (by decide) (by decide) (by decide) (show 32 ≠ 34 by decide) e
  have n35 : ¬ cd 35 = gL R 118 15 := cd_nn (by decide) (by decide) (by decide) (by decide) (show 32 ≠ 35 by decide) e
  have n36 : ¬ cd 36 = gL R 118 15 := cd_nn (by decide) (by decide) (by decide) (by decide) (show 32 ≠ 36 by decide) e
  have n37 : ¬ cd 37 = gL R 118 15 := cd_nn (by decide) (by decide) (by decide) (by decide) (show 32 ≠ 37 by decide) e
  have n38 : ¬ cd 38 = gL R 118 15 := cd_nn (by decide) (by decide) (by decide) (by decide) (show 32 ≠ 38 by decide) e
  have n39 : ¬ cd 39 = gL R 118 15 := cd_nn (by decide) (by decide) (by decide) (by decide) (show 32 ≠ 39 by decide) e
  constructor
  · unfold f_X13_readLine
    simp only [isWord_r R (show 30 < 57 by decide), isWord_r R (show 31 < 57 by decide), isWord_r R (show 32 < 57 by decide), isWord_r R (show 33 < 57 by decide), isWord_r R (show 34 < 57 by decide), isWord_r R (show 35 < 57 by decide), isWord_r R (show 36 < 57 by decide), isWord_r R (show 37 < 57 by decide), isWord_r R (show 38 < 57 by decide), isWord_r R (show 39 < 57 by decide), ob_s, if_pos h, b01, if_neg n30, if_neg n31, if_pos e, if_true, if_neg (show ¬ (1 : Int32) = 0 by decide)]
  · unfold wsel
    rw [if_pos h, W0]
    simp only [idx, if_neg n30, if_neg n31, if_pos e] <;> rfl
theorem rl_33 {R : MM} (h : gI R 118 9 = 2) (e : cd 33 = gL R 118 15) : f_X13_readLine R 118 = ob (f_X13_readTrial R 118) (fun z => some z) ∧ wsel R 0 = 3 := by
  have n30 : ¬ cd 30 = gL R 118 15 := cd_nn (by decide) (by decide) (by decide) (by decide) (show 33 ≠ 30 by decide) e
  have n31 : ¬ cd 31 = gL R 118 15 := cd_nn (by decide) (by decide) (by decide) (by decide) (show 33 ≠ 31 by decide) e
  have n32 : ¬ cd 32 = gL R 118 15 := cd_nn (by decide) (by decide) (by decide) (by decide) (show 33 ≠ 32 by decide) e
  have n34 : ¬ cd 34 = gL R 118 15 := cd_nn (by decide) (by decide) (by decide) (by decide) (show 33 ≠ 34 by decide) e
  have n35 : ¬ cd 35 = gL R 118 15 := cd_nn (by decide) (by decide) (by decide) (by decide) (show 33 ≠ 35 by decide) e
  have n36 : ¬ cd 36 = gL R 118 15 := cd_nn (by decide) (by decide) (by decide) (by decide) (show 33 ≠ 36 by decide) e
  have n37 : ¬ cd 37 = gL R 118 15 := cd_nn (by decide) (by decide) (by decide) (by decide) (show 33 ≠ 37 by decide) e
  have n38 : ¬ cd 38 = gL R 118 15 := cd_nn (by decide) (by decide) (by decide) (by decide) (show 33 ≠ 38 by decide) e
  have n39 : ¬ cd 39 = gL R 118 15 := cd_nn (by decide) (by decide) (by decide) (by decide) (show 33 ≠ 39 by decide) e
  constructor
  · unfold f_X13_readLine
    simp only [isWord_r R (show 30 < 57 by decide), isWord_r R (show 31 < 57 by decide), isWord_r R (show 32 < 57 by decide), isWord_r R (show 33 < 57 by decide), isWord_r R (show 34 < 57 by decide), isWord_r R (show 35 < 57 by decide), isWord_r R (show 36 < 57 by decide), isWord_r R (show 37 < 57 by decide), isWord_r R (show 38 < 57 by decide), isWord_r R (show 39 < 57 by decide), ob_s, if_pos h, b01, if_neg n30, if_neg n31, if_neg n32, if_pos e, if_true, if_neg (show ¬ (1 : Int32) = 0 by decide)]
  · unfold wsel
    rw [if_pos h, W0]
    simp only [idx, if_neg n30, if_neg n31, if_neg n32, if_pos e] <;> rfl
theorem rl_34 {R : MM} (h : gI R 118 9 = 2) (e : cd 34 = gL R 118 15) : f_X13_readLine R 118 = ob (f_X13_readLand R 118) (fun z => some z) ∧ wsel R 0 = 7 := by
  have n30 : ¬ cd 30 = gL R 118 15 := cd_nn (by decide) (by decide) (by decide) (by decide) (show 34 ≠ 30 by decide) e
  have n31 : ¬ cd 31 = gL R 118 15 := cd_nn (by decide) (by decide) (by decide) (by decide) (show 34 ≠ 31 by decide) e
  have n32 : ¬ cd 32 = gL R 118 15 := cd_nn (by decide) (by decide) (by decide) (by decide) (show 34 ≠ 32 by decide) e
  have n33 : ¬ cd 33 = gL R 118 15 := cd_nn (by decide) (by decide) (by decide) (by decide) (show 34 ≠ 33 by decide) e
  have n35 : ¬ cd 35 = gL R 118 15 := cd_nn (by decide) (by decide) (by decide) (by decide) (show 34 ≠ 35 by decide) e
  have n36 : ¬ cd 36 = gL R 118 15 := cd_nn (by decide) (by decide) (by decide) (by decide) (show 34 ≠ 36 by decide) e
  have n37 : ¬ cd 37 = gL R 118 15 := cd_nn (by decide) (by decide) (by decide) (by decide) (show 34 ≠ 37 by decide) e
  have n38 : ¬ cd 38 = gL R 118 15 := cd_nn (by decide) (by decide) (by decide) (by decide) (show 34 ≠ 38 by decide) e
  have n39 : ¬ cd 39 = gL R 118 15 := cd_nn (by decide) (by decide) (by decide) (by decide) (show 34 ≠ 39 by decide) e
  constructor
  · unfold f_X13_readLine
    simp only [isWord_r R (show 30 < 57 by decide), isWord_r R (show 31 < 57 by decide), isWord_r R (show 32 < 57 by decide), isWord_r R (show 33 < 57 by decide), isWord_r R (show 34 < 57 by decide), isWord_r R (show 35 < 57 by decide), isWord_r R (show 36 < 57 by decide), isWord_r R (show 37 < 57 by decide), isWord_r R (show 38 < 57 by decide), isWord_r R (show 39 < 57 by decide), ob_s, if_pos h, b01, if_neg n30, if_neg n31, if_neg n32, if_neg n33, if_pos e, if_true, if_neg (show ¬ (1 : Int32) = 0 by decide)]
  · unfold wsel
    rw [if_pos h, W0]
    simp only [idx, if_neg n30, if_neg n31, if_neg n32, if_neg n33, if_neg n37, if_neg n38, if_neg n39, if_pos e] <;> rfl
theorem rl_35 {R : MM} (h : gI R 118 9 = 2) (e : cd 35 = gL R 118 15) : f_X13_readLine R 118 = ob (f_X13_readFields R 118) (fun z => some z) ∧ wsel R 0 = 8 := by
  have n30 : ¬ cd 30 = gL R 118 15 := cd_nn (by decide) (by decide) (by decide) (by decide) (show 35 ≠ 30 by decide) e
  have n31 : ¬ cd 31 = gL R 118 15 := cd_nn (by decide) (by decide) (by decide) (by decide) (show 35 ≠ 31 by decide) e
  have n32 : ¬ cd 32 = gL R 118 15 := cd_nn (by decide) (by decide) (by decide) (by decide) (show 35 ≠ 32 by decide) e
  have n33 : ¬ cd 33 = gL R 118 15 := cd_nn (by decide) (by decide) (by decide) (by decide) (show 35 ≠ 33 by decide) e
  have n34 : ¬ cd 34 = gL R 118 15 := cd_nn (by decide) (by decide) (by decide) (by decide) (show 35 ≠ 34 by decide) e
  have n36 : ¬ cd 36 = gL R 118 15 := cd_nn (by decide) (by decide) (by decide) (by decide) (show 35 ≠ 36 by decide) e
  have n37 : ¬ cd 37 = gL R 118 15 := cd_nn (by decide) (by decide) (by decide) (by decide) (show 35 ≠ 37 by decide) e
  have n38 : ¬ cd 38 = gL R 118 15 := cd_nn (by decide) (by decide) (by decide) (by decide) (show 35 ≠ 38 by decide) e
  have n39 : ¬ cd 39 = gL R 118 15 := cd_nn (by decide) (by decide) (by decide) (by decide) (show 35 ≠ 39 by decide) e
  constructor
  · unfold f_X13_readLine
    simp only [isWord_r R (show 30 < 57 by decide), isWord_r R (show 31 < 57 by decide), isWord_r R (show 32 < 57 by decide), isWord_r R (show 33 < 57 by decide), isWord_r R (show 34 < 57 by decide), isWord_r R (show 35 < 57 by decide), isWord_r R (show 36 < 57 by decide), isWord_r R (show 37 < 57 by decide), isWord_r R (show 38 < 57 by decide), isWord_r R (show 39 < 57 by decide), ob_s, if_pos h, b01, if_neg n30, if_neg n31, if_neg n32, if_neg n33, if_neg n34, if_pos e, if_true, if_neg (show ¬ (1 : Int32) = 0 by decide)]
  · unfold wsel
    rw [if_pos h, W0]
    simp only [idx, if_neg n30, if_neg n31, if_neg n32, if_neg n33, if_neg n37, if_neg n38, if_neg n39, if_neg n34, if_pos e] <;> rfl
theorem rl_36 {R : MM} (h : gI R 118 9 = 2) (e : cd 36 = gL R 118 15) : f_X13_readLine R 118 = ob (f_X13_readHouses R 118) (fun z => some z) ∧ wsel R 0 = 9 := by
  have n30 : ¬ cd 30 = gL R 118 15 := cd_nn (by decide) (by decide) (by decide) (by decide) (show 36 ≠ 30 by decide) e
  have n31 : ¬ cd 31 = gL R 118 15 := cd_nn (by decide) (by decide) (by decide) (by decide) (show 36 ≠ 31 by decide) e
  have n32 : ¬ cd 32 = gL R 118 15 := cd_nn (by decide) (by decide) (by decide) (by decide) (show 36 ≠ 32 by decide) e
  have n33 : ¬ cd 33 = gL R 118 15 := cd_nn (by decide) (by decide) (by decide) (by decide) (show 36 ≠ 33 by decide) e
  have n34 : ¬ cd 34 = gL R 118 15 := cd_nn (by decide) (by decide) (by decide) (by decide) (show 36 ≠ 34 by decide) e
  have n35 : ¬ cd 35 = gL R 118 15 := cd_nn (by decide) (by decide) (by decide) (by decide) (show 36 ≠ 35 by decide) e
  have n37 : ¬ cd 37 = gL R 118 15 := cd_nn (by decide) (by decide) (by decide) (by decide) (show 36 ≠ 37 by decide) e
  have n38 : ¬ cd 38 = gL R 118 15 := cd_nn (by decide) (by decide) (by decide) (by decide) (show 36 ≠ 38 by decide) e
  have n39 : ¬ cd 39 = gL R 118 15 := cd_nn (by decide) (by decide) (by decide) (by decide) (show 36 ≠ 39 by decide) e
  constructor
  · unfold f_X13_readLine
    simp only [isWord_r R (show 30 < 57 by decide), isWord_r R (show 31 < 57 by decide), isWord_r R (show 32 < 57 by decide), isWord_r R (show 33 < 57 by decide), isWord_r R (show 34 < 57 by decide), isWord_r R (show 35 < 57 by decide), isWord_r R (show 36 < 57 by decide), isWord_r R (show 37 < 57 by decide), isWord_r R (show 38 < 57 by decide), isWord_r R (show 39 < 57 by decide), ob_s, if_pos h, b01, if_neg n30, if_neg n31, if_neg n32, if_neg n33, if_neg n34, if_neg n35, if_pos e, if_true, if_neg (show ¬ (1 : Int32) = 0 by decide)]
  · unfold wsel
    rw [if_pos h, W0]
    simp only [idx, if_neg n30, if_neg n31, if_neg n32, if_neg n33, if_neg n37, if_neg n38, if_neg n39, if_neg n34, if_neg n35, if_pos e] <;> rfl
theorem rl_37 {R : MM} (h : gI R 118 9 = 2) (e : cd 37 = gL R 118 15) : f_X13_readLine R 118 = ob (f_X13_readStory R 118) (fun z => some z) ∧ wsel R 0 = 4 := by
  have n30 : ¬ cd 30 = gL R 118 15 := cd_nn (by decide) (by decide) (by decide) (by decide) (show 37 ≠ 30 by decide) e
  have n31 : ¬ cd 31 = gL R 118 15 := cd_nn (by decide) (by decide) (by decide) (by decide) (show 37 ≠ 31 by decide) e
  have n32 : ¬ cd 32 = gL R 118 15 := cd_nn (by decide) (by decide) (by decide) (by decide) (show 37 ≠ 32 by decide) e
  have n33 : ¬ cd 33 = gL R 118 15 := cd_nn (by decide) (by decide) (by decide) (by decide) (show 37 ≠ 33 by decide) e
  have n34 : ¬ cd 34 = gL R 118 15 := cd_nn (by decide) (by decide) (by decide) (by decide) (show 37 ≠ 34 by decide) e
  have n35 : ¬ cd 35 = gL R 118 15 := cd_nn (by decide) (by decide) (by decide) (by decide) (show 37 ≠ 35 by decide) e
  have n36 : ¬ cd 36 = gL R 118 15 := cd_nn (by decide) (by decide) (by decide) (by decide) (show 37 ≠ 36 by decide) e
  have n38 : ¬ cd 38 = gL R 118 15 := cd_nn (by decide) (by decide) (by decide) (by decide) (show 37 ≠ 38 by decide) e
  have n39 : ¬ cd 39 = gL R 118 15 := cd_nn (by decide) (by decide) (by decide) (by decide) (show 37 ≠ 39 by decide) e
  constructor
  · unfold f_X13_readLine
    simp only [isWord_r R (show 30 < 57 by decide), isWord_r R (show 31 < 57 by decide), isWord_r R (show 32 < 57 by decide), isWord_r R (show 33 < 57 by decide), isWord_r R (show 34 < 57 by decide), isWord_r R (show 35 < 57 by decide), isWord_r R (show 36 < 57 by decide), isWord_r R (show 37 < 57 by decide), isWord_r R (show 38 < 57 by decide), isWord_r R (show 39 < 57 by decide), ob_s, if_pos h, b01, if_neg n30, if_neg n31, if_neg n32, if_neg n33, if_neg n34, if_neg n35, if_neg n36, if_pos e, if_true, if_neg (show ¬ (1 : Int32) = 0 by decide)]
  · unfold wsel
    rw [if_pos h, W0]
    simp only [idx, if_neg n30, if_neg n31, if_neg n32, if_neg n33, if_pos e] <;> rfl
theorem rl_38 {R : MM} (h : gI R 118 9 = 2) (e : cd 38 = gL R 118 15) : f_X13_readLine R 118 = ob (f_X13_readTeller R 118) (fun z => some z) ∧ wsel R 0 = 5 := by
  have n30 : ¬ cd 30 = gL R 118 15 := cd_nn (by decide) (by decide) (by decide) (by decide) (show 38 ≠ 30 by decide) e
  have n31 : ¬ cd 31 = gL R 118 15 := cd_nn (by decide) (by decide) (by decide) (by decide) (show 38 ≠ 31 by decide) e
  have n32 : ¬ cd 32 = gL R 118 15 := cd_nn (by decide) (by decide) (by decide) (by decide) (show 38 ≠ 32 by decide) e
  have n33 : ¬ cd 33 = gL R 118 15 := cd_nn (by decide) (by decide) (by decide) (by decide) (show 38 ≠ 33 by decide) e
  have n34 : ¬ cd 34 = gL R 118 15 := cd_nn (by decide) (by decide) (by decide) (by decide) (show 38 ≠ 34 by decide) e
  have n35 : ¬ cd 35 = gL R 118 15 := cd_nn (by decide) (by decide) (by decide) (by decide) (show 38 ≠ 35 by decide) e
  have n36 : ¬ cd 36 = gL R 118 15 := cd_nn (by decide) (by decide) (by decide) (by decide) (show 38 ≠ 36 by decide) e
  have n37 : ¬ cd 37 = gL R 118 15 := cd_nn (by decide) (by decide) (by decide) (by decide) (show 38 ≠ 37 by decide) e
  have n39 : ¬ cd 39 = gL R 118 15 := cd_nn (by decide) (by decide) (by decide) (by decide) (show 38 ≠ 39 by decide) e
  constructor
  · unfold f_X13_readLine
    simp only [isWord_r R (show 30 < 57 by decide), isWord_r R (show 31 < 57 by decide), isWord_r R (show 32 < 57 by decide), isWord_r R (show 33 < 57 by decide), isWord_r R (show 34 < 57 by decide), isWord_r R (show 35 < 57 by decide), isWord_r R (show 36 < 57 by decide), isWord_r R (show 37 < 57 by decide), isWord_r R (show 38 < 57 by decide), isWord_r R (show 39 < 57 by decide), ob_s, if_pos h, b01, if_neg n30, if_neg n31, if_neg n32, if_neg n33, if_neg n34, if_neg n35, if_neg n36, if_neg n37, if_pos e, if_true, if_neg (show ¬ (1 : Int32) = 0 by decide)]
  · unfold wsel
    rw [if_pos h, W0]
    simp only [idx, if_neg n30, if_neg n31, if_neg n32, if_neg n33, if_neg n37, if_pos e] <;> rfl
theorem rl_39 {R : MM} (h : gI R 118 9 = 2) (e : cd 39 = gL R 118 15) : f_X13_readLine R 118 = ob (f_X13_readTry R 118) (fun z => some z) ∧ wsel R 0 = 6 := by
  have n30 : ¬ cd 30 = gL R 118 15 := cd_nn (by decide) (by decide) (by decide) (by decide) (show 39 ≠ 30 by decide) e
  have n31 : ¬ cd 31 = gL R 118 15 := cd_nn (by decide) (by decide) (by decide) (by decide) (show 39 ≠ 31 by decide) e
  have n32 : ¬ cd 32 = gL R 118 15 := cd_nn (by decide) (by decide) (by decide) (by decide) (show 39 ≠ 32 by decide) e
  have n33 : ¬ cd 33 = gL R 118 15 := cd_nn (by decide) (by decide) (by decide) (by decide) (show 39 ≠ 33 by decide) e
  have n34 : ¬ cd 34 = gL R 118 15 := cd_nn (by decide) (by decide) (by decide) (by decide) (show 39 ≠ 34 by decide) e
  have n35 : ¬ cd 35 = gL R 118 15 := cd_nn (by decide) (by decide) (by decide) (by decide) (show 39 ≠ 35 by decide) e
  have n36 : ¬ cd 36 = gL R 118 15 := cd_nn (by decide) (by decide) (by decide) (by decide) (show 39 ≠ 36 by decide) e
  have n37 : ¬ cd 37 = gL R 118 15 := cd_nn (by decide) (by decide) (by decide) (by decide) (show 39 ≠ 37 by decide) e
  have n38 : ¬ cd 38 = gL R 118 15 := cd_nn (by decide) (by decide) (by decide) (by decide) (show 39 ≠ 38 by decide) e
  constructor
  · unfold f_X13_readLine
    simp only [isWord_r R (show 30 < 57 by decide), isWord_r R (show 31 < 57 by decide), isWord_r R (show 32 < 57 by decide), isWord_r R (show 33 < 57 by decide), isWord_r R (show 34 < 57 by decide), isWord_r R (show 35 < 57 by decide), isWord_r R (show 36 < 57 by decide), isWord_r R (show 37 < 57 by decide), isWord_r R (show 38 < 57 by decide), isWord_r R (show 39 < 57 by decide), ob_s, if_pos h, b01, if_neg n30, if_neg n31, if_neg n32, if_neg n33, if_neg n34, if_neg n35, if_neg n36, if_neg n37, if_neg n38, if_pos e, if_true, if_neg (show ¬ (1 : Int32) = 0 by decide)]
  · unfold wsel
    rw [if_pos h, W0]
    simp only [idx, if_neg n30, if_neg n31, if_neg n32, if_neg n33, if_neg n37, if_neg n38, if_pos e] <;> rfl
theorem rl_none {R : MM} (h : ¬ gI R 118 9 = 2 ∨ (¬ cd 30 = gL R 118 15 ∧ ¬ cd 31 = gL R 118 15 ∧ ¬ cd 32 = gL R 118 15 ∧ ¬ cd 33 = gL R 118 15 ∧ ¬ cd 34 = gL R 118 15 ∧ ¬ cd 35 = gL R 118 15 ∧ ¬ cd 36 = gL R 118 15 ∧ ¬ cd 37 = gL R 118 15 ∧ ¬ cd 38 = gL R 118 15 ∧ ¬ cd 39 = gL R 118 15)) : f_X13_readLine R 118 = ob (f_X13_wrong R 118 1) (fun z => some z) ∧ wsel R 0 = -1 := by
  by_cases q : gI R 118 9 = 2
  · obtain ⟨n30, n31, n32, n33, n34, n35, n36, n37, n38, n39⟩ := h.resolve_left (fun z => z q)
    constructor
    · unfold f_X13_readLine
      simp only [isWord_r R (show 30 < 57 by decide), isWord_r R (show 31 < 57 by decide), isWord_r R (show 32 < 57 by decide), isWord_r R (show 33 < 57 by decide), isWord_r R (show 34 < 57 by decide), isWord_r R (show 35 < 57 by decide), isWord_r R (show 36 < 57 by decide), isWord_r R (show 37 < 57 by decide), isWord_r R (show 38 < 57 by decide), isWord_r R (show 39 < 57 by decide), ob_s, if_pos q, b01, if_neg n30, if_neg n31, if_neg n32, if_neg n33, if_neg n34, if_neg n35, if_neg n36, if_neg n37, if_neg n38, if_neg n39, if_true]
    · unfold wsel
      rw [if_pos q, W0]
      simp only [idx, if_neg n30, if_neg n31, if_neg n32, if_neg n33, if_neg n34, if_neg n35, if_neg n36, if_neg n37, if_neg n38, if_neg n39]
  · constructor
    · unfold f_X13_readLine
      simp only [isWord_r R (show 30 < 57 by decide), isWord_r R (show 31 < 57 by decide), isWord_r R (show 32 < 57 by decide), isWord_r R (show 33 < 57 by decide), isWord_r R (show 34 < 57 by decide), isWord_r R (show 35 < 57 by decide), isWord_r R (show 36 < 57 by decide), isWord_r R (show 37 < 57 by decide), isWord_r R (show 38 < 57 by decide), isWord_r R (show 39 < 57 by decide), ob_s, if_neg q, if_true]
    · unfold wsel
      rw [if_neg q]
theorem line_any {C R : MM} {jr sp n s : Nat} {nn : Nat → Nat} (hF : RF C R jr) (hA : AL C R n s) (hP : PI C R sp jr nn) (hN : NM C R jr nn (tot nn)) : ∃ C' R', f_X2_readLine C 4 sp = some C' ∧ f_X13_readLine R 118 = some R' ∧ LO C R C' R' sp jr n s := by
  have none : f_X13_readLine R 118 = ob (f_X13_wrong R 118 1) (fun z => some z) ∧ wsel R 0 = -1 → ∃ C' R', f_X2_readLine C 4 sp = some C' ∧ f_X13_readLine R 118 = some R' ∧ LO C R C' R' sp jr n s := by
    intro ⟨e1, e2⟩
    obtain ⟨C1, R1, a1, a2, a3, a4, a5⟩ := p_fail hF (Or.inl hA) 1 (by decide)
    refine ⟨C1, R1, ?_, by rw [e1, a2, ob_s], a3.q.k sp, (a4.q jr).k, Or.inr a5⟩
    unfold f_X2_readLine
    rw [hF.1, oc_x, hA.among (show 0 < 57 by decide), ob_s, e2, if_pos rfl, a1, ob_s]
  by_cases h : gI R 118 9 = 2
  · skip
    by_cases e30 : cd 30 = gL R 118 15
    · obtain ⟨q1, q2⟩ := rl_30 h e30
      obtain ⟨C', R', a1, a2, a3⟩ := line_way hF hA hP hN q2
      exact ⟨C', R', a1, by rw [q1, a2, ob_s], a3⟩
    by_cases e31 : cd 31 = gL R 118 15
    · obtain ⟨q1, q2⟩ := rl_31 h e31
      obtain ⟨C', R', a1, a2, a3⟩ := line_road hF hA hP hN q2
      exact ⟨C', R', a1, by rw [q1, a2, ob_s], a3⟩
    by_cases e32 : cd 32 = gL R 118 15
    · obtain ⟨q1, q2⟩ := rl_32 h e32
      obtain ⟨C', R', a1, a2, a3⟩ := line_statue hF hA hP hN q2
      exact ⟨C', R', a1, by rw [q1, a2, ob_s], a3⟩
    by_cases e33 : cd 33 = gL R 118 15
    · obtain ⟨q1, q2⟩ := rl_33 h e33
      obtain ⟨C', R', a1, a2, a3⟩ := line_trial hF hA hP hN q2
      exact ⟨C', R', a1, by rw [q1, a2, ob_s], a3⟩
    by_cases e34 : cd 34 = gL R 118 15
    · obtain ⟨q1, q2⟩ := rl_34 h e34
      obtain ⟨C', R', a1, a2, a3⟩ := line_land hF hA hP hN q2
      exact ⟨C', R', a1, by rw [q1, a2, ob_s], a3⟩
    by_cases e35 : cd 35 = gL R 118 15
    · obtain ⟨q1, q2⟩ := rl_35 h e35
      obtain ⟨C', R', a1, a2, a3⟩ := line_fields hF hA hP hN q2
      exact ⟨C', R', a1, by rw [q1, a2, ob_s], a3⟩
    by_cases e36 : cd 36 = gL R 118 15
    · obtain ⟨q1, q2⟩ := rl_36 h e36
      obtain ⟨C', R', a1, a2, a3⟩ := line_houses hF hA hP hN q2
      exact ⟨C', R', a1, by rw [q1, a2, ob_s], a3⟩
    by_cases e37 : cd 37 = gL R 118 15
    · obtain ⟨q1, q2⟩ := rl_37 h e37
      obtain ⟨C', R', a1, a2, a3⟩ := line_story hF hA hP hN q2
      exact ⟨C', R', a1, by rw [q1, a2, ob_s], a3⟩
    by_cases e38 : cd 38 = gL R 118 15
    · obtain ⟨q1, q2⟩ := rl_38 h e38
      obtain ⟨C', R', a1, a2, a3⟩ := line_teller hF hA hP hN q2
      exact ⟨C', R', a1, by rw [q1, a2, ob_s], a3⟩
    by_cases e39 : cd 39 = gL R 118 15
    · obtain ⟨q1, q2⟩ := rl_39 h e39
      obtain ⟨C', R', a1, a2, a3⟩ := line_try hF hA hP hN q2
      exact ⟨C', R', a1, by rw [q1, a2, ob_s], a3⟩
    exact none (rl_none (Or.inr ⟨e30, e31, e32, e33, e34, e35, e36, e37, e38, e39⟩))
  · exact none (rl_none (Or.inl h))
