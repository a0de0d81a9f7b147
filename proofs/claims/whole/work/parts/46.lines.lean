/-! THE LINES: stopped -/
def capN (k : Nat) : Nat := [4, 3, 10, 5, 5, 3, 5, 1, 1, 1].getD k 0
theorem room : ∀ k, k < 10 → k < stl 0 ∧ stv 0 k = nI (capN k) ∧ capN k ≤ 10 ∧ stl 0 = 10 := by decide +kernel
theorem add_s {C : MM} {sp k m : Nat} (hI : IS C sp) (h : gI C (sp + 8) k = nI m) (hk : k < 10) (hc : m < capN k) : f_X0_add C sp (nI k) = some (nI m, pI C (sp + 8) k (nI (m + 1))) := by
  obtain ⟨r1, r2, r3, r4⟩ := room k hk
  unfold f_X0_add f_X0_count
  rw [hI.w7, oc_x, entry_s hk (by decide), ob_s, ob_s, if_neg (nneg (by omega)), oc_x, if_neg (show ¬ (10 : Int32) ≤ nI k from nI_ge (b := 10) hk (by decide)), entryS_s r1 (by rw [r4]; decide), ob_s, h, r2, if_pos (nI_lt hc (by omega)), oc_x, chk_n hk (by decide), ix_n (by omega), nI_1 m]
theorem add_n {C : MM} {sp k m : Nat} (hI : IS C sp) (h : gI C (sp + 8) k = nI m) (hm : m < 100) (hk : k < 10) (hc : capN k ≤ m) : f_X0_add C sp (nI k) = some (-1, C) := by
  obtain ⟨r1, r2, r3, r4⟩ := room k hk
  unfold f_X0_add f_X0_count
  rw [hI.w7, oc_x, entry_s hk (by decide), ob_s, ob_s, if_neg (nneg (by omega)), oc_x, if_neg (show ¬ (10 : Int32) ≤ nI k from nI_ge (b := 10) hk (by decide)), entryS_s r1 (by rw [r4]; decide), ob_s, h, r2, if_neg (nI_nlt hc (by omega))]
/-- what a dead reader's line writes: at most fields of the Island in progress -/
def ZF (R R' : MM) (jr : Nat) : Prop := R'.2.2 = R.2.2 ∧ (∀ a k, a ≠ jr → gI R' a k = gI R a k) ∧ ∀ a k, gL R' a k = gL R a k
theorem ZF.rf (R : MM) (jr : Nat) : ZF R R jr := ⟨rfl, fun _ _ _ => rfl, fun _ _ => rfl⟩
theorem ZF.pI {R R' : MM} {jr : Nat} (h : ZF R R' jr) (k : Nat) (v : Int32) : ZF R (pI R' jr k v) jr := ⟨h.1, fun a j q => by rw [gI_pIa q]; exact h.2.1 a j q, h.2.2⟩
theorem way_o {R : MM} {jr : Nat} (h : gI R 118 9 = 5) (h4 : gR R 118 4 = some jr) (hJ : JS R jr) (hN : NR R jr) : f_X13_readWay R 118 = some R := by
  unfold f_X13_readWay
  rw [h4, oc_x, begins_o h, ob_s, h4, oc_x, fresh_o h h4 hJ hN, ob_s]
  rw [word_o h (show 42 < 57 by decide), ob_s, if_pos rfl]
  rw [word_o h (show 43 < 57 by decide), ob_s, if_pos rfl]
  rw [word_o h (show 44 < 57 by decide), ob_s, if_pos rfl]
  rw [word_o h (show 45 < 57 by decide), ob_s, if_pos rfl]
  unfold f_X13_readWay_J77 f_X13_readWay_J88
  rw [if_pos rfl, wrong_o h, ob_s, goes_o h, ob_s, rpart_o h (by decide), ob_s, rpart_o h (by decide), ob_s, if_pos h]
theorem road_o {R : MM} {jr : Nat} (h : gI R 118 9 = 5) (h4 : gR R 118 4 = some jr) (hJ : JS R jr) (hN : NR R jr) : f_X13_readRoad R 118 = some R := by
  unfold f_X13_readRoad
  rw [h4, oc_x, begins_o h, ob_s, h4, oc_x, fresh_o h h4 hJ hN, ob_s]
  rw [rpart_o h (by decide), ob_s, needs_o h (by decide), ob_s, if_pos h, show FU = (FU - 1) + 1 by decide, f_X13_readRoad_L57, if_pos rfl, if_pos h]
theorem statue_o {R : MM} {jr : Nat} (h : gI R 118 9 = 5) (h4 : gR R 118 4 = some jr) (hJ : JS R jr) (hN : NR R jr) : f_X13_readStatue R 118 = some R := by
  unfold f_X13_readStatue
  rw [h4, oc_x, begins_o h, ob_s, h4, oc_x, fresh_o h h4 hJ hN, ob_s]
  rw [rpart_o h (by decide), ob_s, rpart_o h (by decide), ob_s, rpart_o h (by decide), ob_s]
  rw [word_o h (show 46 < 57 by decide), ob_s, if_pos rfl]
  rw [word_o h (show 47 < 57 by decide), ob_s, if_pos rfl]
  rw [word_o h (show 48 < 57 by decide), ob_s, if_pos rfl]
  rw [word_o h (show 49 < 57 by decide), ob_s, if_pos rfl]
  rw [word_o h (show 50 < 57 by decide), ob_s, if_pos rfl]
  rw [word_o h (show 10 < 57 by decide), ob_s, if_pos rfl]
  unfold f_X13_readStatue_J143 f_X13_readStatue_J156 f_X13_readStatue_J179 f_X13_readStatue_J309
  rw [if_pos rfl, wrong_o h, ob_s, if_neg (by decide), goes_o h, ob_s, if_neg (by decide), if_pos h]
theorem trial_o {R : MM} {jr : Nat} (h : gI R 118 9 = 5) (h4 : gR R 118 4 = some jr) (hJ : JS R jr) (hN : NR R jr) : f_X13_readTrial R 118 = some R := by
  unfold f_X13_readTrial
  rw [h4, oc_x, begins_o h, ob_s, h4, oc_x, fresh_o h h4 hJ hN, ob_s]
  rw [needs_o h (by decide), ob_s, rknown_o h h4 hJ hN, ob_s, rpart_o h (by decide), ob_s, rpart_o h (by decide), ob_s, rpart_o h (by decide), ob_s, rpart_o h (by decide), ob_s, if_pos h]
theorem story_o {R : MM} {jr : Nat} (h : gI R 118 9 = 5) (h4 : gR R 118 4 = some jr) (hJ : JS R jr) (hN : NR R jr) : f_X13_readStory R 118 = some R := by
  unfold f_X13_readStory
  rw [h4, oc_x, begins_o h, ob_s, h4, oc_x, fresh_o h h4 hJ hN, ob_s]
  rw [rpart_o h (by decide), ob_s]
  rw [word_o h (show 54 < 57 by decide), ob_s, if_pos rfl]
  rw [word_o h (show 55 < 57 by decide), ob_s, if_pos rfl]
  rw [word_o h (show 56 < 57 by decide), ob_s, if_pos rfl]
  unfold f_X13_readStory_J77 f_X13_readStory_J88 f_X13_readStory_J105 f_X13_readStory_J128
  rw [if_pos rfl, wrong_o h, ob_s, goes_o h, ob_s, if_neg (by decide), rwhole_o h, ob_s, if_neg (by decide), if_pos h]
theorem teller_o {R : MM} {jr : Nat} (h : gI R 118 9 = 5) (h4 : gR R 118 4 = some jr) (hJ : JS R jr) (hN : NR R jr) : f_X13_readTeller R 118 = some R := by
  unfold f_X13_readTeller
  rw [h4, oc_x, begins_o h, ob_s, h4, oc_x, fresh_o h h4 hJ hN, ob_s]
  rw [rpart_o h (by decide), ob_s, needs_o h (by decide), ob_s, if_pos h, show FU = (FU - 1) + 1 by decide, f_X13_readTeller_L59, if_pos rfl, eatsw_o h (by decide), ob_s, if_pos h]
theorem try_o {R : MM} {jr : Nat} (h : gI R 118 9 = 5) (h4 : gR R 118 4 = some jr) (hJ : JS R jr) (hN : NR R jr) : f_X13_readTry R 118 = some R := by
  unfold f_X13_readTry
  rw [h4, oc_x, begins_o h, ob_s, h4, oc_x, fresh_o h h4 hJ hN, ob_s]
  rw [rpart_o h (by decide), ob_s, rpart_o h (by decide), ob_s, rpart_o h (by decide), ob_s, rslope_o h, ob_s, if_pos h]
theorem land_o {R : MM} {jr : Nat} (h : gI R 118 9 = 5) (h4 : gR R 118 4 = some jr) (hJ : JS R jr) (hN : NR R jr) (hj : 123 < jr) : ∃ R', f_X13_readLand R 118 = some R' ∧ ZF R R' jr := by
  have p5 : ∀ k v, gI (pI R jr k v) 118 9 = 5 := fun k v => by rw [gI_pIa (by omega)]; exact h
  have p52 : ∀ k v k2 v2, gI (pI (pI R jr k v) jr k2 v2) 118 9 = 5 := fun k v k2 v2 => by rw [gI_pIa (by omega), gI_pIa (by omega)]; exact h
  have q4 : ∀ k v, gR (pI R jr k v) 118 4 = some jr := fun k v => h4
  unfold f_X13_readLand
  rw [h4]
  simp only [oc_x]
  rw [wrong_o h]
  simp only [ob_s]
  rw [goes_o h]
  simp only [ob_s]
  simp only [rpart_o h (show 24 < 57 by decide), rpart_o h (show 25 < 57 by decide), ob_s, h4, oc_x, q4, rpart_o (p5 _ _) (show 16 < 57 by decide), if_pos (p52 _ _ _ _), ite_self]
  exact ⟨_, rfl, ((ZF.rf R jr).pI _ _).pI _ _⟩
theorem fields_o {R : MM} {jr : Nat} (h : gI R 118 9 = 5) (h4 : gR R 118 4 = some jr) (hJ : JS R jr) (hN : NR R jr) (hj : 123 < jr) : ∃ R', f_X13_readFields R 118 = some R' ∧ ZF R R' jr := by
  have p5 : ∀ k v, gI (pI R jr k v) 118 9 = 5 := fun k v => by rw [gI_pIa (by omega)]; exact h
  have p52 : ∀ k v k2 v2, gI (pI (pI R jr k v) jr k2 v2) 118 9 = 5 := fun k v k2 v2 => by rw [gI_pIa (by omega), gI_pIa (by omega)]; exact h
  have q4 : ∀ k v, gR (pI R jr k v) 118 4 = some jr := fun k v => h4
  unfold f_X13_readFields
  rw [h4]
  simp only [oc_x]
  rw [wrong_o h]
  simp only [ob_s]
  rw [goes_o h]
  simp only [ob_s]
  simp only [rwhole_o h, rpart_o h (show 26 < 57 by decide), ob_s, h4, oc_x, q4, if_pos (p5 _ _), ite_self]
  exact ⟨_, rfl, (ZF.rf R jr).pI _ _⟩
theorem houses_o {R : MM} {jr : Nat} (h : gI R 118 9 = 5) (h4 : gR R 118 4 = some jr) (hJ : JS R jr) (hN : NR R jr) (hj : 123 < jr) : ∃ R', f_X13_readHouses R 118 = some R' ∧ ZF R R' jr := by
  have p5 : ∀ k v, gI (pI R jr k v) 118 9 = 5 := fun k v => by rw [gI_pIa (by omega)]; exact h
  have p52 : ∀ k v k2 v2, gI (pI (pI R jr k v) jr k2 v2) 118 9 = 5 := fun k v k2 v2 => by rw [gI_pIa (by omega), gI_pIa (by omega)]; exact h
  have q4 : ∀ k v, gR (pI R jr k v) 118 4 = some jr := fun k v => h4
  unfold f_X13_readHouses
  rw [h4]
  simp only [oc_x]
  rw [wrong_o h]
  simp only [ob_s]
  rw [goes_o h]
  simp only [ob_s]
  simp only [rwhole_o h, rpart_o h (show 27 < 57 by decide), ob_s, h4, oc_x, q4, rpart_o (p5 _ _) (show 28 < 57 by decide), if_pos (p52 _ _ _ _), ite_self]
  exact ⟨_, rfl, ((ZF.rf R jr).pI _ _).pI _ _⟩
theorem way_many {R R1 : MM} {jr : Nat} (h4 : gR R 118 4 = some jr) (hf : gI R jr 0 = 4) (h2 : f_X13_wrong R 118 5 = some R1) (h3 : gI R1 118 9 = 5) (h5 : gR R1 118 4 = some jr) (hJ : JS R1 jr) (hN : NR R1 jr) : f_X13_readWay R 118 = some R1 := by
  rw [← way_o h3 h5 hJ hN]
  unfold f_X13_readWay
  rw [h4, h5, oc_x, oc_x, begins_o h3, hf]
  unfold f_X13_begins
  rw [if_pos rfl, h2, ob_s, goes_o h3, ob_s]
theorem road_many {R R1 : MM} {jr : Nat} (h4 : gR R 118 4 = some jr) (hf : gI R jr 1 = 3) (h2 : f_X13_wrong R 118 5 = some R1) (h3 : gI R1 118 9 = 5) (h5 : gR R1 118 4 = some jr) (hJ : JS R1 jr) (hN : NR R1 jr) : f_X13_readRoad R 118 = some R1 := by
  rw [← road_o h3 h5 hJ hN]
  unfold f_X13_readRoad
  rw [h4, h5, oc_x, oc_x, begins_o h3, hf]
  unfold f_X13_begins
  rw [if_pos rfl, h2, ob_s, goes_o h3, ob_s]
theorem statue_many {R R1 : MM} {jr : Nat} (h4 : gR R 118 4 = some jr) (hf : gI R jr 2 = 10) (h2 : f_X13_wrong R 118 5 = some R1) (h3 : gI R1 118 9 = 5) (h5 : gR R1 118 4 = some jr) (hJ : JS R1 jr) (hN : NR R1 jr) : f_X13_readStatue R 118 = some R1 := by
  rw [← statue_o h3 h5 hJ hN]
  unfold f_X13_readStatue
  rw [h4, h5, oc_x, oc_x, begins_o h3, hf]
  unfold f_X13_begins
  rw [if_pos rfl, h2, ob_s, goes_o h3, ob_s]
theorem trial_many {R R1 : MM} {jr : Nat} (h4 : gR R 118 4 = some jr) (hf : gI R jr 4 = 5) (h2 : f_X13_wrong R 118 5 = some R1) (h3 : gI R1 118 9 = 5) (h5 : gR R1 118 4 = some jr) (hJ : JS R1 jr) (hN : NR R1 jr) : f_X13_readTrial R 118 = some R1 := by
  rw [← trial_o h3 h5 hJ hN]
  unfold f_X13_readTrial
  rw [h4, h5, oc_x, oc_x, begins_o h3, hf]
  unfold f_X13_begins
  rw [if_pos rfl, h2, ob_s, goes_o h3, ob_s]
theorem story_many {R R1 : MM} {jr : Nat} (h4 : gR R 118 4 = some jr) (hf : gI R jr 5 = 5) (h2 : f_X13_wrong R 118 5 = some R1) (h3 : gI R1 118 9 = 5) (h5 : gR R1 118 4 = some jr) (hJ : JS R1 jr) (hN : NR R1 jr) : f_X13_readStory R 118 = some R1 := by
  rw [← story_o h3 h5 hJ hN]
  unfold f_X13_readStory
  rw [h4, h5, oc_x, oc_x, begins_o h3, hf]
  unfold f_X13_begins
  rw [if_pos rfl, h2, ob_s, goes_o h3, ob_s]
theorem teller_many {R R1 : MM} {jr : Nat} (h4 : gR R 118 4 = some jr) (hf : gI R jr 6 = 3) (h2 : f_X13_wrong R 118 5 = some R1) (h3 : gI R1 118 9 = 5) (h5 : gR R1 118 4 = some jr) (hJ : JS R1 jr) (hN : NR R1 jr) : f_X13_readTeller R 118 = some R1 := by
  rw [← teller_o h3 h5 hJ hN]
  unfold f_X13_readTeller
  rw [h4, h5, oc_x, oc_x, begins_o h3, hf]
  unfold f_X13_begins
  rw [if_pos rfl, h2, ob_s, goes_o h3, ob_s]
theorem try_many {R R1 : MM} {jr : Nat} (h4 : gR R 118 4 = some jr) (hf : gI R jr 7 = 5) (h2 : f_X13_wrong R 118 5 = some R1) (h3 : gI R1 118 9 = 5) (h5 : gR R1 118 4 = some jr) (hJ : JS R1 jr) (hN : NR R1 jr) : f_X13_readTry R 118 = some R1 := by
  rw [← try_o h3 h5 hJ hN]
  unfold f_X13_readTry
  rw [h4, h5, oc_x, oc_x, begins_o h3, hf]
  unfold f_X13_begins
  rw [if_pos rfl, h2, ob_s, goes_o h3, ob_s]
theorem land_again {R R1 : MM} {jr : Nat} (h4 : gR R 118 4 = some jr) (hf : ¬ gI R jr 27 = -1) (h2 : f_X13_wrong R 118 3 = some R1) (h3 : gI R1 118 9 = 5) (h5 : gR R1 118 4 = some jr) (hJ : JS R1 jr) (hN : NR R1 jr) (hj : 123 < jr) (hf1 : gI R1 jr 27 = gI R jr 27) : ∃ R', f_X13_readLand R 118 = some R' ∧ ZF R1 R' jr := by
  have e : f_X13_readLand R 118 = f_X13_readLand R1 118 := by
    unfold f_X13_readLand
    rw [h4, h5, oc_x, oc_x, if_neg hf, if_neg (by rw [hf1]; exact hf), h2, wrong_o h3]
  rw [e]
  exact land_o h3 h5 hJ hN hj
theorem fields_again {R R1 : MM} {jr : Nat} (h4 : gR R 118 4 = some jr) (hf : ¬ gI R jr 30 = -1) (h2 : f_X13_wrong R 118 3 = some R1) (h3 : gI R1 118 9 = 5) (h5 : gR R1 118 4 = some jr) (hJ : JS R1 jr) (hN : NR R1 jr) (hj : 123 < jr) (hf1 : gI R1 jr 30 = gI R jr 30) : ∃ R', f_X13_readFields R 118 = some R' ∧ ZF R1 R' jr := by
  have e : f_X13_readFields R 118 = f_X13_readFields R1 118 := by
    unfold f_X13_readFields
    rw [h4, h5, oc_x, oc_x, if_neg hf, if_neg (by rw [hf1]; exact hf), h2, wrong_o h3]
  rw [e]
  exact fields_o h3 h5 hJ hN hj
theorem houses_again {R R1 : MM} {jr : Nat} (h4 : gR R 118 4 = some jr) (hf : ¬ gI R jr 32 = -1) (h2 : f_X13_wrong R 118 3 = some R1) (h3 : gI R1 118 9 = 5) (h5 : gR R1 118 4 = some jr) (hJ : JS R1 jr) (hN : NR R1 jr) (hj : 123 < jr) (hf1 : gI R1 jr 32 = gI R jr 32) : ∃ R', f_X13_readHouses R 118 = some R' ∧ ZF R1 R' jr := by
  have e : f_X13_readHouses R 118 = f_X13_readHouses R1 118 := by
    unfold f_X13_readHouses
    rw [h4, h5, oc_x, oc_x, if_neg hf, if_neg (by rw [hf1]; exact hf), h2, wrong_o h3]
  rw [e]
  exact houses_o h3 h5 hJ hN hj
theorem begins_s {R : MM} {m c : Nat} (h : m < c) (hc : c < 100) : f_X13_begins R 118 (nI m) (nI c) = ob (f_X13_goesOn R 118) (fun z => some z) := by
  unfold f_X13_begins
  rw [if_neg (fun z => absurd ((nI_eq (by omega) (by omega)).mp z) (by omega))]
def fldN (k : Nat) : Nat := [0, 1, 2, 4, 5, 6, 7].getD k 0
/-- a line's beginning: its sort, its name -/
theorem front {C R : MM} {jr sp n s t k : Nat} {nn : Nat → Nat} (hF : RF C R jr) (hA : AL C R n s) (hs : 14 ≤ sp) (hN : NM C R jr nn t) (ht : t < 35) (hk : k < 7) (hw : wsel R 0 ≠ -1) :
    ∃ Ca Ra C2 R2, f_X7_advance (pI C (sp + 8) k (nI (nn k + 1))) 2 = some Ca ∧ f_X13_goesOn R 118 = some Ra ∧ gR Ca 4 0 = some 2 ∧ gR Ra 118 4 = some jr ∧ (∀ j, gI Ra jr j = gI R jr j) ∧ f_X2_tellName Ca 4 (nI k) (nI (nn k)) = some C2 ∧ f_X13_readFresh Ra 118 (nI (if k < 2 then k else 2)) (nI (nn k)) = some R2 ∧
      RF C2 R2 jr ∧ QFc (pI C (sp + 8) k (nI (nn k + 1))) C2 ∧ QFr R R2 jr ∧ NC C2 ∧ NR R2 jr ∧ ∃ s', S2 C2 R2 n s' ∧ (AL C2 R2 n s' → s < s' ∧ NM C2 R2 jr (up nn k) (t + 1)) := by
  have hj : 123 < jr := hF.2.2.2.2.2.2.2.2
  have hA1 : AL (pI C (sp + 8) k (nI (nn k + 1))) R n s := hA.put (by omega) _ _
  have hF1 : RF (pI C (sp + 8) k (nI (nn k + 1))) R jr := hF.congr rfl rfl
  have e4 : gI (pI C (sp + 8) k (nI (nn k + 1))) 2 4 = 1 := by rw [gI_pIa (by omega)]; exact hA.word.mpr (wsel_word hw)
  have hN1 : NM (pI C (sp + 8) k (nI (nn k + 1))) R jr (up nn k) t := (hN.congr (gI_pIa (by omega)) (fun j => rfl) (fun j => gI_pIa (by omega)) (fun j => gI_pIa (by omega)) rfl (fun _ => rfl) (fun _ => rfl) (fun _ => rfl)).mono (fun c _ => by unfold up; split <;> (try subst_vars) <;> omega)
  obtain ⟨Ca, Ra, a1, a2, a3, a4, s1, a5, a6⟩ := op_adv hF1 (Or.inl hA1) (P := True) (fun _ => ⟨Or.inl e4, trivial⟩)
  have hF2 : RF Ca Ra jr := hF1.congr a3.1 a4.1
  obtain ⟨C2, R2, b1, b2, b3, b4, b5, b6, s2, b7, b8⟩ := p_fresh (m := nn k) hF2 a5 (hN1.go hj a3 a4) ht hk (fun _ => by unfold up; rw [if_pos rfl]; omega)
  refine ⟨Ca, Ra, C2, R2, a1, a2, hF2.1, hF2.2.2.2.2.2.1, fun j => a4.2.1 jr j (by omega), b1, b2, hF2.congr b3.1 b4.1, a3.q.tr b3, (a4.q jr).tr b4, b5, b6, s2, b7, fun z => ?_⟩
  obtain ⟨c1, c2, c3⟩ := b8 z
  exact ⟨by have := (a6 c1).2.1; omega, c3⟩

