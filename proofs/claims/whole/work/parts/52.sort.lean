/-! THE LINES, on: a statue's sort -/
theorem cd_lies : ∀ t, 46 ≤ t → t < 51 → cd t ≠ cd 10 := by
  have h : ∀ t, t < 51 → 46 ≤ t → cd t ≠ cd 10 := by decide +kernel
  exact fun t a b => h t b a
theorem sel_lies {R : MM} : wsel R 10 = if gI R 118 9 = 2 then (if cd 10 = gL R 118 15 then 0 else -1) else -1 := wsel_one (by decide) (by decide)
theorem lies_w {R : MM} (h : wsel R 10 ≠ -1) : wsel R 11 = 5 := by
  rw [sel_lies] at h
  unfold wsel
  rw [W11]
  by_cases q : gI R 118 9 = 2
  · rw [if_pos q] at h ⊢
    by_cases e : cd 10 = gL R 118 15
    · simp only [idx]
      rw [← e, if_neg (cd_lies 46 (by decide) (by decide)), if_neg (cd_lies 47 (by decide) (by decide)), if_neg (cd_lies 48 (by decide) (by decide)), if_neg (cd_lies 49 (by decide) (by decide)), if_neg (cd_lies 50 (by decide) (by decide)), if_pos rfl]
      rfl
    · rw [if_neg e] at h
      exact absurd rfl h
  · rw [if_neg q] at h
    exact absurd rfl h
theorem w_lies {R : MM} (h : wsel R 10 = -1) : wsel R 11 ≠ 5 := by
  rw [sel_lies] at h
  unfold wsel
  rw [W11]
  by_cases q : gI R 118 9 = 2
  · rw [if_pos q] at h ⊢
    by_cases e : cd 10 = gL R 118 15
    · rw [if_pos e] at h
      exact absurd h (by decide)
    · simp only [idx]
      rw [if_neg e]
      repeat' split
      all_goals decide
  · rw [if_neg q]
    decide
/-- a statue's sort, and whether too many lie -/
theorem p_sort {X R : MM} {jr n s sp : Nat} (hF : RF X R jr) (h : S2 X R n s) (hl : gI X sp 8 = gI R jr 3) : ∃ Y C6 v6 T R6, (∀ K : MM → Option MM, (if gI X sp 8 = 8 then oc (gR X 4 0) none (fun b6 => ob (f_X7_among X b6 10) (fun z7 => if z7 = (-1) then K X else ob (f_X2_fail X 4 5) (fun z13 => K z13))) else K X) = K Y) ∧
    f_X2_choice Y 4 11 = some (v6, C6) ∧ (∀ a b c, f_X13_readStatue_J143 R 118 a b c (wsel R 11) = f_X13_readStatue_J179 T 118 a b c (wsel R 11)) ∧ f_X13_goesOn T 118 = some R6 ∧ OP X R n s C6 R6 (v6 = wsel R 11 ∧ wsel R 11 ≠ -1) := by
  have h4 := hF.2.2.2.2.2.1
  have plain : (∀ K : MM → Option MM, (if gI X sp 8 = 8 then oc (gR X 4 0) none (fun b6 => ob (f_X7_among X b6 10) (fun z7 => if z7 = (-1) then K X else ob (f_X2_fail X 4 5) (fun z13 => K z13))) else K X) = K X) → (∀ T, (if wsel R 11 = -1 then f_X13_wrong R 118 1 else some R) = some T → ∀ a b c, f_X13_readStatue_J156 T 118 a b c (wsel R 11) = f_X13_readStatue_J179 T 118 a b c (wsel R 11)) → ∃ Y C6 v6 T R6, (∀ K : MM → Option MM, (if gI X sp 8 = 8 then oc (gR X 4 0) none (fun b6 => ob (f_X7_among X b6 10) (fun z7 => if z7 = (-1) then K X else ob (f_X2_fail X 4 5) (fun z13 => K z13))) else K X) = K Y) ∧
    f_X2_choice Y 4 11 = some (v6, C6) ∧ (∀ a b c, f_X13_readStatue_J143 R 118 a b c (wsel R 11) = f_X13_readStatue_J179 T 118 a b c (wsel R 11)) ∧ f_X13_goesOn T 118 = some R6 ∧ OP X R n s C6 R6 (v6 = wsel R 11 ∧ wsel R 11 ≠ -1) := by
    intro k1 k2
    obtain ⟨C6, v6, T, R6, a1, a2, a3, a4⟩ := p_choice hF h (show 11 < 57 by decide)
    refine ⟨X, C6, v6, T, R6, k1, a1, fun a b c => ?_, a3, a4⟩
    unfold f_X13_readStatue_J143
    rw [ite_ob, a2, ob_s]
    exact k2 T a2 a b c
  rcases h with hA | hD
  · by_cases e8 : gI X sp 8 = 8
    · by_cases e : wsel R 10 = -1
      · refine plain (fun K => ?_) (fun T hT a b c => ?_)
        · rw [if_pos e8, hF.1, oc_x, hA.among (show 10 < 57 by decide), ob_s, if_pos e]
        · unfold f_X13_readStatue_J156
          rw [if_neg (w_lies e)]
      · have w5 := lies_w e
        obtain ⟨C1, R1, a1, a2, a3, a4, a5⟩ := p_fail hF (Or.inl hA) 5 (by decide)
        have hF1 := hF.congr a3.1 a4.1
        obtain ⟨C6, v6, T, R6, b1, b2, b3, b4, b5, s', b6, b7⟩ := p_choice (n := n) (s := s) hF1 (Or.inr a5) (show 11 < 57 by decide)
        have hD : DE C6 R1 n := by
          rw [wsel_de a5, if_pos rfl, de_wrong a5] at b2
          rw [← Option.some.inj b2, de_goes a5] at b3
          rw [Option.some.inj b3]
          exact b6.elim (fun z => (a5.no (b7 z).1).elim) id
        refine ⟨C1, C6, v6, R1, R1, fun K => ?_, b1, fun a b c => ?_, de_goes a5, OP.de (a3.tr b4) a4 hD⟩
        · rw [if_pos e8, hF.1, oc_x, hA.among (show 10 < 57 by decide), ob_s, if_neg e, a1, ob_s]
        · unfold f_X13_readStatue_J143 f_X13_readStatue_J156
          rw [w5, if_neg (by decide), if_pos rfl, h4, oc_x, ← hl, if_pos e8, a2, ob_s]
    · refine plain (fun K => ?_) (fun T hT a b c => ?_)
      · rw [if_neg e8]
      · unfold f_X13_readStatue_J156
        by_cases w5 : wsel R 11 = 5
        · rw [if_neg (by rw [w5]; decide)] at hT
          rw [if_pos w5, ← Option.some.inj hT, h4, oc_x, ← hl, if_neg e8]
        · rw [if_neg w5]
  · refine plain (fun K => ?_) (fun T hT a b c => ?_)
    · by_cases e8 : gI X sp 8 = 8
      · rw [if_pos e8, hF.1, oc_x, among_c X (show 10 < 57 by decide), ob_s, de_fail hD, ob_s, ite_self]
      · rw [if_neg e8]
    · unfold f_X13_readStatue_J156
      rw [if_neg (by rw [wsel_de hD]; decide)]
/-- a road's place in the class, by a number -/
theorem roadAt_t {M : MM} {b m : Nat} (x : Int32) (h : IS M b) (hc : gI M (b + 8) 1 = nI m) (hm : m ≤ 3) : f_X0_roadAt M b x = some none ∨ ∃ k, k < m ∧ x = nI k ∧ f_X0_roadAt M b x = some (some (b + (13 + 2 * k))) := by
  by_cases h1 : x < 0
  · exact Or.inl (roadAt_n h hc (Or.inl h1))
  · by_cases h2 : nI m ≤ x
    · exact Or.inl (roadAt_n h hc (Or.inr h2))
    · obtain ⟨k, hk, rfl⟩ := nI_of2 (M := nI m) (n := m) (x := x) (nI_toInt (by omega)) h1 (Int32.le_of_lt (i32_lt h2))
      have hk2 : k < m := by
        rcases Nat.lt_or_ge k m with q | q
        · exact q
        · exact absurd (nI_le q (by omega)) h2
      exact Or.inr ⟨k, hk2, rfl, roadAt_s h hc hm hk2⟩
theorem OP.d {C R C' R' : MM} {n s : Nat} {P : Prop} (h : OP C R n s C' R' P) (hD : DE C R n) : DE C' R' n := by
  obtain ⟨-, -, s', c1, c2⟩ := h
  exact c1.elim (fun z => (hD.no (c2 z).1).elim) id
theorem d_choice {C R : MM} {jr n t : Nat} (hF : RF C R jr) (hD : DE C R n) (ht : t < 57) : ∃ C' v, f_X2_choice C 4 t = some (v, C') ∧ PFc C C' ∧ DE C' R n := by
  obtain ⟨C1, v1, T1, R1, a1, a2, a3, o1⟩ := p_choice (s := 0) hF (Or.inr hD) ht
  rw [wsel_de hD, if_pos rfl, de_wrong hD] at a2
  rw [← Option.some.inj a2, de_goes hD] at a3
  have d := o1.d hD
  rw [← Option.some.inj a3] at d
  exact ⟨C1, v1, a1, o1.1, d⟩
theorem d_whole {C R : MM} {jr n : Nat} (hF : RF C R jr) (hD : DE C R n) (l u : Int32) : ∃ C' v, f_X2_whole C 4 l u = some (v, C') ∧ PFc C C' ∧ DE C' R n := by
  obtain ⟨C1, v1, v1', R1, a1, a2, o1⟩ := p_whole (s := 0) hF (Or.inr hD) (l := l) (u := u) (l' := l) (u' := u) (fun _ => ⟨rfl, rfl⟩)
  rw [rwhole_o hD.1] at a2
  have e : R = R1 := congrArg Prod.snd (Option.some.inj a2)
  have d := o1.d hD
  rw [← e] at d
  exact ⟨C1, v1, a1, o1.1, d⟩
theorem d_part {C R : MM} {jr n t : Nat} (hF : RF C R jr) (hD : DE C R n) (ht : t < 57) (h1 : t ∉ [0, 1, 6, 11, 12, 19, 29]) (l u : Int32) : ∃ C' v, f_X2_measure C 4 t l u = some (v, C') ∧ PFc C C' ∧ DE C' R n := by
  obtain ⟨C1, v1, v1', R1, a1, a2, o1⟩ := p_part (s := 0) hF (Or.inr hD) ht h1 (l := l) (u := u) (l' := l) (u' := u) (fun _ => ⟨rfl, rfl⟩)
  rw [rpart_o hD.1 ht] at a2
  have e : R = R1 := congrArg Prod.snd (Option.some.inj a2)
  have d := o1.d hD
  rw [← e] at d
  exact ⟨C1, v1, a1, o1.1, d⟩
theorem d_slope {C R : MM} {jr n : Nat} (hF : RF C R jr) (hD : DE C R n) : ∃ C' v, f_X2_readSlope C 4 = some (v, C') ∧ PFc C C' ∧ DE C' R n := by
  obtain ⟨C1, v1, v1', R1, a1, a2, o1⟩ := p_slope (s := 0) hF (Or.inr hD)
  rw [rslope_o hD.1] at a2
  have e : R = R1 := congrArg Prod.snd (Option.some.inj a2)
  have d := o1.d hD
  rw [← e] at d
  exact ⟨C1, v1, a1, o1.1, d⟩
theorem d_told {C R : MM} {jr n c : Nat} (hF : RF C R jr) (hD : DE C R n) (hC : NC C) (hR : NR R jr) (hc : c < 2) : ∃ C' v, f_X2_toldName C 4 (nI c) = some (v, C') ∧ PFc C C' ∧ DE C' R n := by
  obtain ⟨C1, v1, v1', R1, a1, a2, a3, a4, a5⟩ := p_told (s := 0) (nn := fun _ => 0) (t := 0) hF (Or.inr hD) hC hR (fun z => (hD.no z).elim) hc
  rw [known_o hD.1 hF.2.2.2.2.2.1 hF.2.2.2.2.2.2.2.1 hR] at a2
  have e : R = R1 := congrArg Prod.snd (Option.some.inj a2)
  rcases a5 with ⟨z, -⟩ | ⟨d, -⟩
  · exact (hD.no z).elim
  · rw [← e] at d
    exact ⟨C1, v1, a1, a3, d⟩
theorem slopeAt_t {M : MM} {a r : Nat} (x : Int32) (h : gR M a 2 = some r) : ∃ v, f_X3_slopeAt M a x = some v := by
  unfold f_X3_slopeAt
  rw [h, oc_x]
  obtain ⟨v, e⟩ := entry_t M r 6 x (by decide)
  exact ⟨v, by rw [e, ob_s]⟩
/-- where a statue lies, stopped: the class goes on -/
theorem lying_de {C R : MM} {jr n sp i m : Nat} (hF : RF C R jr) (hD : DE C R n) (hI : IS C sp) (hs : 14 ≤ sp) (hc : gI C (sp + 8) 1 = nI m) (hm : m ≤ 3) (hi : i < 10) (hC : NC C) (hR : NR R jr) : ∃ C', f_X2_readLying C 4 sp (sp + (19 + i)) = some C' ∧ KC C C' sp ∧ DE C' R n := by
  obtain ⟨C1, v1, a1, p1, d1⟩ := d_choice hF hD (show 12 < 57 by decide)
  have hF1 : RF (pI C1 (sp + (19 + i)) 4 v1) R jr := (hF.congr p1.1 rfl).congr rfl rfl
  obtain ⟨C2, v2, a2, p2, d2⟩ := d_choice hF1 (d1.put (by omega) 4 v1) (show 13 < 57 by decide)
  have hF2 : RF C2 R jr := hF1.congr p2.1 rfl
  obtain ⟨C3, v3, a3, p3, d3⟩ := d_told (c := 1) hF2 d2 (((hC.go p1).put (by omega) _ _).go p2) hR (by decide)
  have a3' : f_X2_toldName C2 4 1 = some (v3, C3) := a3
  have hF3 : RF (pI C3 (sp + (19 + i)) 5 v3) R jr := (hF2.congr p3.1 rfl).congr rfl rfl
  obtain ⟨C4, a4, p4, d4⟩ := de_adv hF3 (d3.put (by omega) 5 v3)
  have hF4 : RF C4 R jr := hF3.congr p4.1 rfl
  obtain ⟨C5, v5, a5, p5, d5⟩ := d_choice hF4 d4 (show 14 < 57 by decide)
  have hF5 : RF C5 R jr := hF4.congr p5.1 rfl
  have kc : KC C C5 sp := (((((p1.q.k sp).pI (a := sp + (19 + i)) (by omega) 4 v1).tr (p2.q.k sp)).tr (p3.q.k sp)).pI (a := sp + (19 + i)) (by omega) 5 v3).tr (p4.q.k sp) |>.tr (p5.q.k sp)
  have e8 : E8 C5 (pI (pI C (sp + (19 + i)) 4 v1) (sp + (19 + i)) 5 v3) := p5.e.tr (p4.e.tr ((p3.e.tr (p2.e.tr (p1.e.pI (sp + (19 + i)) 4 v1))).pI (sp + (19 + i)) 5 v3))
  have hI5 : IS C5 sp := hI.congr kc.1
  unfold f_X2_readLying
  rw [a1, ob_s, a2, ob_s, a3', ob_s, show gR (pI C3 (sp + (19 + i)) 5 v3) 4 0 = some 2 from hF3.1, oc_x, a4, ob_s, a5, ob_s]
  have hc5 : gI C5 (sp + 8) 1 = nI m := (e8 _ _ (by omega)).trans (by rw [gI_pIa (by omega), gI_pIa (by omega)]; exact hc)
  rcases roadAt_t (gI C5 (sp + (19 + i)) 5) hI5 hc5 hm with e | ⟨k, hk, -, e⟩
  · exact ⟨C5, by rw [e, ob_s]; rfl, kc, d5⟩
  · obtain ⟨C6, v6, a6, p6, d6⟩ := d_whole hF5 d5 0 (gI C5 (sp + (13 + 2 * k)) 1 - 1)
    have hg : gR (pI C6 (sp + (19 + i)) 6 v6) (sp + (13 + 2 * k)) 2 = some (sp + (14 + 2 * k)) := (hI5.congr p6.1).sl k (by omega)
    obtain ⟨v7, a7⟩ := slopeAt_t (gI (pI C6 (sp + (19 + i)) 6 v6) (sp + (19 + i)) 6) hg
    refine ⟨pI (pI C6 (sp + (19 + i)) 6 v6) (sp + (19 + i)) 7 v7, ?_, (((kc.tr (p6.q.k sp)).pI (a := sp + (19 + i)) (by omega) 6 v6).pI (a := sp + (19 + i)) (by omega) 7 v7), (d6.put (by omega) _ _).put (by omega) _ _⟩
    rw [e, ob_s, oc_x, a6, ob_s, a7, ob_s]

