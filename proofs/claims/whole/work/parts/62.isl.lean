/-! A TEXT, line by line, and its end -/
theorem ob_id {α : Type} (x : Option α) : ob x (fun z => some z) = x := by cases x <;> rfl
theorem lacks_c {C : MM} {sp : Nat} (h : IS C sp) : f_X0_lacksAny C sp = some (if gI C (sp + 8) 0 = 0 then 1 else if gI C (sp + 8) 1 = 0 then 1 else if gI C (sp + 8) 2 = 0 then 1 else 0) := by
  unfold f_X0_lacksAny
  rw [cnt0 h, cnt1 h, cnt2 h]
  simp only [ob_s]
  by_cases h0 : gI C (sp + 8) 0 = 0
  · rw [if_pos h0, if_pos h0]
  · rw [if_neg h0, if_neg h0]
    by_cases h1 : gI C (sp + 8) 1 = 0
    · rw [if_pos h1, if_pos h1]
    · rw [if_neg h1, if_neg h1]
      by_cases h2 : gI C (sp + 8) 2 = 0
      · rw [if_pos h2, if_pos h2]
      · rw [if_neg h2, if_neg h2]
theorem cl_end {C : MM} {sp f : Nat} {x y : Int32} (h0 : gR C 4 0 = some 2) : f_X2_readIsland_L32 (f + 1) C 4 x sp 0 y = (if gI C 2 4 = 4 then ob (f_X0_lacksAny C sp) (fun z => if z = 0 then (if gI C 4 5 = 0 then some (1, C) else some (0, C)) else ob (f_X2_fail C 4 6) (fun z => if gI z 4 5 = 0 then some (1, z) else some (0, z))) else ob (f_X2_fail C 4 1) (fun z => if gI z 4 5 = 0 then some (1, z) else some (0, z))) := by
  rw [f_X2_readIsland_L32, h0, oc_x, if_pos rfl, ite_self]
theorem rl_end1 {R : MM} {jr f : Nat} (h4 : gR R 118 4 = some jr) (h9 : gI R 118 9 = 1) : f_X13_readIsland_L2 (f + 1) R 118 0 = (if gI R jr 0 = 0 then f_X13_wrong R 118 6 else if gI R jr 1 = 0 then f_X13_wrong R 118 6 else if gI R jr 2 = 0 then f_X13_wrong R 118 6 else some R) := by
  rw [f_X13_readIsland_L2, if_pos rfl, if_pos h9, h4]
  simp only [oc_x, ob_id]
theorem rl_end2 {R R1 : MM} {jr f : Nat} (h9 : ¬ gI R 118 9 = 1) (hw : f_X13_wrong R 118 1 = some R1) (h5 : gI R1 118 9 = 5) (h4 : gR R1 118 4 = some jr) : f_X13_readIsland_L2 (f + 1) R 118 0 = some R1 := by
  rw [f_X13_readIsland_L2, if_pos rfl, if_neg h9, hw, ob_s, h4]
  simp only [oc_x, wrong_o h5, ob_s, ite_self]
theorem isl_end_de {C R : MM} {jr sp n f1 f2 : Nat} {x y : Int32} (hF : RF C R jr) (hD : DE C R n) (hI : IS C sp) : f_X2_readIsland_L32 (f1 + 1) C 4 x sp 0 y = some (0, C) ∧ f_X13_readIsland_L2 (f2 + 1) R 118 0 = some R := by
  constructor
  · rw [cl_end hF.1, lacks_c hI, ob_s, de_fail hD, de_fail hD, ob_s, if_neg hD.2.2.1, ite_self, ite_self]
  · exact rl_end2 (by rw [hD.1]; decide) (wrong_o hD.1 1) hD.1 hF.2.2.2.2.2.1
theorem isl_end_al {C R : MM} {jr sp n s f1 f2 : Nat} {nn : Nat → Nat} {x y : Int32} (hF : RF C R jr) (hA : AL C R n s) (hP : PI C R sp jr nn) : ∃ C' R' v, f_X2_readIsland_L32 (f1 + 1) C 4 x sp 0 y = some (v, C') ∧ f_X13_readIsland_L2 (f2 + 1) R 118 0 = some R' ∧ PFc C C' ∧ PFr R R' ∧
    ((v = 1 ∧ C' = C ∧ R' = R ∧ 1 ≤ nn 0 ∧ 1 ≤ nn 1 ∧ 1 ≤ nn 2) ∨ (v = 0 ∧ DE C' R' n)) := by
  obtain ⟨b0, b1, b2, -⟩ := hP.nb
  have c0 : gI C (sp + 8) 0 = nI (nn 0) := hP.cn.1
  have c1 : gI C (sp + 8) 1 = nI (nn 1) := hP.cn.2.1
  have c2 : gI C (sp + 8) 2 = nI (nn 2) := hP.cn.2.2.1
  have d0 : gI R jr 0 = nI (nn 0) := hP.dn.1
  have d1 : gI R jr 1 = nI (nn 1) := hP.dn.2.1
  have d2 : gI R jr 2 = nI (nn 2) := hP.dn.2.2.1
  have hend : gI C 2 4 = 4 ↔ gI R 118 9 = 1 := by
    rcases hA.lx with ⟨a, b⟩ | ⟨a, b, c⟩ | ⟨a, b, -⟩ | ⟨a, b, -⟩ | ⟨a, b⟩ <;> rw [a, b] <;> decide
  rw [cl_end hF.1]
  by_cases e : gI C 2 4 = 4
  · rw [if_pos e, lacks_c hP.1, ob_s, rl_end1 hF.2.2.2.2.2.1 (hend.mp e), c0, c1, c2, d0, d1, d2]
    obtain ⟨C1, R1, a1, a2, a3, a4, a5⟩ := p_fail hF (Or.inl hA) 6 (by decide)
    have lack : ∃ C' R' v, ob (f_X2_fail C 4 6) (fun z => if gI z 4 5 = 0 then some ((1 : Int32), z) else some (0, z)) = some (v, C') ∧ f_X13_wrong R 118 6 = some R' ∧ PFc C C' ∧ PFr R R' ∧ ((v = 1 ∧ C' = C ∧ R' = R ∧ 1 ≤ nn 0 ∧ 1 ≤ nn 1 ∧ 1 ≤ nn 2) ∨ (v = 0 ∧ DE C' R' n)) :=
      ⟨C1, R1, 0, by rw [a1, ob_s, if_neg a5.2.2.1], a2, a3, a4, Or.inr ⟨rfl, a5⟩⟩
    by_cases q0 : nn 0 = 0
    · have z : nI (nn 0) = 0 := by rw [q0]; rfl
      rw [if_pos z, if_pos z, if_neg (by decide)]
      exact lack
    · have z : ¬ nI (nn 0) = 0 := nI_ne0 (by omega) (by omega)
      rw [if_neg z, if_neg z]
      by_cases q1 : nn 1 = 0
      · have z : nI (nn 1) = 0 := by rw [q1]; rfl
        rw [if_pos z, if_pos z, if_neg (by decide)]
        exact lack
      · have z : ¬ nI (nn 1) = 0 := nI_ne0 (by omega) (by omega)
        rw [if_neg z, if_neg z]
        by_cases q2 : nn 2 = 0
        · have z : nI (nn 2) = 0 := by rw [q2]; rfl
          rw [if_pos z, if_pos z, if_neg (by decide)]
          exact lack
        · have z : ¬ nI (nn 2) = 0 := nI_ne0 (by omega) (by omega)
          rw [if_neg z, if_neg z, if_pos rfl, if_pos hA.1]
          exact ⟨C, R, 1, rfl, rfl, PFc.rf C, PFr.rf R, Or.inl ⟨rfl, rfl, rfl, by omega, by omega, by omega⟩⟩
  · rw [if_neg e]
    obtain ⟨C1, R1, a1, a2, a3, a4, a5⟩ := p_fail hF (Or.inl hA) 1 (by decide)
    have hF1 := hF.congr a3.1 a4.1
    exact ⟨C1, R1, 0, by rw [a1, ob_s, if_neg a5.2.2.1], rl_end2 (fun z => e (hend.mpr z)) a2 a5.1 hF1.2.2.2.2.2.1, a3, a4, Or.inr ⟨rfl, a5⟩⟩
theorem AL.le {C R : MM} {n s : Nat} (h : AL C R n s) : s ≤ n ∧ n ≤ 900 := by
  obtain ⟨-, -, ⟨b1, -⟩, ⟨p, p1, p2, -⟩, -⟩ := h
  omega
theorem PI.go {C R C' R' : MM} {sp jr : Nat} {nn : Nat → Nat} (h : PI C R sp jr nn) (hj : 123 < jr) (hc : PFc C C') (hr : PFr R R') : PI C' R' sp jr nn := by
  have hs := h.2.1.1
  have hE := h.2.2.2.2.2.2.1
  have c4 : ∀ j, gI C' sp j = gI C sp j := fun j => hc.e _ j (by omega)
  have c8 : ∀ j, gI C' (sp + 8) j = gI C (sp + 8) j := fun j => hc.e _ j (by omega)
  have r3 : ∀ j, gI R' jr j = gI R jr j := fun j => hr.2.1 jr j (by omega)
  refine h.f hc.1 (fun a j h1 h2 => hc.e a j (by omega)) (fun j _ => c8 j) (fun c i h1 h2 => hr.2.1 _ i (by omega)) (fun j _ => r3 j) ?_
  have z0 : ∀ j, RD R' jr 0 j = gI R' jr j := fun _ => rfl
  have z1 : ∀ j, RD R jr 0 j = gI R jr j := fun _ => rfl
  unfold EF at hE ⊢
  simp only [z0, z1, c4, c8, r3] at hE ⊢
  exact hE
/-- line by line -/
theorem isl_loop {jr sp n : Nat} : ∀ (d s i : Nat) (C R : MM) (nn : Nat → Nat) (f1 f2 : Nat), n < s + d → i ≤ s → d + 1 < f1 → d + 1 < f2 → RF C R jr → AL C R n s → PI C R sp jr nn → NM C R jr nn (tot nn) →
    ∃ C' R' v, f_X2_readIsland_L32 f1 C 4 (nI n) sp 1 (nI i) = some (v, C') ∧ f_X13_readIsland_L2 f2 R 118 1 = some R' ∧ KC C C' sp ∧ KR R R' jr ∧
      ((v = 1 ∧ ∃ s' nn', AL C' R' n s' ∧ PI C' R' sp jr nn' ∧ 1 ≤ nn' 0 ∧ 1 ≤ nn' 1 ∧ 1 ≤ nn' 2) ∨ (v = 0 ∧ DE C' R' n)) := by
  intro d
  induction d with
  | zero =>
    intro s i C R nn f1 f2 h1 h2 h3 h4 hF hA hP hN
    have := hA.le
    omega
  | succ d ih =>
    intro s i C R nn f1 f2 h1 h2 h3 h4 hF hA hP hN
    obtain ⟨g1, g2⟩ := hA.le
    obtain ⟨f1, rfl⟩ := suc h3
    obtain ⟨f2, rfl⟩ := suc h4
    obtain ⟨f1', e1⟩ := suc (show 0 < f1 by omega)
    obtain ⟨f2', e2⟩ := suc (show 0 < f2 by omega)
    obtain ⟨C1, R1, a1, a2, k1, k2, o⟩ := line_any hF hA hP hN
    have hF1 : RF C1 R1 jr := hF.congr k1.1 k2.1
    rw [f_X2_readIsland_L32, f_X13_readIsland_L2, if_neg (show ¬ nI n < nI i from nI_nlt (by omega) (by omega)), if_neg (show ¬ (1 : Int32) = 0 by decide), if_neg (show ¬ (1 : Int32) = 0 by decide), a1, a2, ob_s, ob_s, nI_1 i]
    rcases o with ⟨s1, n1, l1, A1, P1, N1⟩ | D1
    · obtain ⟨C2, v2, v2', R2, b1, b2, p2, p2', o2⟩ := p_sign hF1 (Or.inl A1) (x := 59) (Or.inl rfl)
      rw [if_pos A1.1, b1, b2, ob_s, ob_s]
      dsimp only
      rcases o2 with ⟨-, rfl, rfl, s2, l2, A2⟩ | ⟨-, rfl, rfl, rfl, rfl⟩ | ⟨D, -⟩
      · rw [if_neg (show ¬ (1 : Int32) = 0 by decide)]
        have P2 : PI C2 R2 sp jr n1 := P1.go hF.2.2.2.2.2.2.2.2 p2 p2'
        obtain ⟨C', R', v, c1, c2, c3, c4, c5⟩ := ih s2 (i + 1) C2 R2 n1 f1 f2 (by omega) (by omega) (by omega) (by omega) (hF1.congr p2.1 p2'.1) A2 P2 (N1.go hF.2.2.2.2.2.2.2.2 p2 p2')
        exact ⟨C', R', v, c1, c2, (k1.tr (p2.q.k sp)).tr c3, (k2.tr (p2'.q jr).k).tr c4, c5⟩
      · rw [if_pos rfl, e1, e2]
        obtain ⟨C', R', v, c1, c2, c3, c4, c5⟩ := isl_end_al (f1 := f1') (f2 := f2') (x := nI n) (y := nI (i + 1)) hF1 A1 P1
        refine ⟨C', R', v, c1, c2, k1.tr (c3.q.k sp), k2.tr (c4.q jr).k, ?_⟩
        rcases c5 with ⟨rfl, rfl, rfl, c6⟩ | c5
        · exact Or.inl ⟨rfl, s1, n1, A1, P1, c6⟩
        · exact Or.inr c5
      · exact (D.no A1).elim
    · rw [if_neg D1.2.2.1, eats_o D1.1, ob_s]
      dsimp only
      rw [e1, e2]
      obtain ⟨c1, c2⟩ := isl_end_de (f1 := f1') (f2 := f2') (x := nI n) (y := nI (i + 1)) (sp := sp) hF1 D1 (hP.1.congr k1.1)
      exact ⟨C1, R1, 0, c1, c2, k1, k2, Or.inr ⟨rfl, D1⟩⟩
