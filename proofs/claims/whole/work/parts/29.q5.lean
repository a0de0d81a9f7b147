/-! TRIALS, WOOD -/
theorem mx_ (a b : Int32) : ∃ m, (if a < b then b else a) = m ∧ ∀ (A : Int32 → Option (Int32 × MM)), (if b ≤ a then A a else A b) = A m := by
  by_cases h : a < b
  · exact ⟨b, if_pos h, fun A => if_neg (Int32.not_le.mpr h)⟩
  · exact ⟨a, if_neg h, fun A => if_pos (i32_le h)⟩
theorem mn_ (a b : Int32) : ∃ m, (if b < a then b else a) = m ∧ ∀ (A : Int32 → Option (Int32 × MM)), (if a ≤ b then A a else A b) = A m := by
  by_cases h : b < a
  · exact ⟨b, if_pos h, fun A => if_neg (Int32.not_le.mpr h)⟩
  · exact ⟨a, if_neg h, fun A => if_pos (i32_le h)⟩
section TRIALS
variable {C R : MM} {ic j : Nat} {D : DT} {n : Nat → Nat}
theorem further_p (M : MM) (b z m : Int32) : ∃ v, f_X0_further M b z m = some v ∧ ∀ (A : Int32 → Option (Int32 × MM)), (if b = -1 then A z else if m = 0 then (if b ≤ z then A b else A z) else (if z ≤ b then A b else A z)) = A v := by
  unfold f_X0_further
  by_cases h : b = -1
  · exact ⟨z, if_pos h, fun A => if_pos h⟩
  · rw [if_neg h]
    by_cases hm : m = 0
    · rw [if_pos hm]
      obtain ⟨v, e1, e2⟩ := mn_ b z
      exact ⟨v, by rw [e1], fun A => by rw [if_neg h, if_pos hm]; exact e2 A⟩
    · rw [if_neg hm]
      obtain ⟨v, e1, e2⟩ := mx_ b z
      exact ⟨v, by rw [e1], fun A => by rw [if_neg h, if_neg hm]; exact e2 A⟩
theorem people_l (hc : CI C ic D n) (hj : RI R j D) (x1 x2 x3 : Int32) : ∀ (d k : Nat) (best h : Int32) (f1 f2 : Nat), k + d = n 3 → d < f1 → d < f2 →
    ∃ v, f_X0_peopleByTrials_L9 f1 C ic x1 x2 x3 best h (nI k) = some v ∧ f_X13_people_L45 f2 R 118 x1 x2 x3 best h (nI k) = (if v = -1 then some (-1, pI (pI R 118 1 6) 118 2 (-1)) else some (v, pI (pI R 118 1 0) 118 2 (-1))) := by
  have n5 := hc.nb.2.2.2.1
  intro d
  induction d with
  | zero =>
    intro k best h f1 f2 hk g1 g2
    obtain ⟨f1, rfl⟩ := suc g1
    obtain ⟨f2, rfl⟩ := suc g2
    rw [f_X0_peopleByTrials_L9, hc.c3, ob_s, if_pos (nI_le (by omega) (by omega)), f_X13_people_L45, hj.j, oc_x, hj.d0, hc.dn.2.2.2.1, if_pos (nI_le (by omega) (by omega)), f_X13_refused, ob_s, f_X13_done, ob_s]
    by_cases hx : x2 ≤ 4 * h
    · rw [if_pos hx, if_pos hx]
      exact ⟨best, rfl, rfl⟩
    · rw [if_neg hx, if_neg hx]
      refine ⟨-1, rfl, ?_⟩
      rw [if_pos rfl]
      split <;> rfl
  | succ d ih =>
    intro k best h f1 f2 hk g1 g2
    obtain ⟨f1, rfl⟩ := suc g1
    obtain ⟨f2, rfl⟩ := suc g2
    have hk2 : k < n 3 := by omega
    have et := hc.ce.2.2.2.1 k hk2
    obtain ⟨-, hq, -⟩ := hc.vd.2.2.2.1 k hk2
    rw [f_X0_peopleByTrials_L9, hc.c3, ob_s, if_neg (nI_ge hk2 (by omega)), hc.t hk2, ob_s, oc_x, et.1, et.2.1, et.2.2.1, up_c hq, ob_s, nI_1 k]
    rw [f_X13_people_L45]
    simp only [hj.j, oc_x, hj.s.k22, hj.s.k23, hj.s.k24, chk_m (show k < 5 by omega) (show 5 < 2147483648 by decide), ix_n (show k < 2147483648 by omega), hj.d0, hc.dn.2.2.2.1, if_neg (nI_ge hk2 (show n 3 < 2147483648 by omega)), hj.d 14 k (by decide), hj.d 15 k (by decide), hj.d 16 k (by decide), up_r hq, ob_s, nI_1]
    by_cases hw : D 14 k = x1
    · rw [if_pos hw, if_pos hw]
      obtain ⟨m, em, eA⟩ := mx_ h (D 15 k)
      obtain ⟨v, ev, eB⟩ := further_p C best (upS (x2 * D 16 k) (D 15 k)) x3
      rw [ev, ob_s, em]
      have e1 : ∀ b : Int32, (if D 15 k ≤ h then f_X13_people_L45 f2 R 118 x1 x2 x3 b h (nI (k + 1)) else f_X13_people_L45 f2 R 118 x1 x2 x3 b (D 15 k) (nI (k + 1))) = f_X13_people_L45 f2 R 118 x1 x2 x3 b m (nI (k + 1)) := fun b => eA (fun y => f_X13_people_L45 f2 R 118 x1 x2 x3 b y (nI (k + 1)))
      simp only [e1]
      rw [eB (fun y => f_X13_people_L45 f2 R 118 x1 x2 x3 y m (nI (k + 1)))]
      exact ih (k + 1) v m f1 f2 (by omega) (by omega) (by omega)
    · rw [if_neg hw, if_neg hw]
      exact ih (k + 1) best h f1 f2 (by omega) (by omega) (by omega)
theorem takes_l (hc : CI C ic D n) (hj : RI R j D) (x1 x2 x3 : Int32) : ∀ (d k : Nat) (best : Int32) (f1 f2 : Nat), k + d = n 3 → d < f1 → d < f2 →
    ∃ v, f_X0_minutesByTrials_L6 f1 C ic x1 x2 x3 best (nI k) = some v ∧ f_X13_takes_L42 f2 R 118 x1 x2 x3 best (nI k) = (if v = -1 then some (-1, pI (pI R 118 1 6) 118 2 (-1)) else some (v, pI (pI R 118 1 0) 118 2 (-1))) := by
  have n5 := hc.nb.2.2.2.1
  intro d
  induction d with
  | zero =>
    intro k best f1 f2 hk g1 g2
    obtain ⟨f1, rfl⟩ := suc g1
    obtain ⟨f2, rfl⟩ := suc g2
    rw [f_X0_minutesByTrials_L6, hc.c3, ob_s, if_pos (nI_le (by omega) (by omega)), f_X13_takes_L42, hj.j, oc_x, hj.d0, hc.dn.2.2.2.1, if_pos (nI_le (by omega) (by omega)), f_X13_refused, ob_s, f_X13_done, ob_s]
    exact ⟨best, rfl, rfl⟩
  | succ d ih =>
    intro k best f1 f2 hk g1 g2
    obtain ⟨f1, rfl⟩ := suc g1
    obtain ⟨f2, rfl⟩ := suc g2
    have hk2 : k < n 3 := by omega
    have et := hc.ce.2.2.2.1 k hk2
    obtain ⟨-, -, hq⟩ := hc.vd.2.2.2.1 k hk2
    rw [f_X0_minutesByTrials_L6, hc.c3, ob_s, if_neg (nI_ge hk2 (by omega)), hc.t hk2, ob_s, oc_x, et.1, et.2.2.2.1, et.2.2.2.2, up_c hq, ob_s, nI_1 k]
    rw [f_X13_takes_L42]
    simp only [hj.j, oc_x, hj.s.k22, hj.s.k25, hj.s.k26, chk_m (show k < 5 by omega) (show 5 < 2147483648 by decide), ix_n (show k < 2147483648 by omega), hj.d0, hc.dn.2.2.2.1, if_neg (nI_ge hk2 (show n 3 < 2147483648 by omega)), hj.d 14 k (by decide), hj.d 17 k (by decide), hj.d 18 k (by decide), up_r hq, ob_s, nI_1]
    by_cases hw : D 14 k = x1
    · rw [if_pos hw, if_pos hw]
      obtain ⟨v, ev, eB⟩ := further_p C best (upS (x2 * D 18 k) (D 17 k)) x3
      rw [ev, ob_s, eB (fun y => f_X13_takes_L42 f2 R 118 x1 x2 x3 y (nI (k + 1)))]
      exact ih (k + 1) v f1 f2 (by omega) (by omega) (by omega)
    · rw [if_neg hw, if_neg hw]
      exact ih (k + 1) best f1 f2 (by omega) (by omega) (by omega)
theorem wood_l (hc : CI C ic D n) (hj : RI R j D) {w : Nat} (hw : w < n 0) : ∀ (d k : Nat) (acc : Int32) (f1 f2 : Nat), k + d = n 2 → d < f1 → d < f2 →
    ∃ v, f_X0_woodOf_L25_1 f1 C ic (ic + (9 + w)) (D 5 0) acc (nI k) = some v ∧ f_X13_woodBy_L4 f2 R 118 (nI w) acc (nI k) = some v := by
  have n10 := hc.nb.2.2.1
  have ew := EWk hc hw
  obtain ⟨⟨kd, kd4, hkd⟩, -⟩ := hc.vd.1 w hw
  intro d
  induction d with
  | zero =>
    intro k acc f1 f2 hk g1 g2
    obtain ⟨f1, rfl⟩ := suc g1
    obtain ⟨f2, rfl⟩ := suc g2
    rw [f_X0_woodOf_L25_1, hc.c2, ob_s, if_pos (nI_le (by omega) (by omega)), f_X13_woodBy_L4, hj.j, oc_x, hj.d0, hc.dn.2.2.1, if_pos (nI_le (by omega) (by omega))]
    exact ⟨acc, rfl, rfl⟩
  | succ d ih =>
    intro k acc f1 f2 hk g1 g2
    obtain ⟨f1, rfl⟩ := suc g1
    obtain ⟨f2, rfl⟩ := suc g2
    have hk2 : k < n 2 := by omega
    have es := hc.ce.2.2.1 k hk2
    rw [f_X0_woodOf_L25_1, hc.c2, ob_s, if_neg (nI_ge hk2 (by omega)), hc.s hk2, ob_s, oc_x, isLying_c, ob_s, es.2.2.2.1, es.1, es.2.2.2.2.2.2.1, woodFor_c (ew.2.1.trans hkd) kd4, ob_s, ob_s, nI_1 k]
    rw [f_X13_woodBy_L4]
    have hz : gI R (j + 5) (ix 0) = D 5 0 := hj.d 5 0 (by decide)
    simp only [hj.j, oc_x, hj.s.k18, hj.s.k21, hj.s.k15, hj.s.k13, chk_m (show k < 10 by omega) (show 10 < 2147483648 by decide), ix_n (show k < 2147483648 by omega), hj.d0, hc.dn.2.2.1, if_neg (nI_ge hk2 (show n 2 < 2147483648 by omega)), hj.d 10 k (by decide), hj.d 13 k (by decide), hj.d 7 k (by decide), hz, woodOf_r hj ew.1 hkd kd4, ob_s, nI_1, Int32.mul_zero, Int32.add_zero]
    by_cases h5 : D 10 k = 5
    · rw [if_pos h5, if_pos h5, if_neg (show ¬ (1 : Int32) = 0 by decide)]
      exact ih (k + 1) _ f1 f2 (by omega) (by omega) (by omega)
    · rw [if_neg h5, if_neg h5, if_pos rfl]
      by_cases h3 : D 10 k = 3
      · rw [if_pos h3, if_pos h3]
        exact ih (k + 1) _ f1 f2 (by omega) (by omega) (by omega)
      · rw [if_neg h3, if_neg h3]
        exact ih (k + 1) _ f1 f2 (by omega) (by omega) (by omega)
theorem wood_p (hc : CI C ic D n) (hj : RI R j D) {w : Nat} (hw : w < n 0) : ∃ v, f_X0_woodOf C ic (ic + (9 + w)) = some v ∧ f_X13_woodBy R 118 (nI w) = some v := by
  have n10 := hc.nb.2.2.1
  have h1 := hc.n0.2.1
  unfold f_X0_woodOf f_X13_woodBy
  rw [show (0 : Int32) = nI 0 from rfl, hc.r (show 0 < n 1 by omega), ob_s, oc_x, (hc.ce.2.1 0 (by omega)).2.1]
  exact wood_l hc hj hw (n 2) 0 _ FU FU (by omega) (fu (by omega)) (fu (by omega))
theorem land_h (hc : CI C ic D n) : (f_X0_has C ic 7 0 = some 0 ∧ D 0 27 = -1) ∨ (f_X0_has C ic 7 0 = some 1 ∧ ¬ D 0 27 = -1 ∧ (∃ t, t ≤ 999 ∧ D 0 27 = nI t) ∧ gI C ic 9 = D 0 27 ∧ gI C ic 10 = D 0 28 ∧ gI C ic 11 = D 0 29) := by
  rcases hc.ef.2.1 with ⟨h1, h2⟩ | ⟨h1, ⟨t, h2, h3⟩, h4⟩
  · exact Or.inl ⟨has7_n (n := 0) hc.is h1 (Or.inr (by decide)), h2⟩
  · refine Or.inr ⟨has7_s (n := 1) (k := 0) hc.is h1 (by decide) (by decide), ?_, ⟨t, h2, h3⟩, h4⟩
    rw [h3]
    exact m1_nI (by omega)
end TRIALS
theorem rng (x lo hi : Int32) : (x < lo ∧ (if x < lo then (0 : Int32) else if hi < x then 0 else 1) = 0) ∨ (¬ x < lo ∧ ¬ x ≤ hi ∧ (if x < lo then (0 : Int32) else if hi < x then 0 else 1) = 0) ∨ (¬ x < lo ∧ x ≤ hi ∧ (if x < lo then (0 : Int32) else if hi < x then 0 else 1) = 1) := by
  by_cases h : x < lo
  · exact Or.inl ⟨h, if_pos h⟩
  · by_cases h2 : x ≤ hi
    · exact Or.inr (Or.inr ⟨h, h2, by rw [if_neg h, if_neg (Int32.not_lt.mpr h2)]⟩)
    · exact Or.inr (Or.inl ⟨h, h2, by rw [if_neg h, if_pos (i32_lt h2)]⟩)
theorem q_people {C R : MM} {jo sc ic sp : Nat} (hS : ST C jo sc ic sp) (hI : IR C R ic) (x1 x2 x3 : Int32) : QQ C R (f_X11_people C 1 x1 x2 x3) (f_X13_people R 118 x1 x2 x3) := by
  unfold f_X11_people f_X13_people
  rcases hI with ⟨hb, hr⟩ | ⟨j, D, n, hc, hj, hT⟩
  · refine QQ.mk (-1) 1 (by decide) ?_ ?_
    · simp only [hS.a5, oc_x, oc_z, ob_s, if_true, if_false, l00, l01, l02, l10, l11, l12, (bare_h hb _).1, f_X11_refused]
    · simp only [oc_x, oc_z, ob_s, if_true, if_false, l00, l01, l02, l10, l11, l12, (rnone (M := pI R 118 0 0) hr _).1, f_X13_refused]
      rfl
  have n4 := hc.nb.1
  have n5 := hc.nb.2.2.2.1
  rcases inr x1 (show n 0 < 2147483648 by omega) with h1 | ⟨k1, hk1, rfl⟩
  · refine QQ.mk (-1) 1 (by decide) ?_ ?_
    · simp only [hS.a5, oc_x, oc_z, ob_s, if_true, if_false, l00, l01, l02, l10, l11, l12, has0_n hc.is hc.cn.1 h1, f_X11_refused]
    · simp only [oc_x, oc_z, ob_s, if_true, if_false, l00, l01, l02, l10, l11, l12, isWay_n (hj.t 0) hc.dn.1 h1, f_X13_refused]
      rfl
  · have c1 := has0_s hc.is hc.cn.1 (show n 0 < 100 by omega) hk1
    have r1 := isWay_s (hj.t 0) hc.dn.1 hk1 (show n 0 < 100 by omega)
    rcases rng x2 1 400 with ⟨h2, h3⟩ | ⟨h2, h2', h3⟩ | ⟨h2, h2', h3⟩
    · refine QQ.mk (-1) 2 (by decide) ?_ ?_
      · simp only [hS.a5, oc_x, oc_z, ob_s, if_true, if_false, l00, l01, l02, l10, l11, l12, c1, if_pos h2, f_X11_refused]
      · simp only [oc_x, oc_z, ob_s, if_true, if_false, l00, l01, l02, l10, l11, l12, r1, in_eq, h3, f_X13_refused]
        rfl
    · refine QQ.mk (-1) 2 (by decide) ?_ ?_
      · simp only [hS.a5, oc_x, oc_z, ob_s, if_true, if_false, l00, l01, l02, l10, l11, l12, c1, if_neg h2, if_neg h2', f_X11_refused]
      · simp only [oc_x, oc_z, ob_s, if_true, if_false, l00, l01, l02, l10, l11, l12, r1, in_eq, h3, f_X13_refused]
        rfl
    · obtain ⟨v, e1, e2⟩ := people_l hc (hj.t 0) (nI k1) x2 x3 (n 3) 0 (-1) 0 FU FU (by omega) (fu (by omega)) (fu (by omega))
      have e1 : f_X0_peopleByTrials C ic (nI k1) x2 x3 = some v := e1
      by_cases hv : v = -1
      · refine QQ.mk (-1) 6 (by decide) ?_ ?_
        · simp only [hS.a5, oc_x, oc_z, ob_s, if_true, if_false, l00, l01, l02, l10, l11, l12, c1, if_neg h2, if_pos h2', e1, if_pos hv, f_X11_refused]
        · simp only [oc_x, oc_z, ob_s, if_true, if_false, l00, l01, l02, l10, l11, l12, r1, in_eq, h3]
          rw [if_pos hv] at e2
          exact e2
      · refine QQ.mk v 0 (by decide) ?_ ?_
        · simp only [hS.a5, oc_x, oc_z, ob_s, if_true, if_false, l00, l01, l02, l10, l11, l12, c1, if_neg h2, if_pos h2', e1, if_neg hv, f_X11_granted]
        · simp only [oc_x, oc_z, ob_s, if_true, if_false, l00, l01, l02, l10, l11, l12, r1, in_eq, h3]
          rw [if_neg hv] at e2
          exact e2
theorem q_takes {C R : MM} {jo sc ic sp : Nat} (hS : ST C jo sc ic sp) (hI : IR C R ic) (x1 x2 x3 : Int32) : QQ C R (f_X11_takes C 1 x1 x2 x3) (f_X13_takes R 118 x1 x2 x3) := by
  unfold f_X11_takes f_X13_takes
  rcases hI with ⟨hb, hr⟩ | ⟨j, D, n, hc, hj, hT⟩
  · refine QQ.mk (-1) 1 (by decide) ?_ ?_
    · simp only [hS.a5, oc_x, oc_z, ob_s, if_true, if_false, l00, l01, l02, l10, l11, l12, (bare_h hb _).1, f_X11_refused]
    · simp only [oc_x, oc_z, ob_s, if_true, if_false, l00, l01, l02, l10, l11, l12, (rnone (M := pI R 118 0 0) hr _).1, f_X13_refused]
      rfl
  have n4 := hc.nb.1
  have n5 := hc.nb.2.2.2.1
  rcases inr x1 (show n 0 < 2147483648 by omega) with h1 | ⟨k1, hk1, rfl⟩
  · refine QQ.mk (-1) 1 (by decide) ?_ ?_
    · simp only [hS.a5, oc_x, oc_z, ob_s, if_true, if_false, l00, l01, l02, l10, l11, l12, has0_n hc.is hc.cn.1 h1, f_X11_refused]
    · simp only [oc_x, oc_z, ob_s, if_true, if_false, l00, l01, l02, l10, l11, l12, isWay_n (hj.t 0) hc.dn.1 h1, f_X13_refused]
      rfl
  · have c1 := has0_s hc.is hc.cn.1 (show n 0 < 100 by omega) hk1
    have r1 := isWay_s (hj.t 0) hc.dn.1 hk1 (show n 0 < 100 by omega)
    rcases rng x2 1 9999 with ⟨h2, h3⟩ | ⟨h2, h2', h3⟩ | ⟨h2, h2', h3⟩
    · refine QQ.mk (-1) 2 (by decide) ?_ ?_
      · simp only [hS.a5, oc_x, oc_z, ob_s, if_true, if_false, l00, l01, l02, l10, l11, l12, c1, if_pos h2, f_X11_refused]
      · simp only [oc_x, oc_z, ob_s, if_true, if_false, l00, l01, l02, l10, l11, l12, r1, in_eq, h3, f_X13_refused]
        rfl
    · refine QQ.mk (-1) 2 (by decide) ?_ ?_
      · simp only [hS.a5, oc_x, oc_z, ob_s, if_true, if_false, l00, l01, l02, l10, l11, l12, c1, if_neg h2, if_neg h2', f_X11_refused]
      · simp only [oc_x, oc_z, ob_s, if_true, if_false, l00, l01, l02, l10, l11, l12, r1, in_eq, h3, f_X13_refused]
        rfl
    · obtain ⟨v, e1, e2⟩ := takes_l hc (hj.t 0) (nI k1) x2 x3 (n 3) 0 (-1) FU FU (by omega) (fu (by omega)) (fu (by omega))
      have e1 : f_X0_minutesByTrials C ic (nI k1) x2 x3 = some v := e1
      by_cases hv : v = -1
      · refine QQ.mk (-1) 6 (by decide) ?_ ?_
        · simp only [hS.a5, oc_x, oc_z, ob_s, if_true, if_false, l00, l01, l02, l10, l11, l12, c1, if_neg h2, if_pos h2', e1, if_pos hv, f_X11_refused]
        · simp only [oc_x, oc_z, ob_s, if_true, if_false, l00, l01, l02, l10, l11, l12, r1, in_eq, h3]
          rw [if_pos hv] at e2
          exact e2
      · refine QQ.mk v 0 (by decide) ?_ ?_
        · simp only [hS.a5, oc_x, oc_z, ob_s, if_true, if_false, l00, l01, l02, l10, l11, l12, c1, if_neg h2, if_pos h2', e1, if_neg hv, f_X11_granted]
        · simp only [oc_x, oc_z, ob_s, if_true, if_false, l00, l01, l02, l10, l11, l12, r1, in_eq, h3]
          rw [if_neg hv] at e2
          exact e2
theorem q_wood {C R : MM} {jo sc ic sp : Nat} (hS : ST C jo sc ic sp) (hI : IR C R ic) (x1 : Int32) : QQ C R (f_X11_wood C 1 x1) (f_X13_wood R 118 x1) := by
  unfold f_X11_wood f_X13_wood  
  rcases hI with ⟨hb, hr⟩ | ⟨j, D, n, hc, hj, hT⟩
  · refine QQ.mk (-1) 1 (by decide) ?_ ?_
    · simp only [hS.a5, oc_x, oc_z, ob_s, if_true, if_false, l00, l01, l02, l10, l11, l12, (bare_n hb _).1, f_X11_refused]
    · simp only [oc_x, oc_z, ob_s, if_true, if_false, l00, l01, l02, l10, l11, l12, (rnone (M := pI R 118 0 0) hr _).1, f_X13_refused]
      rfl
  rcases inr x1 (show n 0 < 2147483648 by have := hc.nb.1; omega) with hx1 | ⟨k1, hk1, rfl⟩
  · have c1 := wayAt_n hc.is hc.cn.1 hx1
    have r1 := isWay_n (hj.t 0) hc.dn.1 hx1
    refine QQ.mk (-1) 1 (by decide) ?_ ?_
    · simp only [hS.a5, oc_x, oc_z, ob_s, if_true, if_false, l00, l01, l02, l10, l11, l12, c1, f_X11_refused]
    · simp only [oc_x, oc_z, ob_s, if_true, if_false, l00, l01, l02, l10, l11, l12, r1, f_X13_refused]
      rfl
  · have c1 := hc.w hk1
    have r1 := isWay_s (hj.t 0) hc.dn.1 hk1 (show n 0 < 100 by have := hc.nb.1; omega)
    obtain ⟨v, e1, e2⟩ := wood_p hc (hj.t 0) hk1
    refine QQ.mk v 0 (by decide) ?_ ?_
    · simp only [hS.a5, oc_x, oc_z, ob_s, if_true, if_false, l00, l01, l02, l10, l11, l12, c1, e1, f_X11_granted]
    · simp only [oc_x, oc_z, ob_s, if_true, if_false, l00, l01, l02, l10, l11, l12, r1, e2, f_X13_done]
      rfl
theorem q_enough {C R : MM} {jo sc ic sp : Nat} (hS : ST C jo sc ic sp) (hI : IR C R ic) (x1 : Int32) : QQ C R (f_X11_enough C 1 x1) (f_X13_enough R 118 x1) := by
  unfold f_X11_enough f_X13_enough  
  rcases hI with ⟨hb, hr⟩ | ⟨j, D, n, hc, hj, hT⟩
  · refine QQ.mk (-1) 1 (by decide) ?_ ?_
    · simp only [hS.a5, oc_x, oc_z, ob_s, if_true, if_false, l00, l01, l02, l10, l11, l12, (bare_n hb _).1, f_X11_refused]
    · simp only [oc_x, oc_z, ob_s, if_true, if_false, l00, l01, l02, l10, l11, l12, (rnone (M := pI R 118 0 0) hr _).1, f_X13_refused]
      rfl
  rcases inr x1 (show n 0 < 2147483648 by have := hc.nb.1; omega) with hx1 | ⟨k1, hk1, rfl⟩
  · have c1 := wayAt_n hc.is hc.cn.1 hx1
    have r1 := isWay_n (hj.t 0) hc.dn.1 hx1
    refine QQ.mk (-1) 1 (by decide) ?_ ?_
    · simp only [hS.a5, oc_x, oc_z, ob_s, if_true, if_false, l00, l01, l02, l10, l11, l12, c1, f_X11_refused]
    · simp only [oc_x, oc_z, ob_s, if_true, if_false, l00, l01, l02, l10, l11, l12, r1, f_X13_refused]
      rfl
  · have c1 := hc.w hk1
    have r1 := isWay_s (hj.t 0) hc.dn.1 hk1 (show n 0 < 100 by have := hc.nb.1; omega)
    obtain ⟨v, e1, e2⟩ := wood_p hc (hj.t 0) hk1
    rcases land_h hc with ⟨h1, h2⟩ | ⟨h1, h2, -, h3, -⟩
    · refine QQ.mk (-1) 6 (by decide) ?_ ?_
      · simp only [hS.a5, oc_x, oc_z, ob_s, if_true, if_false, l00, l01, l02, l10, l11, l12, c1, h1, f_X11_refused]
      · simp only [oc_x, oc_z, ob_s, if_true, if_false, l00, l01, l02, l10, l11, l12, r1, (hj.t 0).j, (hj.t 0).d0, if_pos h2, f_X13_refused]
        rfl
    · by_cases hz : D 0 27 * 10 < v
      · refine QQ.mk 0 0 (by decide) ?_ ?_
        · simp only [hS.a5, oc_x, oc_z, ob_s, if_true, if_false, l00, l01, l02, l10, l11, l12, c1, h1, h3, e1, if_pos hz, f_X11_granted]
        · simp only [oc_x, oc_z, ob_s, if_true, if_false, l00, l01, l02, l10, l11, l12, r1, (hj.t 0).j, (hj.t 0).d0, if_neg h2, e2, Int32.mul_comm 10, if_pos hz, f_X13_done]
          rfl
      · refine QQ.mk 1 0 (by decide) ?_ ?_
        · simp only [hS.a5, oc_x, oc_z, ob_s, if_true, if_false, l00, l01, l02, l10, l11, l12, c1, h1, h3, e1, if_neg hz, f_X11_granted]
        · simp only [oc_x, oc_z, ob_s, if_true, if_false, l00, l01, l02, l10, l11, l12, r1, (hj.t 0).j, (hj.t 0).d0, if_neg h2, e2, Int32.mul_comm 10, if_neg hz, f_X13_done]
          rfl
theorem q_off {C R : MM} {jo sc ic sp : Nat} (hS : ST C jo sc ic sp) (hI : IR C R ic) (x1 : Int32) : QQ C R (f_X11_off C 1 x1) (f_X13_off R 118 x1) := by
  unfold f_X11_off f_X13_off
  rcases hI with ⟨hb, hr⟩ | ⟨j, D, n, hc, hj, hT⟩
  · refine QQ.mk (-1000) 1 (by decide) ?_ ?_
    · simp only [hS.a5, oc_x, oc_z, ob_s, if_true, if_false, l00, l01, l02, l10, l11, l12, (bare_n hb _).2.2.2.1, f_X11_unknown]
    · rw [show gR (pI R 118 0 0) 118 3 = none from hr, oc_z]
      simp only [oc_x, oc_z, ob_s, if_true, if_false, l00, l01, l02, l10, l11, l12, f_X13_lost, f_X13_refused]
      rfl
  have n5 := hc.nb.2.2.2.1
  have n4 := hc.nb.1
  rcases inr x1 (show n 3 < 2147483648 by omega) with h1 | ⟨k, hk, rfl⟩
  · refine QQ.mk (-1000) 1 (by decide) ?_ ?_
    · simp only [hS.a5, oc_x, oc_z, ob_s, if_true, if_false, l00, l01, l02, l10, l11, l12, trialAt_n hc.is hc.cn.2.2.2.1 h1, f_X11_unknown]
    · simp only [oc_x, oc_z, ob_s, if_true, if_false, l00, l01, l02, l10, l11, l12, (hj.t 0).j, (hj.t 0).d0, hc.dn.2.2.2.1, f_X13_lost, f_X13_refused]
      by_cases h0 : x1 < 0
      · rw [if_pos h0]; rfl
      · rw [if_neg h0, if_neg (Int32.not_lt.mpr (h1.resolve_left h0))]; rfl
  · have et := hc.ce.2.2.2.1 k hk
    obtain ⟨⟨w, hw, e1⟩, -, -⟩ := hc.vd.2.2.2.1 k hk
    have ew := EWk hc hw
    obtain ⟨⟨kd, kd4, hkd⟩, pl, p1, p2, hpl⟩ := hc.vd.1 w hw
    have hn := hands_c (M := C) (a := ic + (9 + w)) (t := D 15 k) (s := 0) (ew.2.1.trans hkd) kd4 (ew.2.2.2.trans hpl) p1 p2
    have hr := needBy_r (t := D 15 k) (s := 0) (hj.t 0) ew.1 hkd kd4 hpl p1 p2
    refine QQ.mk (needS kd (nI pl) (D 15 k) 0 - D 16 k) 0 (by decide) ?_ ?_
    · simp only [hS.a5, oc_x, oc_z, ob_s, if_true, if_false, l00, l01, l02, l10, l11, l12, hc.t hk, et.1, et.2.1, et.2.2.1, e1, hc.w hw, hn, f_X11_granted]
    · simp only [oc_x, oc_z, ob_s, if_true, if_false, l00, l01, l02, l10, l11, l12, (hj.t 0).j, (hj.t 0).d0, hc.dn.2.2.2.1, if_neg (nneg (show k < 2147483648 by omega)), if_pos (nI_lt hk (show n 3 < 2147483648 by omega)), (hj.t 0).s.k22, (hj.t 0).s.k23, (hj.t 0).s.k24, chk_m (show k < 5 by omega) (show 5 < 2147483648 by decide), ix_n (show k < 2147483648 by omega), (hj.t 0).d 14 k (by decide), (hj.t 0).d 15 k (by decide), (hj.t 0).d 16 k (by decide), e1, hr, f_X13_done]
      rfl
