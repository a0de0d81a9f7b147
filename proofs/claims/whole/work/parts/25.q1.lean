/-! WHAT CAN GO -/
theorem l00 : ((0 : Int32) = 0) = True := eq_true rfl
theorem l01 : ((1 : Int32) = 0) = False := eq_false (by decide)
theorem l02 : ((2 : Int32) = 0) = False := eq_false (by decide)
theorem l10 : ((0 : Int32) ≤ 0) = True := eq_true (by decide)
theorem l11 : ((1 : Int32) ≤ 0) = False := eq_false (by decide)
theorem l12 : ((2 : Int32) ≤ 0) = False := eq_false (by decide)
theorem QQ.mk {C R : MM} {x y : Option (Int32 × MM)} (r tr : Int32) (h : tr ≠ 4) (hx : x = some (r, pI C 1 7 tr)) (hy : y = some (r, rM R tr)) : QQ C R x y := ⟨r, tr, h, hx, hy⟩
theorem slope_c (M : MM) (x : Int32) : f_X11_isSlope M x = some (if x < -20 then 0 else if 20 < x then 0 else 1) := by
  unfold f_X11_isSlope
  split
  · rfl
  · split <;> rfl
theorem slope01 (x : Int32) : ((if x < -20 then (0 : Int32) else if 20 < x then 0 else 1) = 0 ∧ (if x < -20 then (0 : Int32) else if 20 < x then 0 else 1) = 0) ∨ ((if x < -20 then (0 : Int32) else if 20 < x then 0 else 1) = 1) := by
  split
  · exact Or.inl ⟨rfl, rfl⟩
  · split
    · exact Or.inl ⟨rfl, rfl⟩
    · exact Or.inr rfl
theorem crowd_c (M : MM) (x : Int32) : f_X11_isCrowd M x = some (if x < 1 then 0 else if 200 < x then 0 else 1) := by
  unfold f_X11_isCrowd
  split
  · rfl
  · split <;> rfl
theorem crowd01 (x : Int32) : ((if x < 1 then (0 : Int32) else if 200 < x then 0 else 1) = 0) ∨ ((if x < 1 then (0 : Int32) else if 200 < x then 0 else 1) = 1 ∧ ∃ p, 1 ≤ p ∧ p ≤ 200 ∧ x = nI p) := by
  by_cases h : x < 1
  · rw [if_pos h]; exact Or.inl rfl
  · rw [if_neg h]
    by_cases h2 : 200 < x
    · rw [if_pos h2]; exact Or.inl rfl
    · rw [if_neg h2]
      refine Or.inr ⟨rfl, ?_⟩
      obtain ⟨p, hp, rfl⟩ := nI_of (x := x) (fun q => h (Int32.lt_trans q (by decide)))
      refine ⟨p, ?_, ?_, rfl⟩
      · apply Nat.le_of_not_lt; intro q; exact h (nI_lt q (by decide))
      · apply Nat.le_of_not_lt; intro q; exact h2 (nI_lt q hp)
theorem lie_c (M : MM) (x : Int32) : f_X11_isLie M x = some (if x < 0 then 0 else if 2 < x then 0 else 1) := by
  unfold f_X11_isLie
  split
  · rfl
  · split <;> rfl
theorem lie01 (x : Int32) : ((if x < 0 then (0 : Int32) else if 2 < x then 0 else 1) = 0) ∨ ((if x < 0 then (0 : Int32) else if 2 < x then 0 else 1) = 1 ∧ ∃ l, l < 3 ∧ x = nI l) := by
  by_cases h : x < 0
  · rw [if_pos h]; exact Or.inl rfl
  · rw [if_neg h]
    by_cases h2 : 2 < x
    · rw [if_pos h2]; exact Or.inl rfl
    · rw [if_neg h2]
      refine Or.inr ⟨rfl, ?_⟩
      obtain ⟨p, hp, rfl⟩ := nI_of h
      refine ⟨p, ?_, rfl⟩
      apply Nat.lt_of_not_le; intro q; exact h2 (nI_lt (show 2 < p by omega) hp)
theorem fu {d : Nat} (h : d < 1000) : d < FU := Nat.lt_trans h (by decide)
theorem suc {d f : Nat} (h : d < f) : ∃ e, f = e + 1 := ⟨f - 1, by omega⟩
section LOOPS
variable {C R : MM} {ic j : Nat} {D : DT} {n : Nat → Nat}
theorem EWk (hc : CI C ic D n) {w : Nat} (hw : w < n 0) : w < 4 ∧ gI C (ic + (9 + w)) 0 = D 1 w ∧ gI C (ic + (9 + w)) 1 = D 2 w ∧ gI C (ic + (9 + w)) 2 = D 3 w := ⟨Nat.lt_of_lt_of_le hw hc.nb.1, (hc.ce.1 w hw).1, (hc.ce.1 w hw).2.1, (hc.ce.1 w hw).2.2⟩
theorem slopeC (hc : CI C ic D n) {r k h : Nat} (hr : r < n 1) (hh : D 5 r = nI h) (hk : k < h) (h6 : h ≤ 6) : f_X3_slopeAt C (ic + (13 + 2 * r)) (nI k) = some (D 6 (6 * r + k)) := by
  have h3 := hc.nb.2.1
  rw [slope_s (hc.is.sl r (by omega)) (by omega)]
  have := (hc.ce.2.1 r hr).2.2 k (by rw [hh]; exact nI_lt hk (by omega)) (by omega)
  rw [this]
theorem canOn_l (hc : CI C ic D n) (hj : RI R j D) {w t r h : Nat} (hw : w < n 0) (ht : t < n 2) (hr : r < n 1) (hh : D 5 r = nI h) (h6 : h ≤ 6) : ∀ (d k : Nat) (bits : Int32) (f1 f2 : Nat), k + d = h → d < f1 → d < f2 → ∃ v, f_X10_passable_L5 f1 C (ic + (9 + w)) (ic + (19 + t)) (ic + (13 + 2 * r)) bits (nI k) = some v ∧ f_X13_canOn_L41 f2 R 118 (nI w) (nI t) (nI r) bits (nI k) = some (v, pI (pI R 118 1 0) 118 2 (-1)) := by
  have e1 := (hc.ce.2.1 r hr).2.1
  have r3 : r < 3 := Nat.lt_of_lt_of_le hr hc.nb.2.1
  have t10 : t < 10 := Nat.lt_of_lt_of_le ht hc.nb.2.2.1
  have w4 := (EWk hc hw).1
  have ew := (EWk hc hw).2.1
  have es := hc.ce.2.2.1 t ht
  intro d
  induction d with
  | zero =>
    intro k bits f1 f2 hk h1 h2
    obtain ⟨f1, rfl⟩ := suc h1
    obtain ⟨f2, rfl⟩ := suc h2
    refine ⟨bits, ?_, ?_⟩
    · rw [f_X10_passable_L5, e1, hh, if_pos (nI_le (by omega) (by omega))]
    · rw [f_X13_canOn_L41, hj.j, oc_x, hj.s.k13, oc_x, chk_n r3 (by decide), ix_n (by omega), hj.d 5 r (by decide), hh, if_pos (nI_le (by omega) (by omega)), f_X13_done, ob_s]
  | succ d ih =>
    intro k bits f1 f2 hk h1 h2
    obtain ⟨f1, rfl⟩ := suc h1
    obtain ⟨f2, rfl⟩ := suc h2
    rw [f_X10_passable_L5, e1, hh, if_neg (nI_ge (show k < h by omega) (by omega)), slopeC hc hr hh (by omega) h6, ob_s, carries_c, ob_s, ew, es.1, es.2.1, es.2.2.1]
    rw [f_X13_canOn_L41, hj.j, oc_x, hj.s.k13, oc_x, chk_n r3 (by decide), ix_n (by omega), hj.d 5 r (by decide), hh, if_neg (nI_ge (show k < h by omega) (by omega)), oc_x, slopeAt_r hj r3 (by omega), ob_s, canBy_r hj w4 t10, ob_s, nI_1, Int32.or_zero]
    by_cases hz : canS (D 1 w) (D 7 t) (D 8 t) (D 9 t) (D 6 (6 * r + k)) = 0
    · rw [if_pos hz, if_pos hz]
      exact ih (k + 1) bits f1 f2 (by omega) (by omega) (by omega)
    · rw [if_neg hz, if_neg hz]
      exact ih (k + 1) _ f1 f2 (by omega) (by omega) (by omega)
theorem limit_l (hc : CI C ic D n) (hj : RI R j D) {w t : Nat} (hw : w < n 0) (ht : t < n 2) (x : Int32) : ∀ (d k : Nat) (f1 f2 : Nat), k + d = 41 → d < f1 → d < f2 → ∃ v, (if x = 0 then f_X10_limit_L13 f1 C (ic + (9 + w)) (ic + (19 + t)) (-1) (nI k) else f_X10_limit_L13_1 f1 C (ic + (9 + w)) (ic + (19 + t)) 1 (nI k)) = some v ∧ f_X13_steepest_L30 f2 R 118 (nI w) (nI t) x (nI k) = some (v, pI (pI R 118 1 0) 118 2 (-1)) := by
  have t10 : t < 10 := Nat.lt_of_lt_of_le ht hc.nb.2.2.1
  have w4 := (EWk hc hw).1
  have ew := (EWk hc hw).2.1
  have es := hc.ce.2.2.1 t ht
  intro d
  induction d with
  | zero =>
    intro k f1 f2 hk h1 h2
    obtain ⟨f1, rfl⟩ := suc h1
    obtain ⟨f2, rfl⟩ := suc h2
    have h40 : (40 : Int32) < nI k := by rw [show (40 : Int32) = nI 40 from rfl]; exact nI_lt (by omega) (by omega)
    refine ⟨-100, ?_, ?_⟩
    · split
      · rw [f_X10_limit_L13, if_pos h40]
      · rw [f_X10_limit_L13_1, if_pos h40]
    · rw [f_X13_steepest_L30, if_pos h40, f_X13_done, ob_s]
  | succ d ih =>
    intro k f1 f2 hk h1 h2
    obtain ⟨f1, rfl⟩ := suc h1
    obtain ⟨f2, rfl⟩ := suc h2
    have h40 : ¬ (40 : Int32) < nI k := by rw [show (40 : Int32) = nI 40 from rfl]; exact nI_nlt (by omega) (by omega)
    have hi := ih (k + 1) f1 f2 (by omega) (by omega) (by omega)
    rw [f_X10_limit_L13, f_X10_limit_L13_1, f_X13_steepest_L30, if_neg h40, if_neg h40, if_neg h40, carries_c, carries_c, ob_s, ob_s, ew, es.1, es.2.1, es.2.2.1, canBy_r hj w4 t10, canBy_r hj w4 t10, ob_s, ob_s, nI_1, f_X13_done, ob_s, f_X13_done, ob_s]
    by_cases hx : x = 0
    · have em : (-1 : Int32) * (nI k - 20) = 20 - nI k := by rw [← Int32.neg_eq_neg_one_mul, Int32.neg_sub]
      rw [if_pos hx] at hi ⊢
      rw [if_pos hx, em]
      by_cases hz : canS (D 1 w) (D 7 t) (D 8 t) (D 9 t) (20 - nI k) = 0
      · rw [if_pos hz, if_pos hz]; exact hi
      · rw [if_neg hz, if_neg hz]; exact ⟨_, rfl, rfl⟩
    · rw [if_neg hx] at hi ⊢
      rw [if_neg hx, Int32.one_mul]
      by_cases hz : canS (D 1 w) (D 7 t) (D 8 t) (D 9 t) (nI k - 20) = 0
      · rw [if_pos hz, if_pos hz]; exact hi
      · rw [if_neg hz, if_neg hz]; exact ⟨_, rfl, rfl⟩
end LOOPS
theorem q_can {C R : MM} {jo sc ic sp : Nat} (hS : ST C jo sc ic sp) (hI : IR C R ic) (x1 x2 x3 : Int32) : QQ C R (f_X11_can C 1 x1 x2 x3) (f_X13_can R 118 x1 x2 x3) := by
  unfold f_X11_can f_X13_can  f_X13_refusesSlope
  rcases hI with ⟨hb, hr⟩ | ⟨j, D, n, hc, hj, hT⟩
  · refine QQ.mk (-1) 1 (by decide) ?_ ?_
    · simp only [hS.a5, oc_x, oc_z, ob_s, if_true, if_false, l00, l01, l02, l10, l11, l12, (bare_n hb _).1, (bare_n hb _).2.2.1, f_X11_refused]
    · simp only [oc_x, oc_z, ob_s, if_true, if_false, l00, l01, l02, l10, l11, l12, (rnone (M := pI R 118 0 0) hr _).1, (rnone (M := pI R 118 0 0) hr _).2.2.1, f_X13_refused]
      rfl
  rcases inr x1 (show n 0 < 2147483648 by have := hc.nb.1; omega) with hx1 | ⟨k1, hk1, rfl⟩
  · have c1 := wayAt_n hc.is hc.cn.1 hx1
    have r1 := isWay_n (hj.t 0) hc.dn.1 hx1
    rcases inr x2 (show n 2 < 2147483648 by have := hc.nb.2.2.1; omega) with hx2 | ⟨k2, hk2, rfl⟩
    · have c2 := statueAt_n hc.is hc.cn.2.2.1 hx2
      have r2 := isStatue_n (hj.t 0) hc.dn.2.2.1 hx2
      refine QQ.mk (-1) 1 (by decide) ?_ ?_
      · simp only [hS.a5, oc_x, oc_z, ob_s, if_true, if_false, l00, l01, l02, l10, l11, l12, c1, c2, f_X11_refused]
      · simp only [oc_x, oc_z, ob_s, if_true, if_false, l00, l01, l02, l10, l11, l12, r1, r2, f_X13_refused]
        rfl
    · have c2 := hc.s hk2
      have r2 := isStatue_s (hj.t 0) hc.dn.2.2.1 hk2 (show n 2 < 100 by have := hc.nb.2.2.1; omega)
      refine QQ.mk (-1) 1 (by decide) ?_ ?_
      · simp only [hS.a5, oc_x, oc_z, ob_s, if_true, if_false, l00, l01, l02, l10, l11, l12, c1, c2, f_X11_refused]
      · simp only [oc_x, oc_z, ob_s, if_true, if_false, l00, l01, l02, l10, l11, l12, r1, r2, f_X13_refused]
        rfl
  · have c1 := hc.w hk1
    have r1 := isWay_s (hj.t 0) hc.dn.1 hk1 (show n 0 < 100 by have := hc.nb.1; omega)
    rcases inr x2 (show n 2 < 2147483648 by have := hc.nb.2.2.1; omega) with hx2 | ⟨k2, hk2, rfl⟩
    · have c2 := statueAt_n hc.is hc.cn.2.2.1 hx2
      have r2 := isStatue_n (hj.t 0) hc.dn.2.2.1 hx2
      refine QQ.mk (-1) 1 (by decide) ?_ ?_
      · simp only [hS.a5, oc_x, oc_z, ob_s, if_true, if_false, l00, l01, l02, l10, l11, l12, c1, c2, f_X11_refused]
      · simp only [oc_x, oc_z, ob_s, if_true, if_false, l00, l01, l02, l10, l11, l12, r1, r2, f_X13_refused]
        rfl
    · have c2 := hc.s hk2
      have r2 := isStatue_s (hj.t 0) hc.dn.2.2.1 hk2 (show n 2 < 100 by have := hc.nb.2.2.1; omega)
      rcases slope01 x3 with ⟨h0, -⟩ | h0
      · refine QQ.mk (-1) 2 (by decide) ?_ ?_
        · simp only [hS.a5, oc_x, oc_z, ob_s, if_true, if_false, l00, l01, l02, l10, l11, l12, c1, c2, slope_c, h0, f_X11_granted, f_X11_refused]
        · simp only [oc_x, oc_z, ob_s, if_true, if_false, l00, l01, l02, l10, l11, l12, r1, r2, in_eq, h0, f_X13_done, f_X13_refused]
          rfl
      · have w4 := (EWk hc hk1).1
        have ew := EWk hc hk1
        have es := hc.ce.2.2.1 k2 hk2
        have t10 : k2 < 10 := Nat.lt_of_lt_of_le hk2 hc.nb.2.2.1
        obtain ⟨⟨kd, kd4, hkd⟩, pl, p1, p2, hpl⟩ := hc.vd.1 k1 hk1
        by_cases hz : canS (D 1 k1) (D 7 k2) (D 8 k2) (D 9 k2) x3 = 0
        · refine QQ.mk 0 0 (by decide) ?_ ?_
          · simp only [hS.a5, oc_x, oc_z, ob_s, if_true, if_false, l00, l01, l02, l10, l11, l12, c1, c2, slope_c, h0, carries_c, ew.2.1, es.1, es.2.1, es.2.2.1, hz, f_X11_granted, f_X11_refused]
          · simp only [oc_x, oc_z, ob_s, if_true, if_false, l00, l01, l02, l10, l11, l12, r1, r2, in_eq, h0, canBy_r (hj.t 0) w4 t10, hz, f_X13_done, f_X13_refused]
            rfl
        · refine QQ.mk 1 0 (by decide) ?_ ?_
          · simp only [hS.a5, oc_x, oc_z, ob_s, if_true, if_false, l00, l01, l02, l10, l11, l12, c1, c2, slope_c, h0, carries_c, ew.2.1, es.1, es.2.1, es.2.2.1, if_neg hz, f_X11_granted, f_X11_refused]
          · simp only [oc_x, oc_z, ob_s, if_true, if_false, l00, l01, l02, l10, l11, l12, r1, r2, in_eq, h0, canBy_r (hj.t 0) w4 t10, if_neg hz, f_X13_done, f_X13_refused]
            rfl
theorem q_canOn {C R : MM} {jo sc ic sp : Nat} (hS : ST C jo sc ic sp) (hI : IR C R ic) (x1 x2 x3 : Int32) : QQ C R (f_X11_canOn C 1 x1 x2 x3) (f_X13_canOn R 118 x1 x2 x3) := by
  unfold f_X11_canOn f_X13_canOn  
  rcases hI with ⟨hb, hr⟩ | ⟨j, D, n, hc, hj, hT⟩
  · refine QQ.mk (-1) 1 (by decide) ?_ ?_
    · simp only [hS.a5, oc_x, oc_z, ob_s, if_true, if_false, l00, l01, l02, l10, l11, l12, (bare_n hb _).1, (bare_n hb _).2.2.1, (bare_n hb _).2.1, f_X11_refused]
    · simp only [oc_x, oc_z, ob_s, if_true, if_false, l00, l01, l02, l10, l11, l12, (rnone (M := pI R 118 0 0) hr _).1, (rnone (M := pI R 118 0 0) hr _).2.2.1, (rnone (M := pI R 118 0 0) hr _).2.1, f_X13_refused]
      rfl
  rcases inr x1 (show n 0 < 2147483648 by have := hc.nb.1; omega) with hx1 | ⟨k1, hk1, rfl⟩
  · have c1 := wayAt_n hc.is hc.cn.1 hx1
    have r1 := isWay_n (hj.t 0) hc.dn.1 hx1
    rcases inr x2 (show n 2 < 2147483648 by have := hc.nb.2.2.1; omega) with hx2 | ⟨k2, hk2, rfl⟩
    · have c2 := statueAt_n hc.is hc.cn.2.2.1 hx2
      have r2 := isStatue_n (hj.t 0) hc.dn.2.2.1 hx2
      rcases inr x3 (show n 1 < 2147483648 by have := hc.nb.2.1; omega) with hx3 | ⟨k3, hk3, rfl⟩
      · have c3 := roadAt_n hc.is hc.cn.2.1 hx3
        have r3 := isRoad_n (hj.t 0) hc.dn.2.1 hx3
        refine QQ.mk (-1) 1 (by decide) ?_ ?_
        · simp only [hS.a5, oc_x, oc_z, ob_s, if_true, if_false, l00, l01, l02, l10, l11, l12, c1, c2, c3, f_X11_refused]
        · simp only [oc_x, oc_z, ob_s, if_true, if_false, l00, l01, l02, l10, l11, l12, r1, r2, r3, f_X13_refused]
          rfl
      · have c3 := hc.r hk3
        have r3 := isRoad_s (hj.t 0) hc.dn.2.1 hk3 (show n 1 < 100 by have := hc.nb.2.1; omega)
        refine QQ.mk (-1) 1 (by decide) ?_ ?_
        · simp only [hS.a5, oc_x, oc_z, ob_s, if_true, if_false, l00, l01, l02, l10, l11, l12, c1, c2, c3, f_X11_refused]
        · simp only [oc_x, oc_z, ob_s, if_true, if_false, l00, l01, l02, l10, l11, l12, r1, r2, r3, f_X13_refused]
          rfl
    · have c2 := hc.s hk2
      have r2 := isStatue_s (hj.t 0) hc.dn.2.2.1 hk2 (show n 2 < 100 by have := hc.nb.2.2.1; omega)
      rcases inr x3 (show n 1 < 2147483648 by have := hc.nb.2.1; omega) with hx3 | ⟨k3, hk3, rfl⟩
      · have c3 := roadAt_n hc.is hc.cn.2.1 hx3
        have r3 := isRoad_n (hj.t 0) hc.dn.2.1 hx3
        refine QQ.mk (-1) 1 (by decide) ?_ ?_
        · simp only [hS.a5, oc_x, oc_z, ob_s, if_true, if_false, l00, l01, l02, l10, l11, l12, c1, c2, c3, f_X11_refused]
        · simp only [oc_x, oc_z, ob_s, if_true, if_false, l00, l01, l02, l10, l11, l12, r1, r2, r3, f_X13_refused]
          rfl
      · have c3 := hc.r hk3
        have r3 := isRoad_s (hj.t 0) hc.dn.2.1 hk3 (show n 1 < 100 by have := hc.nb.2.1; omega)
        refine QQ.mk (-1) 1 (by decide) ?_ ?_
        · simp only [hS.a5, oc_x, oc_z, ob_s, if_true, if_false, l00, l01, l02, l10, l11, l12, c1, c2, c3, f_X11_refused]
        · simp only [oc_x, oc_z, ob_s, if_true, if_false, l00, l01, l02, l10, l11, l12, r1, r2, r3, f_X13_refused]
          rfl
  · have c1 := hc.w hk1
    have r1 := isWay_s (hj.t 0) hc.dn.1 hk1 (show n 0 < 100 by have := hc.nb.1; omega)
    rcases inr x2 (show n 2 < 2147483648 by have := hc.nb.2.2.1; omega) with hx2 | ⟨k2, hk2, rfl⟩
    · have c2 := statueAt_n hc.is hc.cn.2.2.1 hx2
      have r2 := isStatue_n (hj.t 0) hc.dn.2.2.1 hx2
      rcases inr x3 (show n 1 < 2147483648 by have := hc.nb.2.1; omega) with hx3 | ⟨k3, hk3, rfl⟩
      · have c3 := roadAt_n hc.is hc.cn.2.1 hx3
        have r3 := isRoad_n (hj.t 0) hc.dn.2.1 hx3
        refine QQ.mk (-1) 1 (by decide) ?_ ?_
        · simp only [hS.a5, oc_x, oc_z, ob_s, if_true, if_false, l00, l01, l02, l10, l11, l12, c1, c2, c3, f_X11_refused]
        · simp only [oc_x, oc_z, ob_s, if_true, if_false, l00, l01, l02, l10, l11, l12, r1, r2, r3, f_X13_refused]
          rfl
      · have c3 := hc.r hk3
        have r3 := isRoad_s (hj.t 0) hc.dn.2.1 hk3 (show n 1 < 100 by have := hc.nb.2.1; omega)
        refine QQ.mk (-1) 1 (by decide) ?_ ?_
        · simp only [hS.a5, oc_x, oc_z, ob_s, if_true, if_false, l00, l01, l02, l10, l11, l12, c1, c2, c3, f_X11_refused]
        · simp only [oc_x, oc_z, ob_s, if_true, if_false, l00, l01, l02, l10, l11, l12, r1, r2, r3, f_X13_refused]
          rfl
    · have c2 := hc.s hk2
      have r2 := isStatue_s (hj.t 0) hc.dn.2.2.1 hk2 (show n 2 < 100 by have := hc.nb.2.2.1; omega)
      rcases inr x3 (show n 1 < 2147483648 by have := hc.nb.2.1; omega) with hx3 | ⟨k3, hk3, rfl⟩
      · have c3 := roadAt_n hc.is hc.cn.2.1 hx3
        have r3 := isRoad_n (hj.t 0) hc.dn.2.1 hx3
        refine QQ.mk (-1) 1 (by decide) ?_ ?_
        · simp only [hS.a5, oc_x, oc_z, ob_s, if_true, if_false, l00, l01, l02, l10, l11, l12, c1, c2, c3, f_X11_refused]
        · simp only [oc_x, oc_z, ob_s, if_true, if_false, l00, l01, l02, l10, l11, l12, r1, r2, r3, f_X13_refused]
          rfl
      · have c3 := hc.r hk3
        have r3 := isRoad_s (hj.t 0) hc.dn.2.1 hk3 (show n 1 < 100 by have := hc.nb.2.1; omega)
        obtain ⟨h, h1, h6, hh⟩ := hc.vd.2.1 k3 hk3
        obtain ⟨v, hv1, hv2⟩ := canOn_l hc (hj.t 0) hk1 hk2 hk3 hh h6 h 0 0 FU FU (by omega) (fu (by omega)) (fu (by omega))
        refine QQ.mk v 0 (by decide) ?_ ?_
        · simp only [hS.a5, oc_x, oc_z, ob_s, if_true, if_false, l00, l01, l02, l10, l11, l12, c1, c2, c3, f_X10_passable, f_X11_granted]
          rw [show (0 : Int32) = nI 0 from rfl, show f_X10_passable_L5 FU C (ic + (9 + k1)) (ic + (19 + k2)) (ic + (13 + 2 * k3)) (nI 0) (nI 0) = some v from hv1, ob_s]
        · simp only [oc_x, oc_z, ob_s, if_true, if_false, l00, l01, l02, l10, l11, l12, r1, r2, r3]
          exact hv2
theorem q_steepest {C R : MM} {jo sc ic sp : Nat} (hS : ST C jo sc ic sp) (hI : IR C R ic) (x1 x2 x3 : Int32) : QQ C R (f_X11_steepest C 1 x1 x2 x3) (f_X13_steepest R 118 x1 x2 x3) := by
  unfold f_X11_steepest f_X13_steepest  
  rcases hI with ⟨hb, hr⟩ | ⟨j, D, n, hc, hj, hT⟩
  · refine QQ.mk (-1000) 1 (by decide) ?_ ?_
    · simp only [hS.a5, oc_x, oc_z, ob_s, if_true, if_false, l00, l01, l02, l10, l11, l12, (bare_n hb _).1, (bare_n hb _).2.2.1, f_X11_unknown]
    · simp only [oc_x, oc_z, ob_s, if_true, if_false, l00, l01, l02, l10, l11, l12, (rnone (M := pI R 118 0 0) hr _).1, (rnone (M := pI R 118 0 0) hr _).2.2.1, f_X13_lost, f_X13_refused]
      rfl
  rcases inr x1 (show n 0 < 2147483648 by have := hc.nb.1; omega) with hx1 | ⟨k1, hk1, rfl⟩
  · have c1 := wayAt_n hc.is hc.cn.1 hx1
    have r1 := isWay_n (hj.t 0) hc.dn.1 hx1
    rcases inr x2 (show n 2 < 2147483648 by have := hc.nb.2.2.1; omega) with hx2 | ⟨k2, hk2, rfl⟩
    · have c2 := statueAt_n hc.is hc.cn.2.2.1 hx2
      have r2 := isStatue_n (hj.t 0) hc.dn.2.2.1 hx2
      refine QQ.mk (-1000) 1 (by decide) ?_ ?_
      · simp only [hS.a5, oc_x, oc_z, ob_s, if_true, if_false, l00, l01, l02, l10, l11, l12, c1, c2, f_X11_unknown]
      · simp only [oc_x, oc_z, ob_s, if_true, if_false, l00, l01, l02, l10, l11, l12, r1, r2, f_X13_lost, f_X13_refused]
        rfl
    · have c2 := hc.s hk2
      have r2 := isStatue_s (hj.t 0) hc.dn.2.2.1 hk2 (show n 2 < 100 by have := hc.nb.2.2.1; omega)
      refine QQ.mk (-1000) 1 (by decide) ?_ ?_
      · simp only [hS.a5, oc_x, oc_z, ob_s, if_true, if_false, l00, l01, l02, l10, l11, l12, c1, c2, f_X11_unknown]
      · simp only [oc_x, oc_z, ob_s, if_true, if_false, l00, l01, l02, l10, l11, l12, r1, r2, f_X13_lost, f_X13_refused]
        rfl
  · have c1 := hc.w hk1
    have r1 := isWay_s (hj.t 0) hc.dn.1 hk1 (show n 0 < 100 by have := hc.nb.1; omega)
    rcases inr x2 (show n 2 < 2147483648 by have := hc.nb.2.2.1; omega) with hx2 | ⟨k2, hk2, rfl⟩
    · have c2 := statueAt_n hc.is hc.cn.2.2.1 hx2
      have r2 := isStatue_n (hj.t 0) hc.dn.2.2.1 hx2
      refine QQ.mk (-1000) 1 (by decide) ?_ ?_
      · simp only [hS.a5, oc_x, oc_z, ob_s, if_true, if_false, l00, l01, l02, l10, l11, l12, c1, c2, f_X11_unknown]
      · simp only [oc_x, oc_z, ob_s, if_true, if_false, l00, l01, l02, l10, l11, l12, r1, r2, f_X13_lost, f_X13_refused]
        rfl
    · have c2 := hc.s hk2
      have r2 := isStatue_s (hj.t 0) hc.dn.2.2.1 hk2 (show n 2 < 100 by have := hc.nb.2.2.1; omega)
      obtain ⟨v, hv1, hv2⟩ := limit_l hc (hj.t 0) hk1 hk2 x3 41 0 FU FU (by omega) (fu (by omega)) (fu (by omega))
      refine QQ.mk v 0 (by decide) ?_ ?_
      · simp only [hS.a5, oc_x, oc_z, ob_s, if_true, if_false, l00, l01, l02, l10, l11, l12, c1, c2, f_X10_limit, f_X11_granted]
        rw [show (0 : Int32) = nI 0 from rfl] at hv1 ⊢
        rw [hv1, ob_s]
      · simp only [oc_x, oc_z, ob_s, if_true, if_false, l00, l01, l02, l10, l11, l12, r1, r2]
        exact hv2
theorem q_need {C R : MM} {jo sc ic sp : Nat} (hS : ST C jo sc ic sp) (hI : IR C R ic) (x1 x2 x3 : Int32) : QQ C R (f_X11_need C 1 x1 x2 x3) (f_X13_need R 118 x1 x2 x3) := by
  unfold f_X11_need f_X13_need  f_X13_refusesSlope
  rcases hI with ⟨hb, hr⟩ | ⟨j, D, n, hc, hj, hT⟩
  · refine QQ.mk (-1) 1 (by decide) ?_ ?_
    · simp only [hS.a5, oc_x, oc_z, ob_s, if_true, if_false, l00, l01, l02, l10, l11, l12, (bare_n hb _).1, (bare_n hb _).2.2.1, f_X11_refused]
    · simp only [oc_x, oc_z, ob_s, if_true, if_false, l00, l01, l02, l10, l11, l12, (rnone (M := pI R 118 0 0) hr _).1, (rnone (M := pI R 118 0 0) hr _).2.2.1, f_X13_refused]
      rfl
  rcases inr x1 (show n 0 < 2147483648 by have := hc.nb.1; omega) with hx1 | ⟨k1, hk1, rfl⟩
  · have c1 := wayAt_n hc.is hc.cn.1 hx1
    have r1 := isWay_n (hj.t 0) hc.dn.1 hx1
    rcases inr x2 (show n 2 < 2147483648 by have := hc.nb.2.2.1; omega) with hx2 | ⟨k2, hk2, rfl⟩
    · have c2 := statueAt_n hc.is hc.cn.2.2.1 hx2
      have r2 := isStatue_n (hj.t 0) hc.dn.2.2.1 hx2
      refine QQ.mk (-1) 1 (by decide) ?_ ?_
      · simp only [hS.a5, oc_x, oc_z, ob_s, if_true, if_false, l00, l01, l02, l10, l11, l12, c1, c2, f_X11_refused]
      · simp only [oc_x, oc_z, ob_s, if_true, if_false, l00, l01, l02, l10, l11, l12, r1, r2, f_X13_refused]
        rfl
    · have c2 := hc.s hk2
      have r2 := isStatue_s (hj.t 0) hc.dn.2.2.1 hk2 (show n 2 < 100 by have := hc.nb.2.2.1; omega)
      refine QQ.mk (-1) 1 (by decide) ?_ ?_
      · simp only [hS.a5, oc_x, oc_z, ob_s, if_true, if_false, l00, l01, l02, l10, l11, l12, c1, c2, f_X11_refused]
      · simp only [oc_x, oc_z, ob_s, if_true, if_false, l00, l01, l02, l10, l11, l12, r1, r2, f_X13_refused]
        rfl
  · have c1 := hc.w hk1
    have r1 := isWay_s (hj.t 0) hc.dn.1 hk1 (show n 0 < 100 by have := hc.nb.1; omega)
    rcases inr x2 (show n 2 < 2147483648 by have := hc.nb.2.2.1; omega) with hx2 | ⟨k2, hk2, rfl⟩
    · have c2 := statueAt_n hc.is hc.cn.2.2.1 hx2
      have r2 := isStatue_n (hj.t 0) hc.dn.2.2.1 hx2
      refine QQ.mk (-1) 1 (by decide) ?_ ?_
      · simp only [hS.a5, oc_x, oc_z, ob_s, if_true, if_false, l00, l01, l02, l10, l11, l12, c1, c2, f_X11_refused]
      · simp only [oc_x, oc_z, ob_s, if_true, if_false, l00, l01, l02, l10, l11, l12, r1, r2, f_X13_refused]
        rfl
    · have c2 := hc.s hk2
      have r2 := isStatue_s (hj.t 0) hc.dn.2.2.1 hk2 (show n 2 < 100 by have := hc.nb.2.2.1; omega)
      rcases slope01 x3 with ⟨h0, -⟩ | h0
      · refine QQ.mk (-1) 2 (by decide) ?_ ?_
        · simp only [hS.a5, oc_x, oc_z, ob_s, if_true, if_false, l00, l01, l02, l10, l11, l12, c1, c2, slope_c, h0, f_X11_granted, f_X11_refused]
        · simp only [oc_x, oc_z, ob_s, if_true, if_false, l00, l01, l02, l10, l11, l12, r1, r2, in_eq, h0, f_X13_done, f_X13_refused]
          rfl
      · have w4 := (EWk hc hk1).1
        have ew := EWk hc hk1
        have es := hc.ce.2.2.1 k2 hk2
        have t10 : k2 < 10 := Nat.lt_of_lt_of_le hk2 hc.nb.2.2.1
        obtain ⟨⟨kd, kd4, hkd⟩, pl, p1, p2, hpl⟩ := hc.vd.1 k1 hk1
        have hn := hands_c (M := C) (a := ic + (9 + k1)) (t := D 7 k2) (s := x3) (ew.2.1.trans hkd) kd4 (ew.2.2.2.trans hpl) p1 p2
        have hr := needBy_r (t := D 7 k2) (s := x3) (hj.t 0) w4 hkd kd4 hpl p1 p2
        refine QQ.mk (needS kd (nI pl) (D 7 k2) x3) 0 (by decide) ?_ ?_
        · simp only [hS.a5, oc_x, oc_z, ob_s, if_true, if_false, l00, l01, l02, l10, l11, l12, c1, c2, slope_c, h0, es.1, hn, f_X11_granted, f_X11_refused]
        · simp only [oc_x, oc_z, ob_s, if_true, if_false, l00, l01, l02, l10, l11, l12, r1, r2, in_eq, h0, (hj.t 0).j, (hj.t 0).s.k15, chk_m t10 (show (10 : Nat) < 2147483648 by decide), ix_n (show k2 < 2147483648 by omega), (hj.t 0).d 7 k2 (by decide), hr, f_X13_done, f_X13_refused]
          rfl
theorem q_minutes {C R : MM} {jo sc ic sp : Nat} (hS : ST C jo sc ic sp) (hI : IR C R ic) (x1 x2 x3 x4 : Int32) : QQ C R (f_X11_minutes C 1 x1 x2 x3 x4) (f_X13_minutes R 118 x1 x2 x3 x4) := by
  unfold f_X11_minutes f_X13_minutes  f_X13_refusesSlope
  rcases hI with ⟨hb, hr⟩ | ⟨j, D, n, hc, hj, hT⟩
  · refine QQ.mk (-1) 1 (by decide) ?_ ?_
    · simp only [hS.a5, oc_x, oc_z, ob_s, if_true, if_false, l00, l01, l02, l10, l11, l12, (bare_n hb _).1, (bare_n hb _).2.2.1, f_X11_refused]
    · simp only [oc_x, oc_z, ob_s, if_true, if_false, l00, l01, l02, l10, l11, l12, (rnone (M := pI R 118 0 0) hr _).1, (rnone (M := pI R 118 0 0) hr _).2.2.1, f_X13_refused]
      rfl
  rcases inr x1 (show n 0 < 2147483648 by have := hc.nb.1; omega) with hx1 | ⟨k1, hk1, rfl⟩
  · have c1 := wayAt_n hc.is hc.cn.1 hx1
    have r1 := isWay_n (hj.t 0) hc.dn.1 hx1
    rcases inr x2 (show n 2 < 2147483648 by have := hc.nb.2.2.1; omega) with hx2 | ⟨k2, hk2, rfl⟩
    · have c2 := statueAt_n hc.is hc.cn.2.2.1 hx2
      have r2 := isStatue_n (hj.t 0) hc.dn.2.2.1 hx2
      refine QQ.mk (-1) 1 (by decide) ?_ ?_
      · simp only [hS.a5, oc_x, oc_z, ob_s, if_true, if_false, l00, l01, l02, l10, l11, l12, c1, c2, f_X11_refused]
      · simp only [oc_x, oc_z, ob_s, if_true, if_false, l00, l01, l02, l10, l11, l12, r1, r2, f_X13_refused]
        rfl
    · have c2 := hc.s hk2
      have r2 := isStatue_s (hj.t 0) hc.dn.2.2.1 hk2 (show n 2 < 100 by have := hc.nb.2.2.1; omega)
      refine QQ.mk (-1) 1 (by decide) ?_ ?_
      · simp only [hS.a5, oc_x, oc_z, ob_s, if_true, if_false, l00, l01, l02, l10, l11, l12, c1, c2, f_X11_refused]
      · simp only [oc_x, oc_z, ob_s, if_true, if_false, l00, l01, l02, l10, l11, l12, r1, r2, f_X13_refused]
        rfl
  · have c1 := hc.w hk1
    have r1 := isWay_s (hj.t 0) hc.dn.1 hk1 (show n 0 < 100 by have := hc.nb.1; omega)
    rcases inr x2 (show n 2 < 2147483648 by have := hc.nb.2.2.1; omega) with hx2 | ⟨k2, hk2, rfl⟩
    · have c2 := statueAt_n hc.is hc.cn.2.2.1 hx2
      have r2 := isStatue_n (hj.t 0) hc.dn.2.2.1 hx2
      refine QQ.mk (-1) 1 (by decide) ?_ ?_
      · simp only [hS.a5, oc_x, oc_z, ob_s, if_true, if_false, l00, l01, l02, l10, l11, l12, c1, c2, f_X11_refused]
      · simp only [oc_x, oc_z, ob_s, if_true, if_false, l00, l01, l02, l10, l11, l12, r1, r2, f_X13_refused]
        rfl
    · have c2 := hc.s hk2
      have r2 := isStatue_s (hj.t 0) hc.dn.2.2.1 hk2 (show n 2 < 100 by have := hc.nb.2.2.1; omega)
      rcases slope01 x3 with ⟨h0, -⟩ | h0
      · refine QQ.mk (-1) 2 (by decide) ?_ ?_
        · simp only [hS.a5, oc_x, oc_z, ob_s, if_true, if_false, l00, l01, l02, l10, l11, l12, c1, c2, slope_c, h0, f_X11_granted, f_X11_refused]
        · simp only [oc_x, oc_z, ob_s, if_true, if_false, l00, l01, l02, l10, l11, l12, r1, r2, in_eq, h0, f_X13_done, f_X13_refused]
          rfl
      · have w4 := (EWk hc hk1).1
        have ew := EWk hc hk1
        have es := hc.ce.2.2.1 k2 hk2
        have t10 : k2 < 10 := Nat.lt_of_lt_of_le hk2 hc.nb.2.2.1
        obtain ⟨⟨kd, kd4, hkd⟩, pl, p1, p2, hpl⟩ := hc.vd.1 k1 hk1
        rcases crowd01 x4 with h4 | ⟨h4, pp, pp1, pp2, rfl⟩
        · refine QQ.mk (-1) 2 (by decide) ?_ ?_
          · simp only [hS.a5, oc_x, oc_z, ob_s, if_true, if_false, l00, l01, l02, l10, l11, l12, c1, c2, slope_c, h0, crowd_c, h4, f_X11_granted, f_X11_refused]
          · simp only [oc_x, oc_z, ob_s, if_true, if_false, l00, l01, l02, l10, l11, l12, r1, r2, in_eq, h0, h4, f_X13_done, f_X13_refused]
            rfl
        · have hq : ¬ nI pp ≤ 0 := nI_nle (by omega) (by omega)
          have hn := duration_c (M := C) (a := ic + (9 + k1)) (t := D 7 k2) (s := x3) (ew.2.1.trans hkd) kd4 (ew.2.2.2.trans hpl) p1 p2 hq
          have hr := needBy_r (t := D 7 k2) (s := x3) (hj.t 0) w4 hkd kd4 hpl p1 p2
          have hr2 := minutesBy_r (nd := needS kd (nI pl) (D 7 k2) x3) (hj.t 0) w4 hkd kd4 hq
          refine QQ.mk (durS kd (needS kd (nI pl) (D 7 k2) x3) (nI pp)) 0 (by decide) ?_ ?_
          · simp only [hS.a5, oc_x, oc_z, ob_s, if_true, if_false, l00, l01, l02, l10, l11, l12, c1, c2, slope_c, h0, crowd_c, h4, es.1, hn, f_X11_granted, f_X11_refused]
          · simp only [oc_x, oc_z, ob_s, if_true, if_false, l00, l01, l02, l10, l11, l12, r1, r2, in_eq, h0, h4, (hj.t 0).j, (hj.t 0).s.k15, chk_m t10 (show (10 : Nat) < 2147483648 by decide), ix_n (show k2 < 2147483648 by omega), (hj.t 0).d 7 k2 (by decide), hr, hr2, f_X13_done, f_X13_refused]
            rfl
theorem q_chance {C R : MM} {jo sc ic sp : Nat} (hS : ST C jo sc ic sp) (hI : IR C R ic) (x1 x2 x3 : Int32) : QQ C R (f_X11_chance C 1 x1 x2 x3) (f_X13_chance R 118 x1 x2 x3) := by
  unfold f_X11_chance f_X13_chance  f_X13_refusesSlope
  rcases hI with ⟨hb, hr⟩ | ⟨j, D, n, hc, hj, hT⟩
  · refine QQ.mk (-1) 1 (by decide) ?_ ?_
    · simp only [hS.a5, oc_x, oc_z, ob_s, if_true, if_false, l00, l01, l02, l10, l11, l12, (bare_n hb _).1, (bare_n hb _).2.2.1, f_X11_refused]
    · simp only [oc_x, oc_z, ob_s, if_true, if_false, l00, l01, l02, l10, l11, l12, (rnone (M := pI R 118 0 0) hr _).1, (rnone (M := pI R 118 0 0) hr _).2.2.1, f_X13_refused]
      rfl
  rcases inr x1 (show n 0 < 2147483648 by have := hc.nb.1; omega) with hx1 | ⟨k1, hk1, rfl⟩
  · have c1 := wayAt_n hc.is hc.cn.1 hx1
    have r1 := isWay_n (hj.t 0) hc.dn.1 hx1
    rcases inr x2 (show n 2 < 2147483648 by have := hc.nb.2.2.1; omega) with hx2 | ⟨k2, hk2, rfl⟩
    · have c2 := statueAt_n hc.is hc.cn.2.2.1 hx2
      have r2 := isStatue_n (hj.t 0) hc.dn.2.2.1 hx2
      refine QQ.mk (-1) 1 (by decide) ?_ ?_
      · simp only [hS.a5, oc_x, oc_z, ob_s, if_true, if_false, l00, l01, l02, l10, l11, l12, c1, c2, f_X11_refused]
      · simp only [oc_x, oc_z, ob_s, if_true, if_false, l00, l01, l02, l10, l11, l12, r1, r2, f_X13_refused]
        rfl
    · have c2 := hc.s hk2
      have r2 := isStatue_s (hj.t 0) hc.dn.2.2.1 hk2 (show n 2 < 100 by have := hc.nb.2.2.1; omega)
      refine QQ.mk (-1) 1 (by decide) ?_ ?_
      · simp only [hS.a5, oc_x, oc_z, ob_s, if_true, if_false, l00, l01, l02, l10, l11, l12, c1, c2, f_X11_refused]
      · simp only [oc_x, oc_z, ob_s, if_true, if_false, l00, l01, l02, l10, l11, l12, r1, r2, f_X13_refused]
        rfl
  · have c1 := hc.w hk1
    have r1 := isWay_s (hj.t 0) hc.dn.1 hk1 (show n 0 < 100 by have := hc.nb.1; omega)
    rcases inr x2 (show n 2 < 2147483648 by have := hc.nb.2.2.1; omega) with hx2 | ⟨k2, hk2, rfl⟩
    · have c2 := statueAt_n hc.is hc.cn.2.2.1 hx2
      have r2 := isStatue_n (hj.t 0) hc.dn.2.2.1 hx2
      refine QQ.mk (-1) 1 (by decide) ?_ ?_
      · simp only [hS.a5, oc_x, oc_z, ob_s, if_true, if_false, l00, l01, l02, l10, l11, l12, c1, c2, f_X11_refused]
      · simp only [oc_x, oc_z, ob_s, if_true, if_false, l00, l01, l02, l10, l11, l12, r1, r2, f_X13_refused]
        rfl
    · have c2 := hc.s hk2
      have r2 := isStatue_s (hj.t 0) hc.dn.2.2.1 hk2 (show n 2 < 100 by have := hc.nb.2.2.1; omega)
      rcases slope01 x3 with ⟨h0, -⟩ | h0
      · refine QQ.mk (-1) 2 (by decide) ?_ ?_
        · simp only [hS.a5, oc_x, oc_z, ob_s, if_true, if_false, l00, l01, l02, l10, l11, l12, c1, c2, slope_c, h0, f_X11_granted, f_X11_refused]
        · simp only [oc_x, oc_z, ob_s, if_true, if_false, l00, l01, l02, l10, l11, l12, r1, r2, in_eq, h0, f_X13_done, f_X13_refused]
          rfl
      · have w4 := (EWk hc hk1).1
        have ew := EWk hc hk1
        have es := hc.ce.2.2.1 k2 hk2
        have t10 : k2 < 10 := Nat.lt_of_lt_of_le hk2 hc.nb.2.2.1
        obtain ⟨⟨kd, kd4, hkd⟩, pl, p1, p2, hpl⟩ := hc.vd.1 k1 hk1
        have hn := risk_c (M := C) (a := ic + (9 + k1)) (e := D 9 k2) (s := x3) (ew.2.1.trans hkd) kd4
        have hr := chanceBy_r (s := x3) (hj.t 0) w4 t10 hkd kd4
        refine QQ.mk (riskS kd (D 9 k2) x3) 0 (by decide) ?_ ?_
        · simp only [hS.a5, oc_x, oc_z, ob_s, if_true, if_false, l00, l01, l02, l10, l11, l12, c1, c2, slope_c, h0, es.2.2.1, hn, f_X11_granted, f_X11_refused]
        · simp only [oc_x, oc_z, ob_s, if_true, if_false, l00, l01, l02, l10, l11, l12, r1, r2, in_eq, h0, hr, f_X13_done, f_X13_refused]
          rfl
theorem q_lying {C R : MM} {jo sc ic sp : Nat} (hS : ST C jo sc ic sp) (hI : IR C R ic) (x1 x2 x3 : Int32) : QQ C R (f_X11_lying C 1 x1 x2 x3) (f_X13_lying R 118 x1 x2 x3) := by
  unfold f_X11_lying f_X13_lying
  rcases hI with ⟨hb, hr⟩ | ⟨j, D, n, hc, hj, hT⟩
  · refine QQ.mk (-1) 1 (by decide) ?_ ?_
    · simp only [hS.a5, oc_x, oc_z, ob_s, if_true, if_false, l00, l01, l02, l10, l11, l12, (bare_n hb _).1, f_X11_refused]
    · simp only [oc_x, oc_z, ob_s, if_true, if_false, l00, l01, l02, l10, l11, l12, (rnone (M := pI R 118 0 0) hr _).1, f_X13_refused]
      rfl
  rcases inr x1 (show n 0 < 2147483648 by have := hc.nb.1; omega) with hx1 | ⟨k1, hk1, rfl⟩
  · have c1 := wayAt_n hc.is hc.cn.1 hx1
    have r1 := isWay_n (hj.t 0) hc.dn.1 hx1
    refine QQ.mk (-1) 1 (by decide) ?_ ?_
    · simp only [hS.a5, oc_x, oc_z, ob_s, if_true, if_false, l00, l01, l02, l10, l11, l12, c1, f_X11_refused]
    · simp only [oc_x, oc_z, ob_s, if_true, if_false, l00, l01, l02, l10, l11, l12, r1, f_X13_refused]
      rfl
  · have c1 := hc.w hk1
    have r1 := isWay_s (hj.t 0) hc.dn.1 hk1 (show n 0 < 100 by have := hc.nb.1; omega)
    have w4 := (EWk hc hk1).1
    have ew := EWk hc hk1
    obtain ⟨⟨kd, kd4, hkd⟩, -⟩ := hc.vd.1 k1 hk1
    rcases lie01 x3 with h3 | ⟨h3, l, hl, rfl⟩
    · refine QQ.mk (-1) 1 (by decide) ?_ ?_
      · simp only [hS.a5, oc_x, oc_z, ob_s, if_true, if_false, l00, l01, l02, l10, l11, l12, c1, lie_c, h3, f_X11_refused]
      · simp only [oc_x, oc_z, ob_s, if_true, if_false, l00, l01, l02, l10, l11, l12, r1, in_eq, h3, f_X13_refused]
        rfl
    · rcases slope01 x2 with ⟨h0, -⟩ | h0
      · refine QQ.mk (-1) 2 (by decide) ?_ ?_
        · simp only [hS.a5, oc_x, oc_z, ob_s, if_true, if_false, l00, l01, l02, l10, l11, l12, c1, lie_c, h3, slope_c, h0, f_X11_refused]
        · simp only [oc_x, oc_z, ob_s, if_true, if_false, l00, l01, l02, l10, l11, l12, r1, in_eq, h3, h0, f_X13_refused]
          rfl
      · have e1 := tenths_c (M := C) (a := ic + (9 + k1)) (s := x2) (ew.2.1.trans hkd) kd4 hl
        have e2 := tenths_r (s := x2) (hj.t 0) w4 hkd kd4 hl
        refine QQ.mk (tenS kd (grd x2) l) 0 (by decide) ?_ ?_
        · simp only [hS.a5, oc_x, oc_z, ob_s, if_true, if_false, l00, l01, l02, l10, l11, l12, c1, lie_c, h3, slope_c, h0, e1, f_X11_granted]
        · simp only [oc_x, oc_z, ob_s, if_true, if_false, l00, l01, l02, l10, l11, l12, r1, in_eq, h3, h0, e2, f_X13_done]
          rfl
theorem bit_or : ∀ k, k < 6 → ∀ b, b < 2 ^ k → nI b ||| ((1 : Int32) <<< (nI k &&& 31)) = nI (b + 2 ^ k) := by
  intro k hk
  have h : ∀ k, k < 6 → ∀ b, b < 32 → b < 2 ^ k → nI b ||| ((1 : Int32) <<< (nI k &&& 31)) = nI (b + 2 ^ k) := by decide +kernel
  intro b hb
  exact h k hk b (Nat.lt_of_lt_of_le hb (Nat.pow_le_pow_right (by decide) (show k ≤ 5 by omega))) hb
theorem all_bits : ∀ h, h < 7 → ((1 : Int32) <<< (nI h &&& 31)) - 1 = nI (2 ^ h - 1) := by decide +kernel
section EASY
variable {C R : MM} {ic j : Nat} {D : DT} {n : Nat → Nat}
theorem pass_l (hc : CI C ic D n) {w t r h : Nat} (hw : w < n 0) (ht : t < n 2) (hr : r < n 1) (hh : D 5 r = nI h) (h6 : h ≤ 6) : ∀ (d k b : Nat) (f : Nat), k + d = h → d < f → b < 2 ^ k → (b = 2 ^ k - 1 ↔ ∀ i, i < k → canS (D 1 w) (D 7 t) (D 8 t) (D 9 t) (D 6 (6 * r + i)) ≠ 0) →
    ∃ v, f_X10_passable_L5 f C (ic + (9 + w)) (ic + (19 + t)) (ic + (13 + 2 * r)) (nI b) (nI k) = some (nI v) ∧ v < 2 ^ h ∧ (v = 2 ^ h - 1 ↔ ∀ i, i < h → canS (D 1 w) (D 7 t) (D 8 t) (D 9 t) (D 6 (6 * r + i)) ≠ 0) := by
  have e1 := (hc.ce.2.1 r hr).2.1
  have ew := (EWk hc hw).2.1
  have es := hc.ce.2.2.1 t ht
  intro d
  induction d with
  | zero =>
    intro k b f hk hf hb hi
    obtain ⟨f, rfl⟩ := suc hf
    have : k = h := by omega
    subst this
    exact ⟨b, by rw [f_X10_passable_L5, e1, hh, if_pos (nI_le (by omega) (by omega))], hb, hi⟩
  | succ d ih =>
    intro k b f hk hf hb hi
    obtain ⟨f, rfl⟩ := suc hf
    rw [f_X10_passable_L5, e1, hh, if_neg (nI_ge (show k < h by omega) (by omega)), slopeC hc hr hh (by omega) h6, ob_s, carries_c, ob_s, ew, es.1, es.2.1, es.2.2.1, nI_1]
    have hp : 0 < 2 ^ k := Nat.two_pow_pos k
    have hq : 2 ^ (k + 1) = 2 ^ k + 2 ^ k := by rw [Nat.pow_succ]; omega
    by_cases hz : canS (D 1 w) (D 7 t) (D 8 t) (D 9 t) (D 6 (6 * r + k)) = 0
    · rw [if_pos hz]
      refine ih (k + 1) b f (by omega) (by omega) (by omega) ⟨fun q => by omega, fun q => absurd hz (q k (by omega))⟩
    · rw [if_neg hz, bit_or k (by omega) b hb]
      refine ih (k + 1) (b + 2 ^ k) f (by omega) (by omega) (by omega) ⟨fun q => ?_, fun q => ?_⟩
      · have := hi.mp (by omega)
        intro i hi2
        by_cases hik : i = k
        · subst hik; exact hz
        · exact this i (by omega)
      · have := hi.mpr (fun i hi2 => q i (by omega))
        omega
theorem along_l (hc : CI C ic D n) (hj : RI R j D) {w t r h kd p : Nat} (hw : w < n 0) (ht : t < n 2) (hr : r < n 1) (hh : D 5 r = nI h) (h6 : h ≤ 6) (hk : D 1 w = nI kd) (kd4 : kd < 4) (hp : D 3 w = nI p) (p1 : 1 ≤ p) (p2 : p ≤ 20) : ∀ (d k : Nat) (m : Int32) (f1 f2 : Nat), k + d = h → d < f1 → d < f2 →
    ∃ v, m ≤ v ∧ f_X10_handsAlong_L5 f1 C (ic + (9 + w)) (D 7 t) (ic + (13 + 2 * r)) m (nI k) = some v ∧
      ((∀ i, k ≤ i → i < h → canS (D 1 w) (D 7 t) (D 8 t) (D 9 t) (D 6 (6 * r + i)) ≠ 0) → f_X13_needAlong_L6 f2 R 118 (nI w) (nI t) (nI r) m (nI k) = some v) ∧
      ((¬ ∀ i, k ≤ i → i < h → canS (D 1 w) (D 7 t) (D 8 t) (D 9 t) (D 6 (6 * r + i)) ≠ 0) → f_X13_needAlong_L6 f2 R 118 (nI w) (nI t) (nI r) m (nI k) = some (-1)) := by
  have e1 := (hc.ce.2.1 r hr).2.1
  have r3 : r < 3 := Nat.lt_of_lt_of_le hr hc.nb.2.1
  have t10 : t < 10 := Nat.lt_of_lt_of_le ht hc.nb.2.2.1
  have w4 := (EWk hc hw).1
  have ew := EWk hc hw
  intro d
  induction d with
  | zero =>
    intro k m f1 f2 hk h1 h2
    obtain ⟨f1, rfl⟩ := suc h1
    obtain ⟨f2, rfl⟩ := suc h2
    refine ⟨m, Int32.le_refl m, ?_, fun _ => ?_, fun q => absurd (fun i h1 h2 => by omega) q⟩
    · rw [f_X10_handsAlong_L5, e1, hh, if_pos (nI_le (by omega) (by omega))]
    · rw [f_X13_needAlong_L6, hj.j, oc_x, hj.s.k13, oc_x, chk_n r3 (by decide), ix_n (by omega), hj.d 5 r (by decide), hh, if_pos (nI_le (by omega) (by omega))]
  | succ d ih =>
    intro k m f1 f2 hk2 h1 h2
    obtain ⟨f1, rfl⟩ := suc h1
    obtain ⟨f2, rfl⟩ := suc h2
    rw [f_X10_handsAlong_L5, e1, hh, if_neg (nI_ge (show k < h by omega) (by omega)), slopeC hc hr hh (by omega) h6, ob_s, hands_c (ew.2.1.trans hk) kd4 (ew.2.2.2.trans hp) p1 p2, ob_s, nI_1]
    rw [f_X13_needAlong_L6, hj.j, oc_x, hj.s.k13, oc_x, chk_n r3 (by decide), ix_n (show r < 2147483648 by omega), hj.d 5 r (by decide), hh, if_neg (nI_ge (show k < h by omega) (by omega)), oc_x, slopeAt_r hj r3 (by omega), ob_s, canBy_r hj w4 t10, ob_s, oc_x, hj.s.k15, oc_x, chk_n t10 (by decide), ix_n (show t < 2147483648 by omega), hj.d 7 t (by decide), needBy_r hj w4 hk kd4 hp p1 p2, ob_s, nI_1]
    generalize needS kd (nI p) (D 7 t) (D 6 (6 * r + k)) = z
    have key : ∃ m', m ≤ m' ∧ (if m < z then z else m) = m' ∧ (∀ (A : Int32 → Option Int32), (if z ≤ m then A m else A z) = A m') := by
      by_cases hz : m < z
      · exact ⟨z, Int32.le_of_lt hz, if_pos hz, fun A => if_neg (Int32.not_le.mpr hz)⟩
      · exact ⟨m, Int32.le_refl m, if_neg hz, fun A => if_pos (i32_le hz)⟩
    obtain ⟨m', hm, em, eA⟩ := key
    rw [em, eA (fun x => f_X13_needAlong_L6 f2 R 118 (nI w) (nI t) (nI r) x (nI (k + 1)))]
    obtain ⟨v, hv, hv1, hv2, hv3⟩ := ih (k + 1) m' f1 f2 (by omega) (by omega) (by omega)
    refine ⟨v, Int32.le_trans hm hv, hv1, fun q => ?_, fun q => ?_⟩
    · rw [if_neg (q k (Nat.le_refl k) (by omega))]
      exact hv2 (fun i h1 h2 => q i (by omega) h2)
    · by_cases hz : canS (D 1 w) (D 7 t) (D 8 t) (D 9 t) (D 6 (6 * r + k)) = 0
      · rw [if_pos hz]
      · rw [if_neg hz]
        refine hv3 (fun q2 => q (fun i h1 h2 => ?_))
        by_cases hik : i = k
        · subst hik; exact hz
        · exact q2 i (by omega) h2
theorem m2_nI {k : Nat} (h : k < 2 ^ 31) : ¬ nI k = (-2 : Int32) := by
  intro q
  have := congrArg Int32.toInt q
  rw [nI_toInt h] at this
  have e : (-2 : Int32).toInt = -2 := by decide
  omega
theorem m1_nI {k : Nat} (h : k < 2 ^ 31) : ¬ nI k = (-1 : Int32) := by
  intro q
  have := congrArg Int32.toInt q
  rw [nI_toInt h] at this
  have e : (-1 : Int32).toInt = -1 := by decide
  omega
theorem easy_l (hc : CI C ic D n) (hj : RI R j D) {t r h : Nat} (ht : t < n 2) (hr : r < n 1) (hh : D 5 r = nI h) (h6 : h ≤ 6) : ∀ (d w : Nat) (best few : Int32) (f1 f2 : Nat), w + d = n 0 → d < f1 → d < f2 →
    ∃ v, f_X0_easiestWay_L19 f1 C ic (ic + (19 + t)) (ic + (13 + 2 * r)) (nI (2 ^ h - 1)) best few (nI w) = some v ∧ f_X13_easiest_L36 f2 R 118 (nI t) (nI r) best few (nI w) = some (v, pI (pI R 118 1 0) 118 2 (-1)) := by
  have e1 := (hc.ce.2.1 r hr).2.1
  have es := hc.ce.2.2.1 t ht
  have n4 := hc.nb.1
  intro d
  induction d with
  | zero =>
    intro w best few f1 f2 hk h1 h2
    obtain ⟨f1, rfl⟩ := suc h1
    obtain ⟨f2, rfl⟩ := suc h2
    refine ⟨best, ?_, ?_⟩
    · rw [f_X0_easiestWay_L19, hc.c0, ob_s, if_pos (nI_le (by omega) (by omega))]
    · rw [f_X13_easiest_L36, hj.j, oc_x, hj.d0, hc.dn.1, if_pos (nI_le (by omega) (by omega)), f_X13_done, ob_s]
  | succ d ih =>
    intro w best few f1 f2 hk2 h1 h2
    obtain ⟨f1, rfl⟩ := suc h1
    obtain ⟨f2, rfl⟩ := suc h2
    have hw : w < n 0 := by omega
    obtain ⟨⟨kd, kd4, hkd⟩, pl, p1, p2, hpl⟩ := hc.vd.1 w hw
    obtain ⟨v, hv1, hv2, hv3⟩ := pass_l hc hw ht hr hh h6 h 0 0 FU (by omega) (fu (by omega)) (by decide) ⟨fun _ i hi => absurd hi (by omega), fun _ => rfl⟩
    obtain ⟨z, hz0, hz1, hz2, hz3⟩ := along_l hc hj hw ht hr hh h6 hkd kd4 hpl p1 p2 h 0 0 FU FU (by omega) (fu (by omega)) (fu (by omega))
    have hp : 2 ^ h ≤ 2 ^ 6 := Nat.pow_le_pow_right (by decide) h6
    rw [f_X0_easiestWay_L19, hc.c0, ob_s, if_neg (nI_ge hw (by omega)), hc.w hw, ob_s, oc_x, f_X10_passable]
    rw [show f_X10_passable_L5 FU C (ic + (9 + w)) (ic + (19 + t)) (ic + (13 + 2 * r)) 0 0 = some (nI v) from hv1, ob_s, es.1, f_X10_handsAlong]
    rw [show f_X10_handsAlong_L5 FU C (ic + (9 + w)) (D 7 t) (ic + (13 + 2 * r)) 0 0 = some z from hz1, ob_s]
    rw [f_X13_easiest_L36, hj.j, oc_x, hj.d0, hc.dn.1, if_neg (nI_ge hw (by omega)), f_X13_needAlong, nI_1, ite_le]
    by_cases hall : ∀ i, 0 ≤ i → i < h → canS (D 1 w) (D 7 t) (D 8 t) (D 9 t) (D 6 (6 * r + i)) ≠ 0
    · have hv : v = 2 ^ h - 1 := hv3.mpr (fun i hi => hall i (Nat.zero_le i) hi)
      have hz1' : ¬ z = -1 := fun q => by rw [q] at hz0; exact absurd hz0 (by decide)
      rw [if_pos (by rw [hv]), show f_X13_needAlong_L6 FU R 118 (nI w) (nI t) (nI r) 0 0 = some z from hz2 hall, ob_s, if_neg hz1']
      by_cases hb : best = -2
      · rw [if_pos hb, if_pos hb]
        exact ih (w + 1) _ _ f1 f2 (by omega) (by omega) (by omega)
      · rw [if_neg hb, if_neg hb]
        by_cases hl : z < few
        · rw [if_pos hl, if_pos hl]
          exact ih (w + 1) _ _ f1 f2 (by omega) (by omega) (by omega)
        · rw [if_neg hl, if_neg hl]
          exact ih (w + 1) _ _ f1 f2 (by omega) (by omega) (by omega)
    · have hv : ¬ nI v = nI (2 ^ h - 1) := fun q => hall (fun i _ hi => hv3.mp ((nI_eq (by omega) (by omega)).mp q) i hi)
      rw [if_neg hv, show f_X13_needAlong_L6 FU R 118 (nI w) (nI t) (nI r) 0 0 = some (-1) from hz3 hall, ob_s, if_pos rfl]
      exact ih (w + 1) _ _ f1 f2 (by omega) (by omega) (by omega)
end EASY
theorem q_easiest {C R : MM} {jo sc ic sp : Nat} (hS : ST C jo sc ic sp) (hI : IR C R ic) (x1 x2 : Int32) : QQ C R (f_X11_easiest C 1 x1 x2) (f_X13_easiest R 118 x1 x2) := by
  unfold f_X11_easiest f_X13_easiest  
  rcases hI with ⟨hb, hr⟩ | ⟨j, D, n, hc, hj, hT⟩
  · refine QQ.mk (-1) 1 (by decide) ?_ ?_
    · simp only [hS.a5, oc_x, oc_z, ob_s, if_true, if_false, l00, l01, l02, l10, l11, l12, (bare_n hb _).2.2.1, (bare_n hb _).2.1, f_X11_refused]
    · simp only [oc_x, oc_z, ob_s, if_true, if_false, l00, l01, l02, l10, l11, l12, (rnone (M := pI R 118 0 0) hr _).2.2.1, (rnone (M := pI R 118 0 0) hr _).2.1, f_X13_refused]
      rfl
  rcases inr x1 (show n 2 < 2147483648 by have := hc.nb.2.2.1; omega) with hx1 | ⟨k1, hk1, rfl⟩
  · have c1 := statueAt_n hc.is hc.cn.2.2.1 hx1
    have r1 := isStatue_n (hj.t 0) hc.dn.2.2.1 hx1
    rcases inr x2 (show n 1 < 2147483648 by have := hc.nb.2.1; omega) with hx2 | ⟨k2, hk2, rfl⟩
    · have c2 := roadAt_n hc.is hc.cn.2.1 hx2
      have r2 := isRoad_n (hj.t 0) hc.dn.2.1 hx2
      refine QQ.mk (-1) 1 (by decide) ?_ ?_
      · simp only [hS.a5, oc_x, oc_z, ob_s, if_true, if_false, l00, l01, l02, l10, l11, l12, c1, c2, f_X11_refused]
      · simp only [oc_x, oc_z, ob_s, if_true, if_false, l00, l01, l02, l10, l11, l12, r1, r2, f_X13_refused]
        rfl
    · have c2 := hc.r hk2
      have r2 := isRoad_s (hj.t 0) hc.dn.2.1 hk2 (show n 1 < 100 by have := hc.nb.2.1; omega)
      refine QQ.mk (-1) 1 (by decide) ?_ ?_
      · simp only [hS.a5, oc_x, oc_z, ob_s, if_true, if_false, l00, l01, l02, l10, l11, l12, c1, c2, f_X11_refused]
      · simp only [oc_x, oc_z, ob_s, if_true, if_false, l00, l01, l02, l10, l11, l12, r1, r2, f_X13_refused]
        rfl
  · have c1 := hc.s hk1
    have r1 := isStatue_s (hj.t 0) hc.dn.2.2.1 hk1 (show n 2 < 100 by have := hc.nb.2.2.1; omega)
    rcases inr x2 (show n 1 < 2147483648 by have := hc.nb.2.1; omega) with hx2 | ⟨k2, hk2, rfl⟩
    · have c2 := roadAt_n hc.is hc.cn.2.1 hx2
      have r2 := isRoad_n (hj.t 0) hc.dn.2.1 hx2
      refine QQ.mk (-1) 1 (by decide) ?_ ?_
      · simp only [hS.a5, oc_x, oc_z, ob_s, if_true, if_false, l00, l01, l02, l10, l11, l12, c1, c2, f_X11_refused]
      · simp only [oc_x, oc_z, ob_s, if_true, if_false, l00, l01, l02, l10, l11, l12, r1, r2, f_X13_refused]
        rfl
    · have c2 := hc.r hk2
      have r2 := isRoad_s (hj.t 0) hc.dn.2.1 hk2 (show n 1 < 100 by have := hc.nb.2.1; omega)
      obtain ⟨h, h1, h6, hh⟩ := hc.vd.2.1 k2 hk2
      have e1 := (hc.ce.2.1 k2 hk2).2.1
      obtain ⟨v, hv1, hv2⟩ := easy_l hc (hj.t 0) hk1 hk2 hh h6 (n 0) 0 (-2) 0 FU FU (by omega) (fu (by have := hc.nb.1; omega)) (fu (by have := hc.nb.1; omega))
      refine QQ.mk v 0 (by decide) ?_ ?_
      · simp only [hS.a5, oc_x, oc_z, ob_s, if_true, if_false, l00, l01, l02, l10, l11, l12, c1, c2, f_X0_easiestWay, e1, hh, all_bits h (by omega), f_X11_granted]
        rw [show f_X0_easiestWay_L19 FU C ic (ic + (19 + k1)) (ic + (13 + 2 * k2)) (nI (2 ^ h - 1)) (-2) 0 0 = some v from hv1, ob_s]
      · simp only [oc_x, oc_z, ob_s, if_true, if_false, l00, l01, l02, l10, l11, l12, r1, r2]
        exact hv2
