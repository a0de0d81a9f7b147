/-! WHICH WAY: the calls -/
theorem put1 {C : MM} {ic : Nat} {D : DT} {n : Nat → Nat} (h : CI C ic D n) (hi : 14 ≤ ic) (k : Nat) (v : Int32) : CI (pI C 1 k v) ic D n := h.congr (fun a k h => gI_pIa (by omega)) rfl hi
/-- as QQ, of a long -/
def QL (C R : MM) (x y : Option (Int64 × MM)) : Prop := ∃ r tr, tr ≠ 4 ∧ x = some (r, pI C 1 7 tr) ∧ y = some (r, rM R tr)
theorem QL.top {C R : MM} {x y : Option (Int64 × MM)} (h : QL C R x y) (hT : TOP C R) : ∃ r C' R', x = some (r, C') ∧ y = some (r, R') ∧ TOP C' R' := by
  obtain ⟨r, tr, h4, hx, hy⟩ := h
  exact ⟨r, _, _, hx, hy, hT.done tr h4⟩
theorem q_odds {C R : MM} {jo sc ic sp : Nat} (hS : ST C jo sc ic sp) (hI : IR C R ic) (x1 : Int32) : QL C R (f_X11_odds C 1 x1) (f_X13_odds R 118 x1) := by
  unfold f_X11_odds f_X13_odds
  rcases hI with ⟨hb, hr⟩ | ⟨j, D, n, hc, hj, hT⟩
  · refine ⟨(-1 : Int32).toInt64, 1, by decide, ?_, ?_⟩
    · simp only [hS.a5, oc_x, oc_z, ob_s, if_true, if_false, l00, l01, l02, l10, l11, l12, bare_b hb, f_X11_refused]
    · rw [show gR (pI R 118 0 0) 118 3 = none from hr, oc_z, f_X13_refused, ob_s]
      rfl
  have hi := (ic14 hS).1
  have n4 := hc.nb.1
  by_cases hx : x1 = -1
  · obtain ⟨v, hv1, hv2⟩ := all_l (put1 hc hi 7 0) (((hj.t 0).put (a := 118) (k := 1) (v := 0) (by decide)).put (a := 118) (k := 2) (v := -1) (by decide)) (n 0) 0 0 FU FU (by omega) (fu (by omega)) (fu (by omega))
    refine ⟨v, 0, by decide, ?_, ?_⟩
    · simp only [hS.a5, oc_x, oc_z, ob_s, if_true, if_false, l00, l01, l02, l10, l11, l12, live_b hc, if_pos hx, f_X0_oddsOfAll]
      rw [show gR (pI C 1 7 0) 1 5 = some ic from hS.a5, oc_x, show f_X0_oddsOfAll_L4 FU (pI C 1 7 0) ic 0 0 = some v from hv1, ob_s]
    · rw [(hj.t 0).j, oc_x, if_pos hx, f_X13_done, ob_s, if_pos hx]
      exact hv2
  · rcases inr x1 (show n 0 < 2147483648 by omega) with h1 | ⟨k, hk, rfl⟩
    · refine ⟨(-1 : Int32).toInt64, 1, by decide, ?_, ?_⟩
      · simp only [hS.a5, oc_x, oc_z, ob_s, if_true, if_false, l00, l01, l02, l10, l11, l12, live_b hc, if_neg hx, has0_n hc.is hc.cn.1 h1, f_X11_refused]
      · rw [(hj.t 0).j, oc_x, if_neg hx, isWay_n (hj.t 0) hc.dn.1 h1, ob_s, if_pos rfl, f_X13_refused, ob_s]
        rfl
    · obtain ⟨v, hv1, -⟩ := odds_p (put1 hc hi 7 0) hj hk (-1)
      obtain ⟨v2, hv3, hv2⟩ := odds_p (put1 hc hi 7 0) (((hj.t 0).put (a := 118) (k := 1) (v := 0) (by decide)).put (a := 118) (k := 2) (v := -1) (by decide)) hk (-1)
      obtain rfl : v = v2 := Option.some.inj (hv1.symm.trans hv3)
      refine ⟨v, 0, by decide, ?_, ?_⟩
      · simp only [hS.a5, oc_x, oc_z, ob_s, if_true, if_false, l00, l01, l02, l10, l11, l12, live_b hc, if_neg hx, has0_s hc.is hc.cn.1 (show n 0 < 100 by omega) hk]
        rw [show gR (pI C 1 7 0) 1 5 = some ic from hS.a5, oc_x, hv1, ob_s]
      · rw [(hj.t 0).j, oc_x, if_neg hx, isWay_s (hj.t 0) hc.dn.1 hk (by omega), ob_s, if_neg (show ¬ (1 : Int32) = 0 by decide), f_X13_done, ob_s, if_neg hx, hv2, ob_s]
        rfl
theorem q_likeliest {C R : MM} {jo sc ic sp : Nat} (hS : ST C jo sc ic sp) (hI : IR C R ic) : QQ C R (f_X11_likeliest C 1) (f_X13_likeliest R 118) := by
  unfold f_X11_likeliest f_X13_likeliest
  rcases hI with ⟨hb, hr⟩ | ⟨j, D, n, hc, hj, hT⟩
  · refine QQ.mk (-1) 1 (by decide) ?_ ?_
    · simp only [hS.a5, oc_x, oc_z, ob_s, if_true, if_false, l00, l01, l02, l10, l11, l12, bare_b hb, f_X11_refused]
    · rw [show gR (pI R 118 0 0) 118 3 = none from hr, oc_z]
      simp only [oc_x, oc_z, ob_s, if_true, if_false, l00, l01, l02, l10, l11, l12, f_X13_refused]
      rfl
  obtain ⟨v, hv, e1, e2⟩ := like_p hc (hj.t 0) (-1)
  refine QQ.mk (nI v) 0 (by decide) ?_ ?_
  · simp only [hS.a5, oc_x, oc_z, ob_s, if_true, if_false, l00, l01, l02, l10, l11, l12, live_b hc, e1, f_X11_granted]
  · rw [(hj.t 0).j, oc_x, e2]
    rfl
theorem q_hangs {C R : MM} {jo sc ic sp : Nat} (hS : ST C jo sc ic sp) (hI : IR C R ic) : QQ C R (f_X11_hangs C 1) (f_X13_hangs R 118) := by
  unfold f_X11_hangs f_X13_hangs
  rcases hI with ⟨hb, hr⟩ | ⟨j, D, n, hc, hj, hT⟩
  · refine QQ.mk (-1) 1 (by decide) ?_ ?_
    · simp only [hS.a5, oc_x, oc_z, ob_s, if_true, if_false, l00, l01, l02, l10, l11, l12, bare_b hb, f_X11_refused]
    · rw [show gR (pI R 118 0 0) 118 3 = none from hr, oc_z]
      simp only [oc_x, oc_z, ob_s, if_true, if_false, l00, l01, l02, l10, l11, l12, f_X13_refused]
      rfl
  have n10 := hc.nb.2.2.1
  obtain ⟨b, hb, e1, e2⟩ := like_p hc (hj.t 0) (-1)
  obtain ⟨v, e3, e4⟩ := hang_l hc (hj.t 0) b hb (n 2) 0 FU FU (by omega) (fu (by omega)) (fu (by omega))
  refine QQ.mk v 0 (by decide) ?_ ?_
  · simp only [hS.a5, oc_x, oc_z, ob_s, if_true, if_false, l00, l01, l02, l10, l11, l12, live_b hc, f_X0_decidingStatue, e1, f_X11_granted]
    rw [show f_X0_decidingStatue_L8 FU C ic (nI b) 0 = some v from e3, ob_s]
  · rw [(hj.t 0).j, oc_x, e2, ob_s]
    exact e4
theorem q_changed {C R : MM} {jo sc ic sp : Nat} (hS : ST C jo sc ic sp) (hI : IR C R ic) : QQ C R (f_X11_changed C 1) (f_X13_changed R 118) := by
  unfold f_X11_changed f_X13_changed
  rcases hI with ⟨hb, hr⟩ | ⟨j, D, n, hc, hj, hT⟩
  · refine QQ.mk (-1000) 1 (by decide) ?_ ?_
    · simp only [hS.a5, oc_x, oc_z, ob_s, if_true, if_false, l00, l01, l02, l10, l11, l12, bare_b hb, f_X11_unknown]
    · rw [show gR (pI R 118 0 0) 118 3 = none from hr, oc_z]
      simp only [oc_x, oc_z, ob_s, if_true, if_false, l00, l01, l02, l10, l11, l12, f_X13_lost, f_X13_refused]
      rfl
  obtain ⟨v, a, b, e1, e2, e3, e4⟩ := lean_p hc (hj.t 0) (-1)
  rcases e4 with ⟨rfl, h | ⟨h, h2⟩⟩ | ⟨h, rfl, h2, h3⟩
  · refine QQ.mk (-1000) 6 (by decide) ?_ ?_
    · simp only [hS.a5, oc_x, oc_z, ob_s, if_true, if_false, l00, l01, l02, l10, l11, l12, live_b hc, e1, f_X11_unknown]
    · rw [(hj.t 0).j, oc_x, e2, ob_s, e3, ob_s, if_pos h]
      rfl
  · refine QQ.mk (-1000) 6 (by decide) ?_ ?_
    · simp only [hS.a5, oc_x, oc_z, ob_s, if_true, if_false, l00, l01, l02, l10, l11, l12, live_b hc, e1, f_X11_unknown]
    · rw [(hj.t 0).j, oc_x, e2, ob_s, e3, ob_s, if_neg h, if_neg h2]
      rfl
  · refine QQ.mk (a - b) 0 (by decide) ?_ ?_
    · simp only [hS.a5, oc_x, oc_z, ob_s, if_true, if_false, l00, l01, l02, l10, l11, l12, live_b hc, e1, if_neg h, f_X11_granted]
    · rw [(hj.t 0).j, oc_x, e2, ob_s, e3, ob_s, if_neg h2, if_pos h3]
      rfl
theorem q_lies {C R : MM} {jo sc ic sp : Nat} (hS : ST C jo sc ic sp) (hI : IR C R ic) (x1 x2 : Int32) : QQ C R (f_X11_lies C 1 x1 x2) (f_X13_lies R 118 x1 x2) := by
  unfold f_X11_lies f_X13_lies  
  rcases hI with ⟨hb, hr⟩ | ⟨j, D, n, hc, hj, hT⟩
  · refine QQ.mk (-1) 1 (by decide) ?_ ?_
    · simp only [hS.a5, oc_x, oc_z, ob_s, if_true, if_false, l00, l01, l02, l10, l11, l12, (bare_n hb _).1, (bare_n hb _).2.2.1, f_X11_refused]
    · simp only [oc_x, oc_z, ob_s, if_true, if_false, l00, l01, l02, l10, l11, l12, (rnone (M := pI R 118 0 0) hr _).1, (rnone (M := pI R 118 0 0) hr _).2.2.1, f_X13_refused]
      rfl
  rcases inr x1 (show n 0 < 2147483648 by have := hc.nb.1; omega) with hx1 | ⟨k1, hk1, rfl⟩
  · have c1 := wayAt_n hc.is hc.cn.1 hx1
    have r1 := isWay_n (hj.t 0) hc.dn.1 hx1
    rcases inr x2 (show n 2 < 2147483648 by have := hc.nb.2.2.1; omega) with hx2 | ⟨k2, hk2, rfl⟩
    · have c2 := statueAt_n hc.is hc.cn.2.2.1 hx2
      have r2 := isStatue_n (hj.t 0) hc.dn.2.2.1 hx2
      refine QQ.mk (-1) 1 (by decide) ?_ ?_
      · simp only [hS.a5, oc_x, oc_z, ob_s, if_true, if_false, l00, l01, l02, l10, l11, l12, c1, c2, f_X11_refused]
      · simp only [oc_x, oc_z, ob_s, if_true, if_false, l00, l01, l02, l10, l11, l12, r1, r2, f_X13_refused]
        rfl
    · have c2 := hc.s hk2
      have r2 := isStatue_s (hj.t 0) hc.dn.2.2.1 hk2 (show n 2 < 100 by have := hc.nb.2.2.1; omega)
      refine QQ.mk (-1) 1 (by decide) ?_ ?_
      · simp only [hS.a5, oc_x, oc_z, ob_s, if_true, if_false, l00, l01, l02, l10, l11, l12, c1, c2, f_X11_refused]
      · simp only [oc_x, oc_z, ob_s, if_true, if_false, l00, l01, l02, l10, l11, l12, r1, r2, f_X13_refused]
        rfl
  · have c1 := hc.w hk1
    have r1 := isWay_s (hj.t 0) hc.dn.1 hk1 (show n 0 < 100 by have := hc.nb.1; omega)
    rcases inr x2 (show n 2 < 2147483648 by have := hc.nb.2.2.1; omega) with hx2 | ⟨k2, hk2, rfl⟩
    · have c2 := statueAt_n hc.is hc.cn.2.2.1 hx2
      have r2 := isStatue_n (hj.t 0) hc.dn.2.2.1 hx2
      refine QQ.mk (-1) 1 (by decide) ?_ ?_
      · simp only [hS.a5, oc_x, oc_z, ob_s, if_true, if_false, l00, l01, l02, l10, l11, l12, c1, c2, f_X11_refused]
      · simp only [oc_x, oc_z, ob_s, if_true, if_false, l00, l01, l02, l10, l11, l12, r1, r2, f_X13_refused]
        rfl
    · have c2 := hc.s hk2
      have r2 := isStatue_s (hj.t 0) hc.dn.2.2.1 hk2 (show n 2 < 100 by have := hc.nb.2.2.1; omega)
      have es := hc.ce.2.2.1 k2 hk2
      have t10 : k2 < 10 := Nat.lt_of_lt_of_le hk2 hc.nb.2.2.1
      have en := hj.d 10 k2 (by decide)
      by_cases h5 : D 10 k2 = 5
      · obtain ⟨v, e1, e2⟩ := lies_p hc (hj.t 0) hk1 hk2 h5
        refine QQ.mk v 0 (by decide) ?_ ?_
        · simp only [hS.a5, oc_x, oc_z, ob_s, if_true, if_false, l00, l01, l02, l10, l11, l12, c1, c2, isLying_c, es.2.2.2.1, if_pos h5, e1, f_X11_granted]
        · simp only [oc_x, oc_z, ob_s, if_true, if_false, l00, l01, l02, l10, l11, l12, r1, r2, (hj.t 0).j, (hj.t 0).s.k18, chk_m t10 (show (10 : Nat) < 2147483648 by decide), ix_n (show k2 < 2147483648 by omega), sort_r (hj.t 0) t10, if_pos h5, e2, f_X13_done]
          rfl
      · refine QQ.mk (-1) 1 (by decide) ?_ ?_
        · simp only [hS.a5, oc_x, oc_z, ob_s, if_true, if_false, l00, l01, l02, l10, l11, l12, c1, c2, isLying_c, es.2.2.2.1, if_neg h5, f_X11_refused]
        · simp only [oc_x, oc_z, ob_s, if_true, if_false, l00, l01, l02, l10, l11, l12, r1, r2, (hj.t 0).j, (hj.t 0).s.k18, chk_m t10 (show (10 : Nat) < 2147483648 by decide), ix_n (show k2 < 2147483648 by omega), sort_r (hj.t 0) t10, if_neg h5, f_X13_refused]
          rfl
theorem q_hollow {C R : MM} {jo sc ic sp : Nat} (hS : ST C jo sc ic sp) (hI : IR C R ic) (x1 x2 : Int32) : QQ C R (f_X11_hollow C 1 x1 x2) (f_X13_hollow R 118 x1 x2) := by
  unfold f_X11_hollow f_X13_hollow  
  rcases hI with ⟨hb, hr⟩ | ⟨j, D, n, hc, hj, hT⟩
  · refine QQ.mk (-1) 1 (by decide) ?_ ?_
    · simp only [hS.a5, oc_x, oc_z, ob_s, if_true, if_false, l00, l01, l02, l10, l11, l12, (bare_n hb _).1, (bare_n hb _).2.1, f_X11_refused]
    · simp only [oc_x, oc_z, ob_s, if_true, if_false, l00, l01, l02, l10, l11, l12, (rnone (M := pI R 118 0 0) hr _).1, (rnone (M := pI R 118 0 0) hr _).2.1, f_X13_refused]
      rfl
  rcases inr x1 (show n 0 < 2147483648 by have := hc.nb.1; omega) with hx1 | ⟨k1, hk1, rfl⟩
  · have c1 := wayAt_n hc.is hc.cn.1 hx1
    have r1 := isWay_n (hj.t 0) hc.dn.1 hx1
    rcases inr x2 (show n 1 < 2147483648 by have := hc.nb.2.1; omega) with hx2 | ⟨k2, hk2, rfl⟩
    · have c2 := roadAt_n hc.is hc.cn.2.1 hx2
      have r2 := isRoad_n (hj.t 0) hc.dn.2.1 hx2
      refine QQ.mk (-1) 1 (by decide) ?_ ?_
      · simp only [hS.a5, oc_x, oc_z, ob_s, if_true, if_false, l00, l01, l02, l10, l11, l12, c1, c2, f_X11_refused]
      · simp only [oc_x, oc_z, ob_s, if_true, if_false, l00, l01, l02, l10, l11, l12, r1, r2, f_X13_refused]
        rfl
    · have c2 := hc.r hk2
      have r2 := isRoad_s (hj.t 0) hc.dn.2.1 hk2 (show n 1 < 100 by have := hc.nb.2.1; omega)
      refine QQ.mk (-1) 1 (by decide) ?_ ?_
      · simp only [hS.a5, oc_x, oc_z, ob_s, if_true, if_false, l00, l01, l02, l10, l11, l12, c1, c2, f_X11_refused]
      · simp only [oc_x, oc_z, ob_s, if_true, if_false, l00, l01, l02, l10, l11, l12, r1, r2, f_X13_refused]
        rfl
  · have c1 := hc.w hk1
    have r1 := isWay_s (hj.t 0) hc.dn.1 hk1 (show n 0 < 100 by have := hc.nb.1; omega)
    rcases inr x2 (show n 1 < 2147483648 by have := hc.nb.2.1; omega) with hx2 | ⟨k2, hk2, rfl⟩
    · have c2 := roadAt_n hc.is hc.cn.2.1 hx2
      have r2 := isRoad_n (hj.t 0) hc.dn.2.1 hx2
      refine QQ.mk (-1) 1 (by decide) ?_ ?_
      · simp only [hS.a5, oc_x, oc_z, ob_s, if_true, if_false, l00, l01, l02, l10, l11, l12, c1, c2, f_X11_refused]
      · simp only [oc_x, oc_z, ob_s, if_true, if_false, l00, l01, l02, l10, l11, l12, r1, r2, f_X13_refused]
        rfl
    · have c2 := hc.r hk2
      have r2 := isRoad_s (hj.t 0) hc.dn.2.1 hk2 (show n 1 < 100 by have := hc.nb.2.1; omega)
      have er := hc.ce.2.1 k2 hk2
      have ew := EWk hc hk1
      have r3 : k2 < 3 := Nat.lt_of_lt_of_le hk2 hc.nb.2.1
      obtain ⟨⟨kd, kd4, hkd⟩, -⟩ := hc.vd.1 k1 hk1
      have e1 := hollowed_c (M := C) (x := D 4 k2) (ew.2.1.trans hkd) kd4
      have e2 := hollowOf_r (hj.t 0) ew.1 r3 hkd kd4
      refine QQ.mk (holS kd (D 4 k2)) 0 (by decide) ?_ ?_
      · simp only [hS.a5, oc_x, oc_z, ob_s, if_true, if_false, l00, l01, l02, l10, l11, l12, c1, c2, er.1, e1, f_X11_granted]
      · simp only [oc_x, oc_z, ob_s, if_true, if_false, l00, l01, l02, l10, l11, l12, r1, r2, e2, f_X13_done]
        rfl
theorem q_shape {C R : MM} {jo sc ic sp : Nat} (hS : ST C jo sc ic sp) (hI : IR C R ic) (x1 : Int32) : QQ C R (f_X11_shape C 1 x1) (f_X13_shape R 118 x1) := by
  unfold f_X11_shape f_X13_shape  
  rcases hI with ⟨hb, hr⟩ | ⟨j, D, n, hc, hj, hT⟩
  · refine QQ.mk (-1) 1 (by decide) ?_ ?_
    · simp only [hS.a5, oc_x, oc_z, ob_s, if_true, if_false, l00, l01, l02, l10, l11, l12, (bare_n hb _).1, f_X11_refused]
    · simp only [oc_x, oc_z, ob_s, if_true, if_false, l00, l01, l02, l10, l11, l12, (rnone (M := pI R 118 0 0) hr _).1, f_X13_refused]
      rfl
  rcases inr x1 (show n 0 < 2147483648 by have := hc.nb.1; omega) with hx1 | ⟨k1, hk1, rfl⟩
  · have c1 := wayAt_n hc.is hc.cn.1 hx1
    have r1 := isWay_n (hj.t 0) hc.dn.1 hx1
    refine QQ.mk (-1) 1 (by decide) ?_ ?_
    · simp only [hS.a5, oc_x, oc_z, ob_s, if_true, if_false, l00, l01, l02, l10, l11, l12, c1, f_X11_refused]
    · simp only [oc_x, oc_z, ob_s, if_true, if_false, l00, l01, l02, l10, l11, l12, r1, f_X13_refused]
      rfl
  · have c1 := hc.w hk1
    have r1 := isWay_s (hj.t 0) hc.dn.1 hk1 (show n 0 < 100 by have := hc.nb.1; omega)
    obtain ⟨lc, v, e1, e2, e3⟩ := shape_p hc (hj.t 0) hk1 (-1)
    refine QQ.mk v 0 (by decide) ?_ ?_
    · simp only [hS.a5, oc_x, oc_z, ob_s, if_true, if_false, l00, l01, l02, l10, l11, l12, c1, e1, e2, f_X11_granted]
    · simp only [oc_x, oc_z, ob_s, if_true, if_false, l00, l01, l02, l10, l11, l12, r1, e3, f_X13_done]
      rfl
