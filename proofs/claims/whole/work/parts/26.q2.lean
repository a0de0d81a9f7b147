/-! WHICH WAY -/
section ODDS
variable {C R : MM} {ic j : Nat} {D : DT} {n : Nat → Nat}
theorem isLying_c (M : MM) (a : Nat) : f_X5_isLying M a = some (if gI M a 3 = 5 then 1 else 0) := by
  unfold f_X5_isLying
  split <;> rfl
theorem sort_r (hj : RI R j D) {t : Nat} (ht : t < 10) : gI R (j + 10) t = D 10 t := hj.d 10 t (by decide)
/-- a statue that lies: its tenths -/
theorem lies_p (hc : CI C ic D n) (hj : RI R j D) {w t : Nat} (hw : w < n 0) (ht : t < n 2) (h5 : D 10 t = 5) : ∃ v, f_X10_tenths C (ic + (9 + w)) (gI C (ic + (19 + t)) 7) (gI C (ic + (19 + t)) 4) = some v ∧ f_X13_liesBy R 118 (nI w) (nI t) = some v := by
  obtain ⟨⟨kd, kd4, hkd⟩, -⟩ := hc.vd.1 w hw
  obtain ⟨-, hl⟩ := hc.vd.2.2.1 t ht
  obtain ⟨l, r, p, h, l3, hr, hp, h6, e1, e2, e3, e4⟩ := hl h5
  have es := hc.ce.2.2.1 t ht
  have r3 : r < 3 := Nat.lt_of_lt_of_le hr hc.nb.2.1
  have t10 : t < 10 := Nat.lt_of_lt_of_le ht hc.nb.2.2.1
  have w4 := (EWk hc hw).1
  have ew := EWk hc hw
  refine ⟨tenS kd (grd (D 6 (6 * r + p))) l, ?_, ?_⟩
  · rw [es.2.2.2.2.2.2.2 h5 r p e2 e3 r3 (by omega), es.2.2.2.2.1, e1, tenths_c (ew.2.1.trans hkd) kd4 l3]
  · unfold f_X13_liesBy
    simp only [hj.j, oc_x, hj.s.k20, hj.s.k21, hj.s.k19, chk_m t10 (show (10 : Nat) < 2147483648 by decide), ix_n (show t < 2147483648 by omega), hj.d 12 t (by decide), hj.d 13 t (by decide), hj.d 11 t (by decide), e1, e2, e3]
    rw [slopeAt_r hj r3 (by omega), ob_s, tenths_r hj w4 hkd kd4 l3, ob_s]
theorem mean_l (hc : CI C ic D n) (hj : RI R j D) (so out : Int32) : ∀ (d k s m : Nat) (f1 f2 : Nat), k + d = n 2 → d < f1 → d < f2 → s ≤ 30 * m → m ≤ k →
    ∃ v, f_X0_meanLean_L8 f1 C ic so out (nI s) (nI m) (nI k) = some v ∧ f_X13_meanLean_L8 f2 R 118 so out (nI s) (nI m) (nI k) = some v ∧ (v = -1 ∨ ∃ q, q ≤ 30 ∧ v = nI q) := by
  have n10 := hc.nb.2.2.1
  intro d
  induction d with
  | zero =>
    intro k s m f1 f2 hk h1 h2 hs hm
    obtain ⟨f1, rfl⟩ := suc h1
    obtain ⟨f2, rfl⟩ := suc h2
    rw [f_X0_meanLean_L8, hc.c2, ob_s, if_pos (nI_le (by omega) (by omega)), f_X13_meanLean_L8, hj.j, oc_x, hj.d0, hc.dn.2.2.1, if_pos (nI_le (by omega) (by omega))]
    by_cases h0 : m = 0
    · subst h0
      exact ⟨-1, rfl, rfl, Or.inl rfl⟩
    · have hne : ¬ nI m = 0 := nI_ne0 (by omega) (by omega)
      rw [if_neg (nI_nle (by omega) (by omega)), if_neg hne, chk_f hne, pk_div (by omega) (by omega) (by omega)]
      refine ⟨_, rfl, rfl, Or.inr ⟨s / m, ?_, rfl⟩⟩
      exact Nat.div_le_of_le_mul (by rw [Nat.mul_comm]; exact hs)
  | succ d ih =>
    intro k s m f1 f2 hk h1 h2 hs hm
    obtain ⟨f1, rfl⟩ := suc h1
    obtain ⟨f2, rfl⟩ := suc h2
    have hk2 : k < n 2 := by omega
    have es := hc.ce.2.2.1 k hk2
    obtain ⟨⟨l, l30, hl⟩, -⟩ := hc.vd.2.2.1 k hk2
    rw [f_X0_meanLean_L8, hc.c2, ob_s, if_neg (nI_ge hk2 (by omega)), hc.s hk2, ob_s, oc_x, es.2.2.2.1, es.2.1, nI_1 k]
    rw [f_X13_meanLean_L8, hj.j, oc_x, hj.d0, hc.dn.2.2.1, if_neg (nI_ge hk2 (by omega)), oc_x, hj.s.k18, oc_x, chk_n (show k < 10 by omega) (by decide), ix_n (show k < 2147483648 by omega), sort_r hj (by omega), oc_x, hj.s.k16, oc_x, chk_m (show k < 10 by omega) (by decide), hj.d 8 k (by decide), nI_1 k, hl]
    by_cases hso : D 10 k = so
    · rw [if_pos hso, if_pos hso]
      by_cases ho : nI k = out
      · rw [if_pos ho, if_pos ho]
        exact ih (k + 1) s m f1 f2 (by omega) (by omega) (by omega) hs (by omega)
      · rw [if_neg ho, if_neg ho, nI_add, nI_1]
        exact ih (k + 1) (s + l) (m + 1) f1 f2 (by omega) (by omega) (by omega) (by omega) (by omega)
    · rw [if_neg hso, if_neg hso]
      exact ih (k + 1) s m f1 f2 (by omega) (by omega) (by omega) hs (by omega)
theorem mean_p (hc : CI C ic D n) (hj : RI R j D) (so out : Int32) : ∃ v, f_X0_meanLean C ic so out = some v ∧ f_X13_meanLean R 118 so out = some v ∧ (v = -1 ∨ ∃ q, q ≤ 30 ∧ v = nI q) := by
  have n10 := hc.nb.2.2.1
  unfold f_X0_meanLean f_X13_meanLean
  exact mean_l hc hj so out (n 2) 0 0 0 FU FU (by omega) (fu (by omega)) (fu (by omega)) (by omega) (by omega)
theorem diff_30 : ∀ a, a < 31 → ∀ b, b < 31 → ¬ nI a - nI b = (-1000 : Int32) := by decide +kernel
/-- how much those that lie lean more, and what the reference makes of it -/
theorem lean_p (hc : CI C ic D n) (hj : RI R j D) (out : Int32) : ∃ v a b, f_X0_leanChange C ic out = some v ∧ f_X13_meanLean R 118 5 out = some a ∧ f_X13_meanLean R 118 3 out = some b ∧ ((v = -1000 ∧ (a < 0 ∨ (¬ a < 0 ∧ ¬ 0 ≤ b))) ∨ (¬ v = -1000 ∧ v = a - b ∧ ¬ a < 0 ∧ 0 ≤ b)) := by
  obtain ⟨a, ha1, ha2, ha3⟩ := mean_p hc hj 5 out
  obtain ⟨b, hb1, hb2, hb3⟩ := mean_p hc hj 3 out
  unfold f_X0_leanChange
  rw [ha1, ob_s, hb1, ob_s]
  rcases ha3 with rfl | ⟨p, hp, rfl⟩
  · exact ⟨-1000, -1, b, if_pos rfl, ha2, hb2, Or.inl ⟨rfl, Or.inl (by decide)⟩⟩
  · rw [if_neg (m1_nI (by omega))]
    rcases hb3 with rfl | ⟨q, hq, rfl⟩
    · exact ⟨-1000, nI p, -1, if_pos rfl, ha2, hb2, Or.inl ⟨rfl, Or.inr ⟨nneg (by omega), by decide⟩⟩⟩
    · rw [if_neg (m1_nI (by omega))]
      exact ⟨_, _, _, rfl, ha2, hb2, Or.inr ⟨diff_30 p (by omega) q (by omega), rfl, nneg (by omega), nI_pos' (by omega)⟩⟩
theorem shape_p (hc : CI C ic D n) (hj : RI R j D) {w : Nat} (hw : w < n 0) (out : Int32) : ∃ lc v, f_X0_leanChange C ic out = some lc ∧ f_X10_shaped C (ic + (9 + w)) lc = some v ∧ f_X13_shapeOf R 118 (nI w) out = some v := by
  obtain ⟨lc, a, b, h1, h2, h3, h4⟩ := lean_p hc hj out
  have ew := EWk hc hw
  unfold f_X10_shaped f_X13_shapeOf
  rw [h2, ob_s, h3, ob_s, hj.j, oc_x, hj.s.k9, oc_x, chk_n ew.1 (by decide), ix_n (show w < 2147483648 by omega), hj.d 1 w (by decide), ew.2.1]
  rcases h4 with ⟨rfl, h | ⟨h, h'⟩⟩ | ⟨h, rfl, h', h''⟩
  · exact ⟨-1000, 1, h1, if_pos rfl, if_pos h⟩
  · exact ⟨-1000, 1, h1, if_pos rfl, by rw [if_neg h, if_neg h']⟩
  · rw [if_neg h', if_pos h'']
    refine ⟨_, if a - b < 5 then (if D 1 w = 0 then 2 else 6) else (if D 1 w = 0 then 9 else 3), h1, ?_, ?_⟩
    · rw [if_neg h]
      simp only [apply_ite (some : Int32 → Option Int32)]
    · by_cases hk : D 1 w = 0
      · rw [if_pos hk, if_pos hk, if_pos hk]; split <;> rfl
      · rw [if_neg hk, if_neg hk, if_neg hk]; split <;> rfl
theorem tell_l (hc : CI C ic D n) (hj : RI R j D) {w : Nat} (hw : w < n 0) {out lc sh : Int32} (h1 : f_X0_leanChange C ic out = some lc) (h2 : f_X10_shaped C (ic + (9 + w)) lc = some sh) : ∀ (d k : Nat), k + d = n 5 → ∃ P : Int64, ∀ (acc : Int64) (f1 f2 : Nat) (K2 K5 : MM → Nat → Int32 → Int32 → Nat → Int64 → Int32 → Option Int64) (K4 K7 : MM → Nat → Int32 → Int32 → Int64 → Int32 → Option Int64), d < f1 → d < f2 →
    f_X0_oddsOf_L135 K2 K5 f1 C ic (nI w) out (ic + (9 + w)) acc (nI k) = some (acc * P * sh.toInt64) ∧ f_X13_oddsOf_L108 K4 K7 f2 R 118 (nI w) acc (nI k) = some (acc * P) := by
  have n3 := hc.nb.2.2.2.2.2.1
  have w4 := (EWk hc hw).1
  intro d
  induction d with
  | zero =>
    intro k hk
    refine ⟨1, fun acc f1 f2 K2 K5 K4 K7 g1 g2 => ?_⟩
    obtain ⟨f1, rfl⟩ := suc g1
    obtain ⟨f2, rfl⟩ := suc g2
    rw [f_X0_oddsOf_L135, hc.c5, ob_s, if_pos (nI_le (by omega) (by omega)), h1, ob_s, h2, ob_s, f_X13_oddsOf_L108, hj.j, oc_x, hj.d0, hc.dn.2.2.2.2.2.1, if_pos (nI_le (by omega) (by omega)), Int64.mul_one]
    exact ⟨rfl, rfl⟩
  | succ d ih =>
    intro k hk
    have hk2 : k < n 5 := by omega
    have el := hc.ce.2.2.2.2.2.1 k hk2
    obtain ⟨P, hP⟩ := ih (k + 1) (by omega)
    refine ⟨(tolS (D 28 k) (D 23 k) (nI w)).toInt64 * P, fun acc f1 f2 K2 K5 K4 K7 g1 g2 => ?_⟩
    obtain ⟨f1, rfl⟩ := suc g1
    obtain ⟨f2, rfl⟩ := suc g2
    rw [f_X0_oddsOf_L135, hc.c5, ob_s, if_neg (nI_ge hk2 (by omega)), hc.l hk2, ob_s, oc_x, favour_c w4, ob_s, el.1, el.2, nI_1]
    rw [f_X13_oddsOf_L108, hj.j, oc_x, hj.d0, hc.dn.2.2.2.2.2.1, if_neg (nI_ge hk2 (by omega)), toldOf_r hj (by omega), ob_s, nI_1, ← Int64.mul_assoc]
    exact hP _ f1 f2 K2 K5 K4 K7 (by omega) (by omega)
theorem road_l (hc : CI C ic D n) (hj : RI R j D) {w : Nat} (hw : w < n 0) (out : Int32) : ∀ (d k : Nat), k + d = n 1 → ∃ P : Int64, ∀ (acc : Int64) (f1 f2 : Nat) (K2 : MM → Nat → Int32 → Int32 → Nat → Int64 → Int32 → Option Int64) (K4 : MM → Nat → Int32 → Int32 → Int64 → Int32 → Option Int64), d < f1 → d < f2 →
    f_X0_oddsOf_L88 K2 f1 C ic (nI w) out (ic + (9 + w)) acc (nI k) = some (acc * P) ∧ f_X13_oddsOf_L66 K4 f2 R 118 (nI w) out acc (nI k) = some (acc * P) := by
  have n3 := hc.nb.2.1
  have w4 := (EWk hc hw).1
  have ew := EWk hc hw
  have n5 := hc.nb.2.2.2.2.2.1
  obtain ⟨⟨kd, kd4, hkd⟩, -⟩ := hc.vd.1 w hw
  intro d
  induction d with
  | zero =>
    intro k hk
    obtain ⟨lc, sh, h1, h2, h3⟩ := shape_p hc hj hw out
    obtain ⟨P, hP⟩ := tell_l hc hj hw h1 h2 (n 5) 0 (by omega)
    refine ⟨P * sh.toInt64, fun acc f1 f2 K2 K4 g1 g2 => ?_⟩
    obtain ⟨f1, rfl⟩ := suc g1
    obtain ⟨f2, rfl⟩ := suc g2
    rw [f_X0_oddsOf_L88, hc.c1, ob_s, if_pos (nI_le (by omega) (by omega)), f_X13_oddsOf_L66, hj.j, oc_x, hj.d0, hc.dn.2.1, if_pos (nI_le (by omega) (by omega)), h3, ob_s]
    refine ⟨((hP acc FU FU _ _ (fun _ _ _ _ _ _ => none) (fun _ _ _ _ _ _ => none) (fu (by omega)) (fu (by omega))).1).trans (by rw [Int64.mul_assoc]), ((hP (acc * sh.toInt64) FU FU (fun _ _ _ _ _ _ _ => none) (fun _ _ _ _ _ _ _ => none) _ _ (fu (by omega)) (fu (by omega))).2).trans (by rw [Int64.mul_assoc, Int64.mul_comm sh.toInt64])⟩
  | succ d ih =>
    intro k hk
    have hk2 : k < n 1 := by omega
    have er := hc.ce.2.1 k hk2
    obtain ⟨P, hP⟩ := ih (k + 1) (by omega)
    refine ⟨(holS kd (D 4 k)).toInt64 * P, fun acc f1 f2 K2 K4 g1 g2 => ?_⟩
    obtain ⟨f1, rfl⟩ := suc g1
    obtain ⟨f2, rfl⟩ := suc g2
    rw [f_X0_oddsOf_L88, hc.c1, ob_s, if_neg (nI_ge hk2 (by omega)), hc.r hk2, ob_s, oc_x, er.1, hollowed_c (ew.2.1.trans hkd) kd4, ob_s, nI_1]
    rw [f_X13_oddsOf_L66, hj.j, oc_x, hj.d0, hc.dn.2.1, if_neg (nI_ge hk2 (by omega)), hollowOf_r hj w4 (by omega) hkd kd4, ob_s, nI_1, ← Int64.mul_assoc]
    exact hP _ f1 f2 K2 K4 (by omega) (by omega)
theorem stat_l (hc : CI C ic D n) (hj : RI R j D) {w : Nat} (hw : w < n 0) (out : Int32) : ∀ (d k : Nat) (acc : Int64) (f1 f2 : Nat), k + d = n 2 → d < f1 → d < f2 →
    ∃ v, f_X0_oddsOf_L22 f1 C ic (nI w) out (ic + (9 + w)) acc (nI k) = some v ∧ f_X13_oddsOf_L14 f2 R 118 (nI w) out acc (nI k) = some v := by
  have n10 := hc.nb.2.2.1
  have n3 := hc.nb.2.1
  intro d
  induction d with
  | zero =>
    intro k acc f1 f2 hk g1 g2
    obtain ⟨f1, rfl⟩ := suc g1
    obtain ⟨f2, rfl⟩ := suc g2
    obtain ⟨P, hP⟩ := road_l hc hj hw out (n 1) 0 (by omega)
    rw [f_X0_oddsOf_L22, hc.c2, ob_s, if_pos (nI_le (by omega) (by omega)), f_X13_oddsOf_L14, hj.j, oc_x, hj.d0, hc.dn.2.2.1, if_pos (nI_le (by omega) (by omega))]
    exact ⟨acc * P, (hP acc FU FU _ (fun _ _ _ _ _ _ => none) (fu (by omega)) (fu (by omega))).1, (hP acc FU FU (fun _ _ _ _ _ _ _ => none) _ (fu (by omega)) (fu (by omega))).2⟩
  | succ d ih =>
    intro k acc f1 f2 hk g1 g2
    obtain ⟨f1, rfl⟩ := suc g1
    obtain ⟨f2, rfl⟩ := suc g2
    have hk2 : k < n 2 := by omega
    have es := hc.ce.2.2.1 k hk2
    rw [f_X0_oddsOf_L22, hc.c2, ob_s, if_neg (nI_ge hk2 (by omega)), hc.s hk2, ob_s, oc_x, isLying_c, ob_s, es.2.2.2.1, nI_1]
    rw [f_X13_oddsOf_L14, hj.j, oc_x, hj.d0, hc.dn.2.2.1, if_neg (nI_ge hk2 (by omega)), oc_x, hj.s.k18, oc_x, chk_n (show k < 10 by omega) (by decide), ix_n (show k < 2147483648 by omega), sort_r hj (by omega), nI_1]
    by_cases h5 : D 10 k = 5
    · rw [if_pos h5, if_pos h5, if_neg (show ¬ (1 : Int32) = 0 by decide)]
      by_cases ho : nI k = out
      · rw [if_pos ho, if_pos ho]
        exact ih (k + 1) acc f1 f2 (by omega) (by omega) (by omega)
      · obtain ⟨v, hv1, hv2⟩ := lies_p hc hj hw hk2 h5
        rw [if_neg ho, if_neg ho, hv1, hv2, ob_s, ob_s]
        exact ih (k + 1) _ f1 f2 (by omega) (by omega) (by omega)
    · rw [if_neg h5, if_neg h5, if_pos rfl]
      exact ih (k + 1) acc f1 f2 (by omega) (by omega) (by omega)
theorem odds_p (hc : CI C ic D n) (hj : RI R j D) {w : Nat} (hw : w < n 0) (out : Int32) : ∃ v, f_X0_oddsOf C ic (nI w) out = some v ∧ f_X13_oddsOf R 118 (nI w) out = some v := by
  have n10 := hc.nb.2.2.1
  have ew := EWk hc hw
  unfold f_X0_oddsOf f_X13_oddsOf
  rw [hc.w hw, ob_s, oc_x, ew.2.2.1, hj.j, oc_x, hj.s.k10, oc_x, chk_n ew.1 (by decide), ix_n (show w < 2147483648 by omega), hj.d 2 w (by decide)]
  exact stat_l hc hj hw out (n 2) 0 _ FU FU (by omega) (fu (by omega)) (fu (by omega))
theorem all_l (hc : CI C ic D n) (hj : RI R j D) : ∀ (d k : Nat) (acc : Int64) (f1 f2 : Nat), k + d = n 0 → d < f1 → d < f2 →
    ∃ v, f_X0_oddsOfAll_L4 f1 C ic acc (nI k) = some v ∧ f_X13_odds_L55 f2 R 118 acc (nI k) = some (v, R) := by
  have n4 := hc.nb.1
  intro d
  induction d with
  | zero =>
    intro k acc f1 f2 hk g1 g2
    obtain ⟨f1, rfl⟩ := suc g1
    obtain ⟨f2, rfl⟩ := suc g2
    rw [f_X0_oddsOfAll_L4, hc.c0, ob_s, if_pos (nI_le (by omega) (by omega)), f_X13_odds_L55, hj.j, oc_x, hj.d0, hc.dn.1, if_pos (nI_le (by omega) (by omega))]
    exact ⟨acc, rfl, rfl⟩
  | succ d ih =>
    intro k acc f1 f2 hk g1 g2
    obtain ⟨f1, rfl⟩ := suc g1
    obtain ⟨f2, rfl⟩ := suc g2
    have hk2 : k < n 0 := by omega
    obtain ⟨v, hv1, hv2⟩ := odds_p hc hj hk2 (-1)
    rw [f_X0_oddsOfAll_L4, hc.c0, ob_s, if_neg (nI_ge hk2 (by omega)), hv1, ob_s, nI_1, f_X13_odds_L55, hj.j, oc_x, hj.d0, hc.dn.1, if_neg (nI_ge hk2 (by omega)), hv2, ob_s, nI_1]
    exact ih (k + 1) _ f1 f2 (by omega) (by omega) (by omega)
theorem like_l (hc : CI C ic D n) (hj : RI R j D) (out : Int32) : ∀ (d k b : Nat) (o : Int64) (f1 f2 : Nat), k + d = n 0 → b < n 0 → f_X13_oddsOf R 118 (nI b) out = some o → d < f1 → d < f2 →
    ∃ v, v < n 0 ∧ f_X0_likeliestWay_L7 f1 C ic out (nI b) o (nI k) = some (nI v) ∧ f_X13_likeliestOf_L4 f2 R 118 out (nI b) (nI k) = some (nI v) := by
  have n4 := hc.nb.1
  intro d
  induction d with
  | zero =>
    intro k b o f1 f2 hk hb ho g1 g2
    obtain ⟨f1, rfl⟩ := suc g1
    obtain ⟨f2, rfl⟩ := suc g2
    rw [f_X0_likeliestWay_L7, hc.c0, ob_s, if_pos (nI_le (by omega) (by omega)), f_X13_likeliestOf_L4, hj.j, oc_x, hj.d0, hc.dn.1, if_pos (nI_le (by omega) (by omega))]
    exact ⟨b, hb, rfl, rfl⟩
  | succ d ih =>
    intro k b o f1 f2 hk hb ho g1 g2
    obtain ⟨f1, rfl⟩ := suc g1
    obtain ⟨f2, rfl⟩ := suc g2
    have hk2 : k < n 0 := by omega
    obtain ⟨v, hv1, hv2⟩ := odds_p hc hj hk2 out
    rw [f_X0_likeliestWay_L7, hc.c0, ob_s, if_neg (nI_ge hk2 (by omega)), hv1, ob_s, nI_1, if_neg (m1_nI (show b < 2 ^ 31 by omega)), f_X13_likeliestOf_L4, hj.j, oc_x, hj.d0, hc.dn.1, if_neg (nI_ge hk2 (by omega)), hv2, ob_s, ho, ob_s, nI_1]
    by_cases hl : lg_cmp v o ≤ 0
    · rw [if_pos hl, if_pos hl]
      exact ih (k + 1) b o f1 f2 (by omega) hb ho (by omega) (by omega)
    · rw [if_neg hl, if_neg hl]
      exact ih (k + 1) k v f1 f2 (by omega) hk2 hv2 (by omega) (by omega)
theorem like_p (hc : CI C ic D n) (hj : RI R j D) (out : Int32) : ∃ v, v < n 0 ∧ f_X0_likeliestWay C ic out = some (nI v) ∧ f_X13_likeliestOf R 118 out = some (nI v) := by
  have n4 := hc.nb.1
  have h1 := hc.n0.1
  obtain ⟨o, ho1, ho2⟩ := odds_p hc hj (show 0 < n 0 by omega) out
  unfold f_X0_likeliestWay f_X13_likeliestOf
  obtain ⟨v, hv, e1, e2⟩ := like_l hc hj out (n 0 - 1) 1 0 o 2999 FU (by omega) (by omega) ho2 (by omega) (fu (by omega))
  refine ⟨v, hv, ?_, e2⟩
  rw [show FU = 2999 + 1 from rfl, f_X0_likeliestWay_L7, hc.c0, ob_s, show (0 : Int32) = nI 0 from rfl, if_neg (nI_ge (show 0 < n 0 by omega) (by omega)), ho1, ob_s, if_pos rfl, nI_1]
  exact e1
theorem hang_l (hc : CI C ic D n) (hj : RI R j D) (b : Nat) (hb : b < n 0) : ∀ (d k : Nat) (f1 f2 : Nat), k + d = n 2 → d < f1 → d < f2 →
    ∃ v, f_X0_decidingStatue_L8 f1 C ic (nI b) (nI k) = some v ∧ f_X13_hangs_L26 f2 R 118 (nI b) (nI k) = some (v, pI (pI R 118 1 0) 118 2 (-1)) := by
  have n10 := hc.nb.2.2.1
  intro d
  induction d with
  | zero =>
    intro k f1 f2 hk g1 g2
    obtain ⟨f1, rfl⟩ := suc g1
    obtain ⟨f2, rfl⟩ := suc g2
    rw [f_X0_decidingStatue_L8, hc.c2, ob_s, if_pos (nI_le (by omega) (by omega)), f_X13_hangs_L26, hj.j, oc_x, hj.d0, hc.dn.2.2.1, if_pos (nI_le (by omega) (by omega)), f_X13_done, ob_s]
    exact ⟨-2, rfl, rfl⟩
  | succ d ih =>
    intro k f1 f2 hk g1 g2
    obtain ⟨f1, rfl⟩ := suc g1
    obtain ⟨f2, rfl⟩ := suc g2
    have hk2 : k < n 2 := by omega
    have es := hc.ce.2.2.1 k hk2
    rw [f_X0_decidingStatue_L8, hc.c2, ob_s, if_neg (nI_ge hk2 (by omega)), hc.s hk2, ob_s, oc_x, isLying_c, ob_s, es.2.2.2.1, nI_1]
    rw [f_X13_hangs_L26, hj.j, oc_x, hj.d0, hc.dn.2.2.1, if_neg (nI_ge hk2 (by omega)), oc_x, hj.s.k18, oc_x, chk_n (show k < 10 by omega) (by decide), ix_n (show k < 2147483648 by omega), sort_r hj (by omega), nI_1]
    by_cases h5 : D 10 k = 5
    · obtain ⟨v, hv, e1, e2⟩ := like_p hc hj (nI k)
      rw [if_pos h5, if_pos h5, if_neg (show ¬ (1 : Int32) = 0 by decide), e1, e2, ob_s, ob_s]
      by_cases hl : nI v = nI b
      · rw [if_pos hl, if_pos hl]
        exact ih (k + 1) f1 f2 (by omega) (by omega) (by omega)
      · rw [if_neg hl, if_neg hl, f_X13_done, ob_s]
        exact ⟨_, rfl, rfl⟩
    · rw [if_neg h5, if_neg h5, if_pos rfl]
      exact ih (k + 1) f1 f2 (by omega) (by omega) (by omega)
end ODDS
