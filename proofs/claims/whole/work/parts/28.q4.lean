/-! TOLD, TURN, TRY, TRIALS, WOOD -/
theorem q_told {C R : MM} {jo sc ic sp : Nat} (hS : ST C jo sc ic sp) (hI : IR C R ic) (x1 x2 : Int32) : QQ C R (f_X11_told C 1 x1 x2) (f_X13_told R 118 x1 x2) := by
  unfold f_X11_told f_X13_told
  rcases hI with ⟨hb, hr⟩ | ⟨j, D, n, hc, hj, hT⟩
  · refine QQ.mk (-1) 1 (by decide) ?_ ?_
    · simp only [hS.a5, oc_x, oc_z, ob_s, if_true, if_false, l00, l01, l02, l10, l11, l12, (bare_n hb _).2.2.2.2.2, (bare_h hb _).1, f_X11_refused]
    · simp only [oc_x, oc_z, ob_s, if_true, if_false, l00, l01, l02, l10, l11, l12, (rnone (M := pI R 118 0 0) hr _).1, f_X13_refused]
      rfl
  have n4 := hc.nb.1
  have n3 := hc.nb.2.2.2.2.2.1
  rcases inr x1 (show n 0 < 2147483648 by omega) with h1 | ⟨k1, hk1, rfl⟩
  · have c1 := has0_n hc.is hc.cn.1 h1
    have r1 := isWay_n (hj.t 0) hc.dn.1 h1
    rcases inr x2 (show n 5 < 2147483648 by omega) with h2 | ⟨k2, hk2, rfl⟩
    · refine QQ.mk (-1) 1 (by decide) ?_ ?_
      · simp only [hS.a5, oc_x, oc_z, ob_s, if_true, if_false, l00, l01, l02, l10, l11, l12, c1, tellerAt_n hc.is hc.cn.2.2.2.2.2.1 h2, f_X11_refused]
      · simp only [oc_x, oc_z, ob_s, if_true, if_false, l00, l01, l02, l10, l11, l12, r1, f_X13_refused]
        rfl
    · refine QQ.mk (-1) 1 (by decide) ?_ ?_
      · simp only [hS.a5, oc_x, oc_z, ob_s, if_true, if_false, l00, l01, l02, l10, l11, l12, c1, hc.l hk2, f_X11_refused]
      · simp only [oc_x, oc_z, ob_s, if_true, if_false, l00, l01, l02, l10, l11, l12, r1, f_X13_refused]
        rfl
  · have c1 := has0_s hc.is hc.cn.1 (show n 0 < 100 by omega) hk1
    have r1 := isWay_s (hj.t 0) hc.dn.1 hk1 (show n 0 < 100 by omega)
    rcases inr x2 (show n 5 < 2147483648 by omega) with h2 | ⟨k2, hk2, rfl⟩
    · refine QQ.mk (-1) 1 (by decide) ?_ ?_
      · simp only [hS.a5, oc_x, oc_z, ob_s, if_true, if_false, l00, l01, l02, l10, l11, l12, c1, tellerAt_n hc.is hc.cn.2.2.2.2.2.1 h2, f_X11_refused]
      · simp only [oc_x, oc_z, ob_s, if_true, if_false, l00, l01, l02, l10, l11, l12, r1, f_X13_refused, (hj.t 0).j, (hj.t 0).d0, hc.dn.2.2.2.2.2.1]
        by_cases h0 : x2 < 0
        · rw [if_pos h0]; rfl
        · rw [if_neg h0, if_pos (h2.resolve_left h0)]; rfl
    · have el := hc.ce.2.2.2.2.2.1 k2 hk2
      refine QQ.mk (tolS (D 28 k2) (D 23 k2) (nI k1)) 0 (by decide) ?_ ?_
      · simp only [hS.a5, oc_x, oc_z, ob_s, if_true, if_false, l00, l01, l02, l10, l11, l12, c1, hc.l hk2, favour_c (show k1 < 4 by omega), el.1, el.2, f_X11_granted]
      · simp only [oc_x, oc_z, ob_s, if_true, if_false, l00, l01, l02, l10, l11, l12, r1, if_neg (nneg (show k2 < 2147483648 by omega)), (hj.t 0).j, (hj.t 0).d0, hc.dn.2.2.2.2.2.1, if_neg (nI_ge hk2 (show n 5 < 2147483648 by omega)), toldOf_r (hj.t 0) (show k2 < 3 by omega), f_X13_done]
        rfl
section TRY
variable {C R : MM} {ic j : Nat} {D : DT} {n : Nat → Nat}
/-- the sums over the ways, and of those by which a thing can -/
theorem try_l (hc : CI C ic D n) (hj : RI R j D) {t : Nat} (ht : t < n 6) : ∀ (d k : Nat), k + d = n 0 → ∃ S Y : Int64, (∀ (acc : Int64) (f : Nat), d < f → f_X0_oddsOfAll_L4 f C ic acc (nI k) = some (acc + S)) ∧
    (∀ (acc : Int64) (f : Nat), d < f → f_X0_oddsThatCarry_L5_1 f C ic (ic + (47 + t)) acc (nI k) = some (acc + Y)) ∧
    (∀ (K5 : MM → Nat → Int32 → Int64 → Int32 → Option (Int32 × MM)) (best : Int32) (least y no : Int64) (f : Nat), d < f → f_X13_tryout_L63 K5 f R 118 best least (nI t) y no (nI k) =
      (if lg_cmp (y + Y) (no + (S - Y)) ≤ 0 then (if nI t ≤ 0 then K5 R 118 (nI t) (no + (S - Y)) (nI t + 1) else if lg_cmp (no + (S - Y)) least < 0 then K5 R 118 (nI t) (no + (S - Y)) (nI t + 1) else K5 R 118 best least (nI t + 1)) else (if nI t ≤ 0 then K5 R 118 (nI t) (y + Y) (nI t + 1) else if lg_cmp (y + Y) least < 0 then K5 R 118 (nI t) (y + Y) (nI t + 1) else K5 R 118 best least (nI t + 1)))) := by
  have n4 := hc.nb.1
  have n6 := hc.nb.2.2.2.2.2.2
  have ex := hc.ce.2.2.2.2.2.2 t ht
  intro d
  induction d with
  | zero =>
    intro k hk
    refine ⟨0, 0, fun acc f hf => ?_, fun acc f hf => ?_, fun K5 best least y no f hf => ?_⟩
    · obtain ⟨f, rfl⟩ := suc hf
      rw [f_X0_oddsOfAll_L4, hc.c0, ob_s, if_pos (nI_le (by omega) (by omega)), Int64.add_zero]
    · obtain ⟨f, rfl⟩ := suc hf
      rw [f_X0_oddsThatCarry_L5_1, hc.c0, ob_s, if_pos (nI_le (by omega) (by omega)), Int64.add_zero]
    · obtain ⟨f, rfl⟩ := suc hf
      rw [f_X13_tryout_L63, hj.j, oc_x, hj.d0, hc.dn.1, if_pos (nI_le (by omega) (by omega)), Int64.sub_self, Int64.add_zero, Int64.add_zero]
  | succ d ih =>
    intro k hk
    have hk2 : k < n 0 := by omega
    have ew := EWk hc hk2
    obtain ⟨S, Y, h1, h2, h3⟩ := ih (k + 1) (by omega)
    obtain ⟨v, hv1, hv2⟩ := odds_p hc hj hk2 (-1)
    by_cases hz : canS (D 1 k) (D 24 t) (D 25 t) (D 26 t) (D 27 t) = 0
    · refine ⟨v + S, Y, fun acc f hf => ?_, fun acc f hf => ?_, fun K5 best least y no f hf => ?_⟩
      · obtain ⟨f, rfl⟩ := suc hf
        rw [f_X0_oddsOfAll_L4, hc.c0, ob_s, if_neg (nI_ge hk2 (by omega)), hv1, ob_s, nI_1 k, h1 _ f (by omega), Int64.add_assoc]
      · obtain ⟨f, rfl⟩ := suc hf
        rw [f_X0_oddsThatCarry_L5_1, hc.c0, ob_s, if_neg (nI_ge hk2 (by omega)), hc.w hk2, ob_s, oc_x, carries_c, ob_s, ew.2.1, ex.1, ex.2.1, ex.2.2.1, ex.2.2.2, if_pos hz, nI_1 k, h2 _ f (by omega)]
      · obtain ⟨f, rfl⟩ := suc hf
        have em : no + (v + S - Y) = no + v + (S - Y) := by rw [Int64.sub_eq_add_neg, Int64.sub_eq_add_neg, Int64.add_assoc, Int64.add_assoc]
        rw [f_X13_tryout_L63, hj.j, oc_x, hj.d0, hc.dn.1, if_neg (nI_ge hk2 (by omega)), oc_x, hj.s.k9, oc_x, chk_n ew.1 (by decide), ix_n (show k < 2147483648 by omega), oc_x, hj.s.k40, oc_x, chk_n (show t < 5 by omega) (by decide), ix_n (show t < 2147483648 by omega), oc_x, hj.s.k41, oc_x, chk_m (show t < 5 by omega) (by decide), oc_x, hj.s.k42, oc_x, chk_m (show t < 5 by omega) (by decide), oc_x, hj.s.k43, oc_x, chk_m (show t < 5 by omega) (by decide), hj.d 1 k (by decide), hj.d 24 t (by decide), hj.d 25 t (by decide), hj.d 26 t (by decide), hj.d 27 t (by decide), canGo_r, ob_s, if_pos hz, if_pos hz, hv2, ob_s, nI_1 k, Int64.add_zero, h3 _ _ _ _ _ f (by omega), em]
    · refine ⟨v + S, v + Y, fun acc f hf => ?_, fun acc f hf => ?_, fun K5 best least y no f hf => ?_⟩
      · obtain ⟨f, rfl⟩ := suc hf
        rw [f_X0_oddsOfAll_L4, hc.c0, ob_s, if_neg (nI_ge hk2 (by omega)), hv1, ob_s, nI_1 k, h1 _ f (by omega), Int64.add_assoc]
      · obtain ⟨f, rfl⟩ := suc hf
        rw [f_X0_oddsThatCarry_L5_1, hc.c0, ob_s, if_neg (nI_ge hk2 (by omega)), hc.w hk2, ob_s, oc_x, carries_c, ob_s, ew.2.1, ex.1, ex.2.1, ex.2.2.1, ex.2.2.2, if_neg hz, hv1, ob_s, nI_1 k, h2 _ f (by omega), Int64.add_assoc]
      · obtain ⟨f, rfl⟩ := suc hf
        have em : v + S - (v + Y) = S - Y := by
          rw [Int64.add_comm v S, Int64.add_comm v Y, Int64.sub_eq_add_neg, Int64.neg_add, Int64.sub_eq_add_neg, Int64.sub_eq_add_neg, Int64.add_assoc, ← Int64.add_assoc v, Int64.add_comm v, Int64.add_assoc, Int64.add_right_neg, Int64.add_zero]
        rw [f_X13_tryout_L63, hj.j, oc_x, hj.d0, hc.dn.1, if_neg (nI_ge hk2 (by omega)), oc_x, hj.s.k9, oc_x, chk_n ew.1 (by decide), ix_n (show k < 2147483648 by omega), oc_x, hj.s.k40, oc_x, chk_n (show t < 5 by omega) (by decide), ix_n (show t < 2147483648 by omega), oc_x, hj.s.k41, oc_x, chk_m (show t < 5 by omega) (by decide), oc_x, hj.s.k42, oc_x, chk_m (show t < 5 by omega) (by decide), oc_x, hj.s.k43, oc_x, chk_m (show t < 5 by omega) (by decide), hj.d 1 k (by decide), hj.d 24 t (by decide), hj.d 25 t (by decide), hj.d 26 t (by decide), hj.d 27 t (by decide), canGo_r, ob_s, if_neg hz, hv2, ob_s, if_neg hz, nI_1 k, Int64.add_zero, h3 _ _ _ _ _ f (by omega), em, Int64.add_assoc]
theorem best_l (hc : CI C ic D n) (hj : RI R j D) {all : Int64} (ha : f_X0_oddsOfAll C ic = some all) : ∀ (d t : Nat) (best : Int32) (least : Int64) (f1 f2 : Nat), t + d = n 6 → (t = 0 ∨ ¬ best = -1) → (t = 0 → best = -1) → d < f1 → d < f2 →
    ∃ v, f_X0_bestThing_L13 f1 C ic best least all (nI t) = some v ∧ (t ≠ 0 → ¬ v = -1) ∧ ∀ best', (t ≠ 0 → best' = best) → (d ≠ 0 ∨ t ≠ 0) → f_X13_tryout_L42 f2 R 118 best' least (nI t) = some (v, pI (pI R 118 1 0) 118 2 (-1)) ∧ ¬ v = -1 := by
  have n4 := hc.nb.1
  have n6 := hc.nb.2.2.2.2.2.2
  intro d
  induction d with
  | zero =>
    intro t best least f1 f2 hk hb hb0 g1 g2
    obtain ⟨f1, rfl⟩ := suc g1
    obtain ⟨f2, rfl⟩ := suc g2
    rw [f_X0_bestThing_L13, hc.c6, ob_s, if_pos (nI_le (by omega) (by omega))]
    refine ⟨best, rfl, fun h => hb.resolve_left h, fun best' h h' => ?_⟩
    have ht : t ≠ 0 := h'.resolve_left (fun q => q rfl)
    rw [f_X13_tryout_L42, hj.j, oc_x, hj.d0, hc.dn.2.2.2.2.2.2, if_pos (nI_le (by omega) (by omega)), f_X13_done, ob_s, h ht]
    exact ⟨rfl, hb.resolve_left ht⟩
  | succ d ih =>
    intro t best least f1 f2 hk hb hb0 g1 g2
    obtain ⟨f1, rfl⟩ := suc g1
    obtain ⟨f2, rfl⟩ := suc g2
    have ht : t < n 6 := by omega
    obtain ⟨S, Y, h1, h2, h3⟩ := try_l hc hj ht (n 0) 0 (by omega)
    have e1 := h1 0 FU (fu (by omega))
    have e2 := h2 0 FU (fu (by omega))
    rw [Int64.zero_add] at e1 e2
    have eS : all = S := Option.some.inj (ha.symm.trans (show f_X0_oddsOfAll C ic = some S from e1))
    subst eS
    -- the greater one, of both
    have key : ∃ g, (if all - Y < Y then Y else all - Y) = g ∧ ∀ (K5 : MM → Nat → Int32 → Int64 → Int32 → Option (Int32 × MM)) (b : Int32) (l : Int64), f_X13_tryout_L63 K5 FU R 118 b l (nI t) 0 0 (nI 0) = (if nI t ≤ 0 then K5 R 118 (nI t) g (nI t + 1) else if lg_cmp g l < 0 then K5 R 118 (nI t) g (nI t + 1) else K5 R 118 b l (nI t + 1)) := by
      by_cases hg : all - Y < Y
      · refine ⟨Y, if_pos hg, fun K5 b l => ?_⟩
        rw [h3 K5 b l 0 0 FU (fu (by omega)), Int64.zero_add, Int64.zero_add, if_neg (fun q => absurd ((lg_cmp_le _ _).mp q) (Int64.not_le.mpr hg))]
      · refine ⟨all - Y, if_neg hg, fun K5 b l => ?_⟩
        rw [h3 K5 b l 0 0 FU (fu (by omega)), Int64.zero_add, Int64.zero_add, if_pos ((lg_cmp_le _ _).mpr (Int64.not_lt.mp hg))]
    obtain ⟨g, hg, h4⟩ := key
    rw [f_X0_bestThing_L13, hc.c6, ob_s, if_neg (nI_ge ht (by omega)), hc.x ht, ob_s, oc_x, f_X0_oddsThatCarry, oc_x, show f_X0_oddsThatCarry_L5_1 FU C ic (ic + (47 + t)) 0 0 = some Y from e2, ob_s, hg, nI_1 t]
    have hx : ∀ best', f_X13_tryout_L42 (f2 + 1) R 118 best' least (nI t) = (if nI t ≤ 0 then f_X13_tryout_L42 f2 R 118 (nI t) g (nI (t + 1)) else if lg_cmp g least < 0 then f_X13_tryout_L42 f2 R 118 (nI t) g (nI (t + 1)) else f_X13_tryout_L42 f2 R 118 best' least (nI (t + 1))) := fun best' => by
      rw [f_X13_tryout_L42, hj.j, oc_x, hj.d0, hc.dn.2.2.2.2.2.2, if_neg (nI_ge ht (by omega))]
      rw [show f_X13_tryout_L63 (fun M y5_0 y5_1 y5_2 y5_4 => f_X13_tryout_L42 f2 M y5_0 y5_1 y5_2 y5_4) FU R 118 best' least (nI t) 0 0 0 = _ from h4 _ _ _, nI_1 t]
    by_cases h0 : t = 0
    · have hbm := hb0 h0
      obtain ⟨v, hv1, hv2, hv3⟩ := ih (t + 1) (nI t) g f1 f2 (by omega) (Or.inr (m1_nI (by omega))) (fun q => by omega) (by omega) (by omega)
      rw [if_pos hbm]
      refine ⟨v, hv1, fun q => absurd h0 q, fun best' _ _ => ?_⟩
      rw [hx best', if_pos (show nI t ≤ 0 by subst h0; decide)]
      exact hv3 (nI t) (fun _ => rfl) (Or.inr (by omega))
    · have hbm : ¬ best = -1 := hb.resolve_left h0
      rw [if_neg hbm]
      by_cases hl : 0 ≤ lg_cmp g least
      · obtain ⟨v, hv1, hv2, hv3⟩ := ih (t + 1) best least f1 f2 (by omega) (Or.inr hbm) (fun q => by omega) (by omega) (by omega)
        rw [if_pos hl]
        refine ⟨v, hv1, fun _ => hv2 (by omega), fun best' h _ => ?_⟩
        rw [hx best', if_neg (nI_nle (by omega) (by omega)), if_neg (Int32.not_lt.mpr hl), h h0]
        exact hv3 best (fun _ => rfl) (Or.inr (by omega))
      · obtain ⟨v, hv1, hv2, hv3⟩ := ih (t + 1) (nI t) g f1 f2 (by omega) (Or.inr (m1_nI (by omega))) (fun q => by omega) (by omega) (by omega)
        rw [if_neg hl]
        refine ⟨v, hv1, fun _ => hv2 (by omega), fun best' h _ => ?_⟩
        rw [hx best', if_neg (nI_nle (by omega) (by omega)), if_pos (Int32.not_le.mp hl)]
        exact hv3 (nI t) (fun _ => rfl) (Or.inr (by omega))
end TRY
theorem q_tryout {C R : MM} {jo sc ic sp : Nat} (hS : ST C jo sc ic sp) (hI : IR C R ic) : QQ C R (f_X11_tryout C 1) (f_X13_tryout R 118) := by
  unfold f_X11_tryout f_X13_tryout
  rcases hI with ⟨hb, hr⟩ | ⟨j, D, n, hc, hj, hT⟩
  · refine QQ.mk (-1) 1 (by decide) ?_ ?_
    · simp only [hS.a5, oc_x, oc_z, ob_s, if_true, if_false, l00, l01, l02, l10, l11, l12, bare_b hb, f_X11_refused]
    · rw [show gR (pI R 118 0 0) 118 3 = none from hr, oc_z]
      simp only [oc_x, oc_z, ob_s, if_true, if_false, l00, l01, l02, l10, l11, l12, f_X13_refused]
      rfl
  have n6 := hc.nb.2.2.2.2.2.2
  have n4 := hc.nb.1
  obtain ⟨all, ha, -⟩ := all_l hc hj (n 0) 0 0 FU FU (by omega) (fu (by omega)) (fu (by omega))
  have ha : f_X0_oddsOfAll C ic = some all := ha
  obtain ⟨v, e1, -, e2⟩ := best_l hc (hj.t 0) ha (n 6) 0 (-1) 0 FU FU (by omega) (Or.inl rfl) (fun _ => rfl) (fu (by omega)) (fu (by omega))
  by_cases h0 : n 6 = 0
  · refine QQ.mk (-1) 6 (by decide) ?_ ?_
    · simp only [hS.a5, oc_x, oc_z, ob_s, if_true, if_false, l00, l01, l02, l10, l11, l12, live_b hc, f_X0_bestThing, ha]
      rw [show FU = 2999 + 1 from rfl, f_X0_bestThing_L13, hc.c6, ob_s, if_pos (by rw [h0]; decide), ob_s, if_pos rfl]
      rfl
    · rw [(hj.t 0).j, oc_x, oc_x, (hj.t 0).d0, hc.dn.2.2.2.2.2.2, h0, if_pos (by decide)]
      rfl
  · obtain ⟨e3, e4⟩ := e2 0 (fun q => absurd rfl q) (Or.inl h0)
    refine QQ.mk v 0 (by decide) ?_ ?_
    · simp only [hS.a5, oc_x, oc_z, ob_s, if_true, if_false, l00, l01, l02, l10, l11, l12, live_b hc, f_X0_bestThing, ha]
      rw [show f_X0_bestThing_L13 FU C ic (-1) 0 all 0 = some v from e1, ob_s, if_neg e4]
      rfl
    · rw [(hj.t 0).j, oc_x, oc_x, (hj.t 0).d0, hc.dn.2.2.2.2.2.2, if_neg (nI_ne0 (by omega) (by omega))]
      exact e3
