/-! LED, TURN, FEED -/
section LED
variable {C R : MM} {ic j : Nat} {D : DT} {n : Nat → Nat}
theorem led_l (hc : CI C ic D n) (hj : RI R j D) {w : Nat} (hw : w < n 0) (x2 : Int32) : ∀ (d k : Nat) (p : Int32) (f1 f2 : Nat), k + d = n 2 → d < f1 → d < f2 →
    ∃ v, f_X0_clearlyLaid_L5 f1 C ic (ic + (9 + w)) x2 p (nI k) = some v ∧ ((v = -1 ∧ f_X13_led_L10 f2 R 118 (nI w) x2 p (nI k) = some (0, pI R 118 0 1)) ∨ (¬ v = -1 ∧ f_X13_led_L10 f2 R 118 (nI w) x2 p (nI k) = some (v, R))) := by
  have n10 := hc.nb.2.2.1
  have n4 := hc.nb.1
  have r1 := isWay_s hj hc.dn.1 hw (show n 0 < 100 by omega)
  intro d
  induction d with
  | zero =>
    intro k p f1 f2 hk g1 g2
    obtain ⟨f1, rfl⟩ := suc g1
    obtain ⟨f2, rfl⟩ := suc g2
    rw [f_X0_clearlyLaid_L5, hc.c2, ob_s, if_pos (nI_le (by omega) (by omega)), f_X13_led_L10, r1, ob_s, if_neg (show ¬ (1 : Int32) = 0 by decide), hj.j, oc_x, hj.d0, hc.dn.2.2.1, if_pos (nI_le (by omega) (by omega))]
    exact ⟨-1, rfl, Or.inl ⟨rfl, rfl⟩⟩
  | succ d ih =>
    intro k p f1 f2 hk g1 g2
    obtain ⟨f1, rfl⟩ := suc g1
    obtain ⟨f2, rfl⟩ := suc g2
    have hk2 : k < n 2 := by omega
    have es := hc.ce.2.2.1 k hk2
    rw [f_X0_clearlyLaid_L5, hc.c2, ob_s, if_neg (nI_ge hk2 (by omega)), hc.s hk2, ob_s, oc_x, isLying_c, ob_s, es.2.2.2.1, nI_1 k]
    rw [f_X13_led_L10, r1, ob_s, if_neg (show ¬ (1 : Int32) = 0 by decide), hj.j, oc_x, hj.d0, hc.dn.2.2.1, if_neg (nI_ge hk2 (by omega)), oc_x, hj.s.k18, oc_x, chk_n (show k < 10 by omega) (by decide), ix_n (show k < 2147483648 by omega), sort_r hj (by omega), nI_1 k]
    by_cases h5 : D 10 k = 5
    · obtain ⟨v, e1, e2⟩ := lies_p hc hj hw hk2 h5
      rw [if_pos h5, if_pos h5, if_neg (show ¬ (1 : Int32) = 0 by decide), e1, e2, ob_s, ob_s]
      by_cases hv : v < 5
      · rw [if_pos hv, if_neg (Int32.not_le.mpr hv)]
        exact ih (k + 1) p f1 f2 (by omega) (by omega) (by omega)
      · rw [if_neg hv, if_pos (i32_le hv)]
        by_cases hp : p = x2
        · rw [if_pos hp, if_pos hp]
          exact ⟨nI k, rfl, Or.inr ⟨m1_nI (by omega), rfl⟩⟩
        · rw [if_neg hp, if_neg hp]
          exact ih (k + 1) _ f1 f2 (by omega) (by omega) (by omega)
    · rw [if_neg h5, if_neg h5, if_pos rfl]
      exact ih (k + 1) p f1 f2 (by omega) (by omega) (by omega)
end LED
/-- led, of the class without its throw: -1 where it throws -/
def ledC (C : MM) (ic : Nat) (x1 x2 : Int32) : Option Int32 := ob (f_X0_wayAt C ic x1) (fun z => oc z (some (-1)) (fun b => f_X0_clearlyLaid C ic b x2))
theorem t_led {C R : MM} {jo sc ic sp : Nat} (hS : ST C jo sc ic sp) (hI : IR C R ic) (x1 x2 : Int32) : ∃ v, ledC C ic x1 x2 = some v ∧ ((v = -1 ∧ f_X13_led R 118 x1 x2 = some (0, pI (pI R 118 0 0) 118 0 1)) ∨ (¬ v = -1 ∧ f_X13_led R 118 x1 x2 = some (v, pI R 118 0 0))) := by
  unfold ledC f_X13_led f_X0_clearlyLaid
  rcases hI with ⟨hb, hr⟩ | ⟨j, D, n, hc, hj, hT⟩
  · rw [(bare_n hb x1).1, ob_s, oc_z, show FU = 2999 + 1 from rfl, f_X13_led_L10, (rnone (M := pI R 118 0 0) hr x1).1, ob_s, if_pos rfl]
    exact ⟨-1, rfl, Or.inl ⟨rfl, rfl⟩⟩
  have n10 := hc.nb.2.2.1
  rcases inr x1 (show n 0 < 2147483648 by have := hc.nb.1; omega) with h1 | ⟨w, hw, rfl⟩
  · rw [wayAt_n hc.is hc.cn.1 h1, ob_s, oc_z, show FU = 2999 + 1 from rfl, f_X13_led_L10, isWay_n (hj.t 0) hc.dn.1 h1, ob_s, if_pos rfl]
    exact ⟨-1, rfl, Or.inl ⟨rfl, rfl⟩⟩
  · rw [hc.w hw, ob_s, oc_x]
    exact led_l hc (hj.t 0) hw x2 (n 2) 0 0 FU FU (by omega) (fu (by omega)) (fu (by omega))
theorem t_turn {C R : MM} (h : TOP C R) (x1 x2 : Int32) : FT C R (f_X11_turn C 1 x1 x2) (f_X13_turn R 118 x1 x2) := by
  have h0 := h
  obtain ⟨jo, sc, ic, sp, hS, hR, hQ, hP, hV, hD, hI⟩ := h
  have hi := ic14 hS
  unfold f_X11_turn f_X13_turn
  rcases hI with ⟨hb, hr, -⟩ | ⟨j, D, n, hc, hj, hT, hJ⟩
  · refine (QQ.mk 0 1 (by decide) ?_ ?_).top h0
    · simp only [hS.a5, oc_x, oc_z, ob_s, if_true, if_false, l00, l01, l02, l10, l11, l12, (bare_n hb _).2.2.1, f_X11_denied]
    · simp only [oc_x, oc_z, ob_s, if_true, if_false, l00, l01, l02, l10, l11, l12, (rnone (M := pI R 118 0 0) hr _).2.2.1, f_X13_denied, f_X13_refused]
      rfl
  have n10 := hc.nb.2.2.1
  have hg := hj.g
  rcases inr x1 (show n 2 < 2147483648 by omega) with h1 | ⟨k, hk, rfl⟩
  · refine (QQ.mk 0 1 (by decide) ?_ ?_).top h0
    · simp only [hS.a5, oc_x, oc_z, ob_s, if_true, if_false, l00, l01, l02, l10, l11, l12, statueAt_n hc.is hc.cn.2.2.1 h1, f_X11_denied]
    · simp only [oc_x, oc_z, ob_s, if_true, if_false, l00, l01, l02, l10, l11, l12, isStatue_n (hj.t 0) hc.dn.2.2.1 h1, f_X13_denied, f_X13_refused]
      rfl
  have r1 := isStatue_s (hj.t 0) hc.dn.2.2.1 hk (show n 2 < 100 by omega)
  rcases lie01 x2 with h3 | ⟨h3, l, hl, rfl⟩
  · refine (QQ.mk 0 1 (by decide) ?_ ?_).top h0
    · simp only [hS.a5, oc_x, oc_z, ob_s, if_true, if_false, l00, l01, l02, l10, l11, l12, hc.s hk, lie_c, h3, f_X11_denied]
    · simp only [oc_x, oc_z, ob_s, if_true, if_false, l00, l01, l02, l10, l11, l12, r1, in_eq, h3, f_X13_denied, f_X13_refused]
      rfl
  have es := hc.ce.2.2.1 k hk
  have t10 : k < 10 := by omega
  by_cases h5 : D 10 k = 5
  · obtain ⟨D', hD'⟩ : ∃ D' : DT, D' = fun c i => if c = 11 ∧ i = k then nI l else D c i := ⟨_, rfl⟩
    have dn : ∀ c i, c ≠ 11 ∨ i ≠ k → D' c i = D c i := fun c i q => by rw [hD']; exact if_neg (by omega)
    have dl : D' 11 k = nI l := by rw [hD']; exact if_pos ⟨rfl, rfl⟩
    refine ⟨1, pI (pI C (ic + (19 + k)) 4 (nI l)) 1 7 0, pI (pI (pI (pI R 118 0 0) (j + 11) k (nI l)) 118 1 0) 118 2 (-1), ?_, ?_, ?_⟩
    · simp only [hS.a5, oc_x, oc_z, ob_s, if_true, if_false, l00, l01, l02, l10, l11, l12, hc.s hk, lie_c, h3, isLying_c, es.2.2.2.1, if_pos h5, f_X11_allowed]
    · simp only [oc_x, oc_z, ob_s, if_true, if_false, l00, l01, l02, l10, l11, l12, r1, in_eq, h3, (hj.t 0).j, (hj.t 0).s.k18, (hj.t 0).s.k19, chk_m t10 (show (10 : Nat) < 2147483648 by decide), ix_n (show k < 2147483648 by omega), sort_r (hj.t 0) t10, if_pos h5, f_X13_granted, f_X13_done]
    · have e : ∀ a i, (a ≠ 1 ∧ (a ≠ ic + (19 + k) ∨ i ≠ 4)) → gI (pI (pI C (ic + (19 + k)) 4 (nI l)) 1 7 0) a i = gI C a i := fun a i q => by rw [gI_pIn (by omega), gI_pIn (by omega)]
      have r : ∀ a i, (a = 118 ∧ 3 ≤ i) ∨ (a ≠ 118 ∧ (a ≠ j + 11 ∨ i ≠ k)) → gI (pI (pI (pI (pI R 118 0 0) (j + 11) k (nI l)) 118 1 0) 118 2 (-1)) a i = gI R a i := fun a i q => by rw [gI_pIn (by omega), gI_pIn (by omega), gI_pIn (by omega), gI_pIn (by omega)]
      have hc' : CI (pI (pI C (ic + (19 + k)) 4 (nI l)) 1 7 0) ic D' n := by
        refine ⟨hc.is.congr rfl, hc.nb, ?_, ?_, ?_, ?_, ?_, hc.n0⟩
        · obtain ⟨v1, v2, v3, v4, v5⟩ := hc.vd
          refine ⟨fun i q => ?_, fun i q => ?_, fun i q => ?_, fun i q => ?_, fun i q => ?_⟩
          · have := v1 i q
            unfold VW at *
            rw [dn 1 i (by omega), dn 3 i (by omega)]; exact this
          · have := v2 i q
            unfold VR at *
            rw [dn 5 i (by omega)]; exact this
          · obtain ⟨w1, w2⟩ := v3 i q
            refine ⟨by rw [dn 8 i (by omega)]; exact w1, fun z => ?_⟩
            rw [dn 10 i (by omega)] at z
            obtain ⟨l', r', p', h', y1, y2, y3, y4, y5, y6, y7, y8⟩ := w2 z
            by_cases qk : i = k
            · subst qk
              exact ⟨l, r', p', h', hl, y2, y3, y4, dl, by rw [dn 12 i (by omega)]; exact y6, by rw [dn 13 i (by omega)]; exact y7, by rw [dn 5 r' (by omega)]; exact y8⟩
            · exact ⟨l', r', p', h', y1, y2, y3, y4, by rw [dn 11 i (by omega)]; exact y5, by rw [dn 12 i (by omega)]; exact y6, by rw [dn 13 i (by omega)]; exact y7, by rw [dn 5 r' (by omega)]; exact y8⟩
          · have := v4 i q
            unfold VT at *
            rw [dn 14 i (by omega), dn 15 i (by omega), dn 17 i (by omega)]; exact this
          · have := v5 i q
            unfold VY at *
            rw [dn 20 i (by omega), dn 22 i (by omega)]; exact this
        · obtain ⟨v1, v2, v3, v4, v5, v6, v7⟩ := hc.ce
          have n4 := hc.nb.1
          have n3 := hc.nb.2.1
          have n5 := hc.nb.2.2.2.1
          have n5' := hc.nb.2.2.2.2.1
          have n3' := hc.nb.2.2.2.2.2.1
          have n5'' := hc.nb.2.2.2.2.2.2
          refine ⟨fun i q => ?_, fun i q => ?_, fun i q => ?_, fun i q => ?_, fun i q => ?_, fun i q => ?_, fun i q => ?_⟩
          · have := v1 i q
            unfold EW at *
            simp (disch := omega) only [e, dn]; exact this
          · have := v2 i q
            unfold ER at *
            simp (disch := omega) only [e, dn]; exact this
          · obtain ⟨w0, w1, w2, w3, w4, w5, w6, w7⟩ := v3 i q
            refine ⟨?_, ?_, ?_, ?_, ?_, ?_, ?_, ?_⟩
            · rw [e _ 0 (by omega), dn 7 i (by omega)]; exact w0
            · rw [e _ 1 (by omega), dn 8 i (by omega)]; exact w1
            · rw [e _ 2 (by omega), dn 9 i (by omega)]; exact w2
            · rw [e _ 3 (by omega), dn 10 i (by omega)]; exact w3
            · by_cases qk : i = k
              · subst qk
                rw [dl, gI_pIa (by omega), gI_pIs]
              · rw [e _ 4 (by omega), dn 11 i (by omega)]; exact w4
            · rw [e _ 5 (by omega), dn 12 i (by omega)]; exact w5
            · rw [e _ 6 (by omega), dn 13 i (by omega)]; exact w6
            · intro z r' p' y1 y2 y3 y4
              rw [dn 10 i (by omega)] at z
              rw [dn 12 i (by omega)] at y1
              rw [dn 13 i (by omega)] at y2
              rw [e _ 7 (by omega), dn 6 _ (by omega)]
              exact w7 z r' p' y1 y2 y3 y4
          · have := v4 i q
            unfold ET at *
            simp (disch := omega) only [e, dn]; exact this
          · have := v5 i q
            unfold EY at *
            simp (disch := omega) only [e, dn]; exact this
          · have := v6 i q
            unfold EL at *
            simp (disch := omega) only [e, dn]; exact this
          · have := v7 i q
            unfold EX at *
            simp (disch := omega) only [e, dn]; exact this
        · have := hc.cn
          unfold CN at *
          simp (disch := omega) only [e]; exact this
        · have := hc.ef
          unfold EF at *
          simp (disch := omega) only [e, dn]; exact this
        · have := hc.dn
          unfold DN at *
          simp (disch := omega) only [dn]; exact this
      have hj' : RI (pI (pI (pI (pI R 118 0 0) (j + 11) k (nI l)) 118 1 0) 118 2 (-1)) j D' := by
        refine ⟨hj.j, hj.s.congr rfl, hj.g, fun c i hcc => ?_⟩
        by_cases q : c = 11 ∧ i = k
        · obtain ⟨rfl, rfl⟩ := q
          rw [dl, gI_pIa (by omega), gI_pIa (by omega), gI_pIs]
        · rw [dn c i (by omega), r (j + c) i (by omega)]
          exact hj.d c i hcc
      have tree_e : ∀ i y, tree D' i y = tree D i y := by
        intro i y
        induction y with
        | zero => exact dn 0 27 (by omega)
        | succ y ih => rw [tree, tree, ih, dn 20 i (by omega), dn 21 i (by omega), dn 22 i (by omega), dn 0 28 (by omega), dn 0 29 (by omega)]
      have hT' : TR (pI (pI C (ic + (19 + k)) 4 (nI l)) 1 7 0) ic D' n := by
        intro z i hi4 y hy
        rw [dn 0 27 (by omega)] at z
        rw [e _ y (by omega), tree_e]
        exact hT z i hi4 y hy
      refine ⟨jo, sc, ic, sp, hS.congr rfl, hR.congr rfl, ?_, ?_, ?_, ?_, Or.inr ⟨j, D', n, hc', hj', hT', ?_⟩⟩
      · refine TQ.mk' (tr := 0) (by decide) (gI_pIs _ _ _ _) ?_ (gI_pIs _ _ _ _) ?_
        · rw [gI_pIk (by decide), gI_pIs]
        · rw [e 4 5 (by omega), r 118 13 (by omega)]; exact hQ.2.1
      · unfold TP at *
        simp (disch := omega) only [e, r]
        exact hP
      · unfold SR at *
        simp (disch := omega) only [e, r]
        exact hV
      · unfold SD at *
        simp (disch := omega) only [e, r]
        exact hD
      · rcases hJ with hJ | hJ
        · refine Or.inl ?_
          unfold JN at *
          simp (disch := omega) only [e, r]
          exact hJ
        · refine Or.inr ?_
          have ej : ∀ i, gI (pI (pI C (ic + (19 + k)) 4 (nI l)) 1 7 0) jo i = gI C jo i := fun i => e jo i (by omega)
          unfold JB at *
          simp only [ej]
          simp (disch := omega) only [r, dn]
          exact hJ
  · refine (QQ.mk 0 5 (by decide) ?_ ?_).top h0
    · simp only [hS.a5, oc_x, oc_z, ob_s, if_true, if_false, l00, l01, l02, l10, l11, l12, hc.s hk, lie_c, h3, isLying_c, es.2.2.2.1, if_neg h5, f_X11_denied]
    · simp only [oc_x, oc_z, ob_s, if_true, if_false, l00, l01, l02, l10, l11, l12, r1, in_eq, h3, (hj.t 0).j, (hj.t 0).s.k18, chk_m t10 (show (10 : Nat) < 2147483648 by decide), ix_n (show k < 2147483648 by omega), sort_r (hj.t 0) t10, if_neg h5, f_X13_denied, f_X13_refused]
      rfl
/-! FEED -/
def byt (x : Int32) (i : Nat) : Int32 := vp_nar .byte ((x >>> (nI (24 - 8 * i) &&& 31)).toInt8.toInt32)
theorem byt_b (x : Int32) (i : Nat) : ∃ z : Int32, byt x i = z.toInt8.toInt32 := ⟨_, vp_nar_byte _⟩
theorem shifts : ∀ k, k < 20 → (24 - 8 * (nI k - nI k / 4 * 4) : Int32) = nI (24 - 8 * (k % 4)) := by decide +kernel
theorem put_s {M : MM} {f s i : Nat} {x : Int32} (h0 : gR M 2 0 = some 3) (h1 : gI M 2 1 = nI s) (hs : s < 900) (hi : i < 4) : f_X7_put_L3 (f + 1) M 2 x (nI (24 - 8 * i)) = f_X7_put_L3 f (pI (pI M 3 s (byt x i)) 2 1 (nI (s + 1))) 2 x (nI (24 - 8 * i) + (-8)) := by
  rw [f_X7_put_L3, if_neg (nneg (by omega)), h0, oc_x, h1, if_neg (show ¬ (900 : Int32) ≤ nI s from nI_ge (b := 900) (by omega) (by decide)), oc_x, chk_n hs (by decide), ix_n (by omega), gI_pIa (show 2 ≠ 3 by decide), h1, nI_1 s]
  rfl
def put4 (M : MM) (x : Int32) (s : Nat) : MM := pI (pI (pI (pI (pI (pI (pI (pI M 3 s (byt x 0)) 2 1 (nI (s + 1))) 3 (s + 1) (byt x 1)) 2 1 (nI (s + 2))) 3 (s + 2) (byt x 2)) 2 1 (nI (s + 3))) 3 (s + 3) (byt x 3)) 2 1 (nI (s + 4))
theorem put_c {M : MM} {s : Nat} {x : Int32} (h0 : gR M 2 0 = some 3) (h1 : gI M 2 1 = nI s) (hs : s + 4 ≤ 900) : f_X7_put M 2 x = some (put4 M x s) := by
  unfold f_X7_put
  rw [show FU = 2995 + 1 + 1 + 1 + 1 + 1 from rfl, show (24 : Int32) = nI (24 - 8 * 0) from rfl, put_s h0 h1 (by omega) (by decide)]
  rw [show nI (24 - 8 * 0) + (-8 : Int32) = nI (24 - 8 * 1) by decide, put_s (M := pI (pI M 3 s (byt x 0)) 2 1 (nI (s + 1))) (s := s + 1) (i := 1) h0 (gI_pIs _ _ _ _) (by omega) (by decide)]
  rw [show nI (24 - 8 * 1) + (-8 : Int32) = nI (24 - 8 * 2) by decide, put_s (M := pI (pI (pI (pI M 3 s (byt x 0)) 2 1 (nI (s + 1))) 3 (s + 1) (byt x 1)) 2 1 (nI (s + 1 + 1))) (s := s + 1 + 1) (i := 2) h0 (gI_pIs _ _ _ _) (by omega) (by decide)]
  rw [show nI (24 - 8 * 2) + (-8 : Int32) = nI (24 - 8 * 3) by decide, put_s (M := pI (pI (pI (pI (pI (pI M 3 s (byt x 0)) 2 1 (nI (s + 1))) 3 (s + 1) (byt x 1)) 2 1 (nI (s + 1 + 1))) 3 (s + 1 + 1) (byt x 2)) 2 1 (nI (s + 1 + 1 + 1))) (s := s + 1 + 1 + 1) (i := 3) h0 (gI_pIs _ _ _ _) (by omega) (by decide)]
  rw [f_X7_put_L3, if_pos (by decide)]
  rfl
def sel (a b c d e : Int32) (k : Nat) : Int32 := if k < 4 then a else if k < 8 then b else if k < 12 then c else if k < 16 then d else e
theorem feed_s {M : MM} {f s k : Nat} {a b c d e : Int32} (h0 : gR M 118 5 = some 119) (h1 : gI M 118 6 = nI s) (hs : s < 900) (hk : k < 20) : f_X13_feed_L23 (f + 1) M 118 a b c d e (nI k) = f_X13_feed_L23 f (pI (pI M 119 s (byt (sel a b c d e k) (k % 4))) 118 6 (nI (s + 1))) 118 a b c d e (nI (k + 1)) := by
  have le : ∀ m, m < 100 → ((nI m ≤ nI k) ↔ m ≤ k) := fun m hm => nI_leI (by omega) (by omega)
  rw [f_X13_feed_L23, if_neg (show ¬ (20 : Int32) ≤ nI k from nI_ge (b := 20) hk (by decide)), h0, oc_x, oc_x, oc_x, oc_x, oc_x, h1, chk_n hs (by decide), chk_n hs (by decide), chk_n hs (by decide), chk_n hs (by decide), chk_n hs (by decide), ix_n (by omega), gI_pIa (show 118 ≠ 119 by decide), gI_pIa (show 118 ≠ 119 by decide), gI_pIa (show 118 ≠ 119 by decide), gI_pIa (show 118 ≠ 119 by decide), gI_pIa (show 118 ≠ 119 by decide), h1, nI_1 s, nI_1 k, shifts k hk]
  unfold sel byt
  by_cases c4 : k < 4
  · rw [if_neg (show ¬ (4 : Int32) ≤ nI k from nI_ge (b := 4) c4 (by decide)), if_pos c4]
  · rw [if_pos (show (4 : Int32) ≤ nI k from nI_le (a := 4) (by omega) (by omega)), if_neg c4]
    by_cases c8 : k < 8
    · rw [if_neg (show ¬ (8 : Int32) ≤ nI k from nI_ge (b := 8) c8 (by decide)), if_pos c8]
    · rw [if_pos (show (8 : Int32) ≤ nI k from nI_le (a := 8) (by omega) (by omega)), if_neg c8]
      by_cases c12 : k < 12
      · rw [if_neg (show ¬ (12 : Int32) ≤ nI k from nI_ge (b := 12) c12 (by decide)), if_pos c12]
      · rw [if_pos (show (12 : Int32) ≤ nI k from nI_le (a := 12) (by omega) (by omega)), if_neg c12]
        by_cases c16 : k < 16
        · rw [if_neg (show ¬ (16 : Int32) ≤ nI k from nI_ge (b := 16) c16 (by decide)), if_pos c16]
        · rw [if_pos (show (16 : Int32) ≤ nI k from nI_le (a := 16) (by omega) (by omega)), if_neg c16]
/-- the tape, filled by so many bytes of x -/
def FE (C R : MM) (t : Nat) : Prop := t ≤ 900 ∧ gI C 2 1 = nI t ∧ gI R 118 6 = nI t ∧ ∀ k, k < t → gI C 3 k = gI R 119 k ∧ ∃ z : Int32, gI C 3 k = z.toInt8.toInt32
theorem feed4 {C R : MM} {f s k : Nat} {a b c d e x : Int32} (hC : gR C 2 0 = some 3) (hR : gR R 118 5 = some 119) (h : FE C R s) (hs : s + 4 ≤ 900) (hk : k < 17) (k4 : k % 4 = 0) (x0 : sel a b c d e k = x) (x1 : sel a b c d e (k + 1) = x) (x2 : sel a b c d e (k + 2) = x) (x3 : sel a b c d e (k + 3) = x) :
    ∃ C' R', f_X7_put C 2 x = some C' ∧ f_X13_feed_L23 (f + 1 + 1 + 1 + 1) R 118 a b c d e (nI k) = f_X13_feed_L23 f R' 118 a b c d e (nI (k + 4)) ∧ FE C' R' (s + 4) ∧ C'.2 = C.2 ∧ R'.2 = R.2 ∧ (∀ p q, p ≠ 3 ∧ (p ≠ 2 ∨ q ≠ 1) → gI C' p q = gI C p q) ∧ (∀ p q, p ≠ 119 ∧ (p ≠ 118 ∨ q ≠ 6) → gI R' p q = gI R p q) := by
  obtain ⟨g1, g2, g3, g4⟩ := h
  refine ⟨put4 C x s, pI (pI (pI (pI (pI (pI (pI (pI R 119 s (byt x 0)) 118 6 (nI (s + 1))) 119 (s + 1) (byt x 1)) 118 6 (nI (s + 2))) 119 (s + 2) (byt x 2)) 118 6 (nI (s + 3))) 119 (s + 3) (byt x 3)) 118 6 (nI (s + 4)), put_c hC g2 hs, ?_, ⟨hs, gI_pIs _ _ _ _, gI_pIs _ _ _ _, fun q hq => ?_⟩, rfl, rfl, fun p q hpq => ?_, fun p q hpq => ?_⟩
  · rw [feed_s hR g3 (by omega) (by omega), x0, k4]
    rw [feed_s (M := pI (pI R 119 s (byt x 0)) 118 6 (nI (s + 1))) (s := s + 1) (k := k + 1) hR (gI_pIs _ _ _ _) (by omega) (by omega), x1, show (k + 1) % 4 = 1 by omega]
    rw [feed_s (M := pI (pI (pI (pI R 119 s (byt x 0)) 118 6 (nI (s + 1))) 119 (s + 1) (byt x 1)) 118 6 (nI (s + 1 + 1))) (s := s + 1 + 1) (k := k + 1 + 1) hR (gI_pIs _ _ _ _) (by omega) (by omega), x2, show (k + 1 + 1) % 4 = 2 by omega]
    rw [feed_s (M := pI (pI (pI (pI (pI (pI R 119 s (byt x 0)) 118 6 (nI (s + 1))) 119 (s + 1) (byt x 1)) 118 6 (nI (s + 1 + 1))) 119 (s + 1 + 1) (byt x 2)) 118 6 (nI (s + 1 + 1 + 1))) (s := s + 1 + 1 + 1) (k := k + 1 + 1 + 1) hR (gI_pIs _ _ _ _) (by omega) (by omega), x3, show (k + 1 + 1 + 1) % 4 = 3 by omega]
  · unfold put4
    by_cases c3 : q = s + 3
    · subst c3
      simp (disch := omega) only [gI_pIs, gI_pIn]
      exact ⟨trivial, byt_b x 3⟩
    · by_cases c2 : q = s + 2
      · subst c2
        simp (disch := omega) only [gI_pIs, gI_pIn]
        exact ⟨trivial, byt_b x 2⟩
      · by_cases c1 : q = s + 1
        · subst c1
          simp (disch := omega) only [gI_pIs, gI_pIn]
          exact ⟨trivial, byt_b x 1⟩
        · by_cases c0 : q = s
          · subst c0
            simp (disch := omega) only [gI_pIs, gI_pIn]
            exact ⟨trivial, byt_b x 0⟩
          · simp (disch := omega) only [gI_pIn]
            exact g4 q (by omega)
  · unfold put4
    simp (disch := omega) only [gI_pIn]
  · simp (disch := omega) only [gI_pIn]
theorem t_feed {C R : MM} (h : TOP C R) (a b c d e : Int32) : FT C R (f_X11_feed C 1 a b c d e) (f_X13_feed R 118 a b c d e) := by
  have h0 := h
  obtain ⟨jo, sc, ic, sp, hS, hR, hQ, ⟨t, ht, t1, t2, t3⟩, hV, hD, hI⟩ := h
  have hi := ic14 hS
  unfold f_X11_feed f_X13_feed f_X7_hasRoomFor
  rw [hS.a0, oc_x, hS.t0, oc_x, t1, show (20 : Int32) = nI 20 from rfl, nI_add, gI_pIk (show 6 ≠ 0 by decide), t2, nI_add]
  by_cases hr : t + 20 ≤ 900
  · rw [if_neg (show ¬ (900 : Int32) < nI (t + 20) from nI_nlt (a := 900) (by omega) (by decide)), ob_s, if_neg (show ¬ (1 : Int32) = 0 by decide), oc_x, if_pos (show nI (t + 20) ≤ (900 : Int32) from nI_le (b := 900) (by omega) (by decide))]
    have F0 : FE C (pI R 118 0 0) t := ⟨ht, t1, by rw [gI_pIk (by decide)]; exact t2, fun k hk => by rw [gI_pIa (show 119 ≠ 118 by decide)]; exact t3 k hk⟩
    obtain ⟨C1, R1, p1, q1, F1, eC1, eR1, fC1, fR1⟩ := feed4 (C := C) (R := pI R 118 0 0) (f := 2980 + 1 + 1 + 1 + 1 + 1 + 1 + 1 + 1 + 1 + 1 + 1 + 1 + 1 + 1 + 1 + 1) (k := 0) (a := a) (b := b) (c := c) (d := d) (e := e) (x := a) hS.t0 hR.1 F0 (by omega) (by omega) rfl rfl rfl rfl rfl
    have s1 : ST C1 jo sc ic sp := hS.congr (congrArg Prod.snd eC1)
    have u1 : RT R1 := hR.congr (congrArg Prod.snd eR1)
    obtain ⟨C2, R2, p2, q2, F2, eC2, eR2, fC2, fR2⟩ := feed4 (f := 2980 + 1 + 1 + 1 + 1 + 1 + 1 + 1 + 1 + 1 + 1 + 1 + 1) (k := 4) (a := a) (b := b) (c := c) (d := d) (e := e) (x := b) s1.t0 u1.1 F1 (by omega) (by omega) rfl rfl rfl rfl rfl
    have s2 : ST C2 jo sc ic sp := s1.congr (congrArg Prod.snd eC2)
    have u2 : RT R2 := u1.congr (congrArg Prod.snd eR2)
    obtain ⟨C3, R3, p3, q3, F3, eC3, eR3, fC3, fR3⟩ := feed4 (f := 2980 + 1 + 1 + 1 + 1 + 1 + 1 + 1 + 1) (k := 8) (a := a) (b := b) (c := c) (d := d) (e := e) (x := c) s2.t0 u2.1 F2 (by omega) (by omega) rfl rfl rfl rfl rfl
    have s3 : ST C3 jo sc ic sp := s2.congr (congrArg Prod.snd eC3)
    have u3 : RT R3 := u2.congr (congrArg Prod.snd eR3)
    obtain ⟨C4, R4, p4, q4, F4, eC4, eR4, fC4, fR4⟩ := feed4 (f := 2980 + 1 + 1 + 1 + 1) (k := 12) (a := a) (b := b) (c := c) (d := d) (e := e) (x := d) s3.t0 u3.1 F3 (by omega) (by omega) rfl rfl rfl rfl rfl
    have s4 : ST C4 jo sc ic sp := s3.congr (congrArg Prod.snd eC4)
    have u4 : RT R4 := u3.congr (congrArg Prod.snd eR4)
    obtain ⟨C5, R5, p5, q5, F5, eC5, eR5, fC5, fR5⟩ := feed4 (f := 2980) (k := 16) (a := a) (b := b) (c := c) (d := d) (e := e) (x := e) s4.t0 u4.1 F4 (by omega) (by omega) rfl rfl rfl rfl rfl
    have s5 : ST C5 jo sc ic sp := s4.congr (congrArg Prod.snd eC5)
    have u5 : RT R5 := u4.congr (congrArg Prod.snd eR5)
    refine ⟨nI (t + 4 + 4 + 4 + 4 + 4), C5, R5, ?_, ?_, ?_⟩
    · rw [p1, ob_s, s1.a0, oc_x, p2, ob_s, s2.a0, oc_x, p3, ob_s, s3.a0, oc_x, p4, ob_s, s4.a0, oc_x, p5, ob_s, s5.a0, oc_x, F5.2.1]
    · rw [show FU = 2980 + 1 + 1 + 1 + 1 + 1 + 1 + 1 + 1 + 1 + 1 + 1 + 1 + 1 + 1 + 1 + 1 + 1 + 1 + 1 + 1 from rfl, show f_X13_feed_L23 (2980 + 1 + 1 + 1 + 1 + 1 + 1 + 1 + 1 + 1 + 1 + 1 + 1 + 1 + 1 + 1 + 1 + 1 + 1 + 1 + 1) (pI R 118 0 0) 118 a b c d e 0 = _ from q1, q2, q3, q4, q5, show (2980 : Nat) = 2979 + 1 from rfl, f_X13_feed_L23, if_pos (show (20 : Int32) ≤ nI (16 + 4) by decide), F5.2.2.1]
    · have e' : ∀ p q, p ≠ 3 ∧ (p ≠ 2 ∨ q ≠ 1) → gI C5 p q = gI C p q := fun p q z => (fC5 p q z).trans ((fC4 p q z).trans ((fC3 p q z).trans ((fC2 p q z).trans (fC1 p q z))))
      have r' : ∀ p q, p ≠ 119 ∧ (p ≠ 118 ∨ (q ≠ 6 ∧ q ≠ 0)) → gI R5 p q = gI R p q := fun p q z => (fR5 p q (by omega)).trans ((fR4 p q (by omega)).trans ((fR3 p q (by omega)).trans ((fR2 p q (by omega)).trans ((fR1 p q (by omega)).trans (gI_pIn (by omega))))))
      have eC : C5.2.2 = C.2.2 := (congrArg Prod.snd eC5).trans ((congrArg Prod.snd eC4).trans ((congrArg Prod.snd eC3).trans ((congrArg Prod.snd eC2).trans (congrArg Prod.snd eC1))))
      have eR : R5.2.2 = R.2.2 := (congrArg Prod.snd eR5).trans ((congrArg Prod.snd eR4).trans ((congrArg Prod.snd eR3).trans ((congrArg Prod.snd eR2).trans (congrArg Prod.snd eR1))))
      refine ⟨jo, sc, ic, sp, s5, u5, ?_, ⟨_, F5⟩, ?_, ?_, ?_⟩
      · unfold TQ at *
        simp (disch := omega) only [e', r']
        exact hQ
      · unfold SR at *
        simp (disch := omega) only [e', r']
        exact hV
      · unfold SD at *
        simp (disch := omega) only [e', r']
        exact hD
      · rcases hI with ⟨h1, h2, h3, h4, h5⟩ | ⟨j, D, n, h1, h2, h3, h5⟩
        · refine Or.inl ⟨h1.congr (fun a k q => e' a k (by omega)) eC hi.1, by unfold gR; rw [eR]; exact h2, ?_, ?_, ?_⟩
          · unfold JN at *
            simp (disch := omega) only [e', r']
            exact h3
          · rw [e' jo 0 (by omega)]; exact h4
          · rw [e' 8 3 (by omega)]; exact h5
        · refine Or.inr ⟨j, D, n, h1.congr (fun a k q => e' a k (by omega)) eC hi.1, h2.congr (fun a k q => r' a k (by omega)) eR, h3.congr (fun a k q => e' a k (by omega)) hi.1, ?_⟩
          unfold JN JB at *
          simp (disch := omega) only [e', r']
          exact h5
  · rw [if_pos (show (900 : Int32) < nI (t + 20) from nI_lt (a := 900) (by omega) (by omega)), ob_s, if_pos rfl, if_neg (show ¬ nI (t + 20) ≤ (900 : Int32) from nI_ge (a := 900) (by omega) (by omega))]
    exact ⟨-1, C, _, rfl, rfl, h0.t 0⟩
