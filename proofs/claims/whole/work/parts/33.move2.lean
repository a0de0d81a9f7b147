/-! MOVES: the calls -/
def FT (C R : MM) (x y : Option (Int32 × MM)) : Prop := ∃ r C' R', x = some (r, C') ∧ y = some (r, R') ∧ TOP C' R'
def FL (C R : MM) (x y : Option (Int64 × MM)) : Prop := ∃ r C' R', x = some (r, C') ∧ y = some (r, R') ∧ TOP C' R'
theorem TQ.mk' {C R : MM} {tr : Int32} (h4 : tr ≠ 4) (h1 : gI C 1 7 = tr) (h2 : gI R 118 1 = tr) (h3 : gI R 118 2 = -1) (h5 : gI C 4 5 = gI R 118 13) : TQ C R :=
  ⟨h1.trans h2.symm, h5, by rw [h3, h1, if_neg h4]⟩
/-- calls of the moves: the rest stands -/
theorem TOP.mv {C R C' R' : MM} {ic sp jo' sc' : Nat} (hR : RT R) (hP : TP C R) (hV : SR C R) (hS' : ST C' jo' sc' ic sp) (eR : R'.2.2 = R.2.2) (e : ∀ a k, (2 ≤ a ∧ a < 12) ∨ 14 ≤ a → gI C' a k = gI C a k) (r : ∀ a k, a ≠ 118 ∨ (3 ≤ k ∧ (k < 16 ∨ 24 < k)) → gI R' a k = gI R a k) (hQ : TQ C' R') (hD : SD C' R' jo') (hI : IJ C' R' jo' ic) : TOP C' R' := by
  refine ⟨jo', sc', ic, sp, hS', hR.congr eR, hQ, ?_, ?_, hD, hI⟩
  · unfold TP at *
    simp (disch := omega) only [e, r]
    exact hP
  · unfold SR at *
    simp (disch := omega) only [e, r]
    exact hV
theorem t_seed {C R : MM} (h : TOP C R) (x1 : Int32) : FT C R (f_X11_seed C 1 x1) (f_X13_seed R 118 x1) := by
  have h0 := h
  obtain ⟨jo, sc, ic, sp, hS, hR, hQ, hP, hV, hD, hI⟩ := h
  have hi := ic14 hS
  unfold f_X11_seed f_X13_seed
  rcases hI with ⟨hb, hr, -⟩ | ⟨j, D, n, hc, hj, hT, hJ⟩
  · refine (QQ.mk 0 1 (by decide) ?_ ?_).top h0
    · simp only [hS.a5, oc_x, oc_z, ob_s, if_true, if_false, l00, l01, l02, l10, l11, l12, bare_b hb, f_X11_denied]
    · rw [show gR (pI R 118 0 0) 118 3 = none from hr, oc_z]
      simp only [oc_x, oc_z, ob_s, if_true, if_false, l00, l01, l02, l10, l11, l12, f_X13_denied, f_X13_refused]
      rfl
  rcases rng x1 0 65536 with ⟨h2, h3⟩ | ⟨h2, h2', h3⟩ | ⟨h2, h2', h3⟩
  · refine (QQ.mk 0 2 (by decide) ?_ ?_).top h0
    · simp only [hS.a5, oc_x, oc_z, ob_s, if_true, if_false, l00, l01, l02, l10, l11, l12, live_b hc, if_pos h2, f_X11_denied]
    · simp only [oc_x, oc_z, ob_s, if_true, if_false, l00, l01, l02, l10, l11, l12, (hj.t 0).j, in_eq, h3, f_X13_denied, f_X13_refused]
      rfl
  · refine (QQ.mk 0 2 (by decide) ?_ ?_).top h0
    · simp only [hS.a5, oc_x, oc_z, ob_s, if_true, if_false, l00, l01, l02, l10, l11, l12, live_b hc, if_neg h2, if_neg h2', f_X11_denied]
    · simp only [oc_x, oc_z, ob_s, if_true, if_false, l00, l01, l02, l10, l11, l12, (hj.t 0).j, in_eq, h3, f_X13_denied, f_X13_refused]
      rfl
  obtain ⟨v, hv, rfl⟩ := nI_of2 (M := 65536) (n := 65536) (by decide) h2 h2'
  refine ⟨1, pI (pI C jo 0 (nI v)) 1 7 0, pI (pI (pI (pI R 118 0 0) 118 16 (nI v)) 118 1 0) 118 2 (-1), ?_, ?_, ?_⟩
  · simp only [hS.a5, hS.a3, oc_x, oc_z, ob_s, if_true, if_false, l00, l01, l02, l10, l11, l12, live_b hc, if_neg h2, if_pos h2', f_X11_allowed]
  · simp only [oc_x, oc_z, ob_s, if_true, if_false, l00, l01, l02, l10, l11, l12, (hj.t 0).j, in_eq, h3, f_X13_granted, f_X13_done]
  · have e : ∀ a k, a ≠ 1 ∧ (a ≠ jo ∨ k ≠ 0) → gI (pI (pI C jo 0 (nI v)) 1 7 0) a k = gI C a k := fun a k q => by rw [gI_pIn (by omega), gI_pIn (by omega)]
    have r : ∀ a k, a ≠ 118 ∨ (3 ≤ k ∧ k ≠ 16) → gI (pI (pI (pI (pI R 118 0 0) 118 16 (nI v)) 118 1 0) 118 2 (-1)) a k = gI R a k := fun a k q => by rw [gI_pIn (by omega), gI_pIn (by omega), gI_pIn (by omega), gI_pIn (by omega)]
    refine TOP.mv (jo' := jo) (sc' := sc) (sp := sp) hR hP hV (hS.congr rfl) rfl (fun a k q => e a k (by omega)) (fun a k q => r a k (by omega)) ?_ ⟨v, hv, ?_, ?_⟩ ?_
    · refine TQ.mk' (tr := 0) (by decide) (gI_pIs _ _ _ _) ?_ (gI_pIs _ _ _ _) ?_
      · rw [gI_pIk (by decide), gI_pIs]
      · rw [e 4 5 (by omega), r 118 13 (by omega)]; exact hQ.2.1
    · rw [gI_pIa (by omega), gI_pIs]
    · rw [gI_pIk (by decide), gI_pIk (by decide), gI_pIs]
    · refine Or.inr ⟨j, D, n, hc.congr (fun a k q => e a k (by omega)) rfl hi.1, hj.congr (fun a k q => r a k (by omega)) rfl, hT.congr (fun a k q => e a k (by omega)) hi.1, ?_⟩
      unfold JN JB at *
      simp (disch := omega) only [e, r]
      exact hJ
theorem t_move {C R : MM} (h : TOP C R) (x1 x2 x3 x4 : Int32) : FT C R (f_X11_move C 1 x1 x2 x3 x4) (f_X13_move R 118 x1 x2 x3 x4) := by
  have h0 := h
  obtain ⟨jo, sc, ic, sp, hS, hR, hQ, hP, hV, hD, hI⟩ := h
  have hi := ic14 hS
  unfold f_X11_move f_X13_move
  rcases hI with ⟨hb, hr, -⟩ | ⟨j, D, n, hc, hj, hT, hJ⟩
  · refine (QQ.mk 0 1 (by decide) ?_ ?_).top h0
    · simp only [hS.a5, oc_x, oc_z, ob_s, if_true, if_false, l00, l01, l02, l10, l11, l12, (bare_h hb _).2.2, f_X11_denied]
    · simp only [oc_x, oc_z, ob_s, if_true, if_false, l00, l01, l02, l10, l11, l12, (rnone (M := pI R 118 0 0) hr _).2.2.1, f_X13_denied, f_X13_refused]
      rfl
  have n4 := hc.nb.1
  have n3 := hc.nb.2.1
  have n10 := hc.nb.2.2.1
  rcases inr x1 (show n 2 < 2147483648 by omega) with h1 | ⟨st, hst, rfl⟩
  · refine (QQ.mk 0 1 (by decide) ?_ ?_).top h0
    · simp only [hS.a5, oc_x, oc_z, ob_s, if_true, if_false, l00, l01, l02, l10, l11, l12, has2_n hc.is hc.cn.2.2.1 h1, f_X11_denied]
    · simp only [oc_x, oc_z, ob_s, if_true, if_false, l00, l01, l02, l10, l11, l12, isStatue_n (hj.t 0) hc.dn.2.2.1 h1, f_X13_denied, f_X13_refused]
      rfl
  have c1 := has2_s hc.is hc.cn.2.2.1 (show n 2 < 100 by omega) hst
  have r1 := isStatue_s (hj.t 0) hc.dn.2.2.1 hst (show n 2 < 100 by omega)
  rcases inr x2 (show n 0 < 2147483648 by omega) with h1 | ⟨w, hw, rfl⟩
  · refine (QQ.mk 0 1 (by decide) ?_ ?_).top h0
    · simp only [hS.a5, oc_x, oc_z, ob_s, if_true, if_false, l00, l01, l02, l10, l11, l12, c1, has0_n hc.is hc.cn.1 h1, f_X11_denied]
    · simp only [oc_x, oc_z, ob_s, if_true, if_false, l00, l01, l02, l10, l11, l12, r1, isWay_n (hj.t 0) hc.dn.1 h1, f_X13_denied, f_X13_refused]
      rfl
  have c2 := has0_s hc.is hc.cn.1 (show n 0 < 100 by omega) hw
  have r2 := isWay_s (hj.t 0) hc.dn.1 hw (show n 0 < 100 by omega)
  rcases inr x3 (show n 1 < 2147483648 by omega) with h1 | ⟨r, hr, rfl⟩
  · refine (QQ.mk 0 1 (by decide) ?_ ?_).top h0
    · simp only [hS.a5, oc_x, oc_z, ob_s, if_true, if_false, l00, l01, l02, l10, l11, l12, c1, c2, has1_n hc.is hc.cn.2.1 h1, f_X11_denied]
    · simp only [oc_x, oc_z, ob_s, if_true, if_false, l00, l01, l02, l10, l11, l12, r1, r2, isRoad_n (hj.t 0) hc.dn.2.1 h1, f_X13_denied, f_X13_refused]
      rfl
  have c3 := has1_s hc.is hc.cn.2.1 (show n 1 < 100 by omega) hr
  have r3 := isRoad_s (hj.t 0) hc.dn.2.1 hr (show n 1 < 100 by omega)
  rcases crowd01 x4 with h4 | ⟨h4, pe, pe1, pe2, rfl⟩
  · refine (QQ.mk 0 2 (by decide) ?_ ?_).top h0
    · simp only [hS.a5, oc_x, oc_z, ob_s, if_true, if_false, l00, l01, l02, l10, l11, l12, c1, c2, c3, crowd_c, h4, f_X11_denied]
    · simp only [oc_x, oc_z, ob_s, if_true, if_false, l00, l01, l02, l10, l11, l12, r1, r2, r3, in_eq, h4, f_X13_denied, f_X13_refused]
      rfl
  obtain ⟨sd, hsd, s1, s2⟩ := hD
  obtain ⟨hh, hh1, hh6, hhe⟩ := hc.vd.2.1 r hr
  obtain ⟨⟨kd, kd4, hkd⟩, -⟩ := hc.vd.1 w hw
  refine ⟨1, (pI (pI (pI (pI (pI (pI (pI (pI (pI (pI (pI C jo 1 1) jo 2 1) jo 4 (nI st)) jo 5 (nI w)) jo 6 (nI r)) jo 3 (nI pe)) jo 7 0) jo 8 0) jo 9 0) jo 10 (-2)) 1 7 0), (pI (pI (pI (pI (pI (pI (pI (pI (pI (pI (pI R 118 0 0) 118 17 (nI st)) 118 18 (nI w)) 118 19 (nI r)) 118 20 (nI pe)) 118 21 1) 118 22 0) 118 23 0) 118 24 (-2)) 118 1 0) 118 2 (-1)), ?_, ?_, ?_⟩
  · simp only [hS.a5, hS.a3, oc_x, oc_z, ob_s, if_true, if_false, l00, l01, l02, l10, l11, l12, c1, c2, c3, crowd_c, h4, f_X1_begin, f_X11_allowed]
  · simp only [oc_x, oc_z, ob_s, if_true, if_false, l00, l01, l02, l10, l11, l12, r1, r2, r3, in_eq, h4, f_X13_startsAnew, f_X13_granted, f_X13_done]
  · have e : ∀ a k, a ≠ 1 ∧ (a ≠ jo ∨ k = 0) → gI (pI (pI (pI (pI (pI (pI (pI (pI (pI (pI (pI C jo 1 1) jo 2 1) jo 4 (nI st)) jo 5 (nI w)) jo 6 (nI r)) jo 3 (nI pe)) jo 7 0) jo 8 0) jo 9 0) jo 10 (-2)) 1 7 0) a k = gI C a k := fun a k q => by
      simp (disch := omega) only [gI_pIn]
    have r : ∀ a k, a ≠ 118 ∨ (3 ≤ k ∧ (k < 17 ∨ 24 < k)) → gI (pI (pI (pI (pI (pI (pI (pI (pI (pI (pI (pI R 118 0 0) 118 17 (nI st)) 118 18 (nI w)) 118 19 (nI r)) 118 20 (nI pe)) 118 21 1) 118 22 0) 118 23 0) 118 24 (-2)) 118 1 0) 118 2 (-1)) a k = gI R a k := fun a k q => by
      simp (disch := omega) only [gI_pIn]
    refine TOP.mv (jo' := jo) (sc' := sc) (sp := sp) hR hP hV (hS.congr rfl) rfl (fun a k q => e a k (by omega)) (fun a k q => r a k (by omega)) ?_ ⟨sd, hsd, ?_, ?_⟩ ?_
    · refine TQ.mk' (tr := 0) (by decide) (gI_pIs _ _ _ _) ?_ (gI_pIs _ _ _ _) ?_
      · rw [gI_pIk (by decide), gI_pIs]
      · rw [e 4 5 (by omega), r 118 13 (by omega)]; exact hQ.2.1
    · rw [e jo 0 (by omega)]; exact s1
    · rw [r 118 16 (by omega)]; exact s2
    · refine Or.inr ⟨j, D, n, hc.congr (fun a k q => e a k (by omega)) rfl hi.1, hj.congr (fun a k q => r a k (by omega)) rfl, hT.congr (fun a k q => e a k (by omega)) hi.1, Or.inr ⟨st, w, _, pe, 1, 0, hh, kd, hst, hw, hr, ⟨pe1, pe2⟩, by omega, ⟨hh6, hhe⟩, ⟨kd4, hkd⟩, by omega, by omega, ?_⟩⟩
      simp (disch := omega) only [gI_pIs, gI_pIn]
      refine ⟨trivial, rfl, trivial, trivial, trivial, trivial, rfl, ?_, Or.inr ⟨by omega, trivial⟩, trivial, trivial, trivial, trivial, rfl, rfl, trivial, trivial⟩
      show (0 : Int32) = _ * nI 0
      rw [show nI 0 = (0 : Int32) from rfl, Int32.mul_zero]
theorem JB.b {C R : MM} {jo : Nat} {D : DT} {n : Nat → Nat} (h : JB C R jo D n) (hn : n 2 ≤ 10) : gI C jo 1 = 1 ∧ ¬ gI R 118 17 = -1 := by
  obtain ⟨st, w, r, pe, to, pl, hh, k, hst, hw, hr, hpe, hto, hhe, hk, h2, h3, g1, g2, g3, g4, g5, g6, g7, g9, g10, k17, k18⟩ := h
  exact ⟨g1, by rw [k17]; exact m1_nI (by omega)⟩
theorem jn_b {C R : MM} {jo ic : Nat} (h : IJ C R jo ic) (h1 : ¬ gI C jo 1 = 0) : ∃ j D n, CI C ic D n ∧ RI R j D ∧ TR C ic D n ∧ JB C R jo D n := by
  rcases h with ⟨-, -, h2, -⟩ | ⟨j, D, n, h3, h4, h5, h6 | h6⟩
  · exact absurd h2.1 h1
  · exact absurd h6.1 h1
  · exact ⟨j, D, n, h3, h4, h5, h6⟩
theorem jn_n {C R : MM} {jo ic : Nat} (h : IJ C R jo ic) (h1 : gI C jo 1 = 0) : gI R 118 17 = -1 := by
  rcases h with ⟨-, -, h2, -⟩ | ⟨j, D, n, h3, h4, h5, h6 | h6⟩
  · exact h2.2
  · exact h6.2
  · exact absurd ((h6.b h3.nb.2.2.1).1.symm.trans h1) (by decide)
theorem t_step {C R : MM} (h : TOP C R) : FT C R (f_X11_step C 1) (f_X13_step R 118) := by
  have h0 := h
  obtain ⟨jo, sc, ic, sp, hS, hR, hQ, hP, hV, hD, hI⟩ := h
  have hi := ic14 hS
  unfold f_X11_step f_X13_step
  rw [gI_pIk (show 17 ≠ 0 by decide), gI_pIk (show 21 ≠ 0 by decide)]
  by_cases hb : gI C jo 1 = 0
  · refine (QQ.mk (-1) 6 (by decide) ?_ ?_).top h0
    · simp only [hS.a3, oc_x, oc_z, ob_s, if_true, if_false, l00, l01, l02, l10, l11, l12, if_pos hb, f_X11_refused]
    · simp only [oc_x, oc_z, ob_s, if_true, if_false, l00, l01, l02, l10, l11, l12, if_pos (jn_n hI hb), f_X13_refused]
      rfl
  obtain ⟨j, D, n, hc, hj, hT, hJ⟩ := jn_b hI hb
  have hm := (hJ.b hc.nb.2.2.1).2
  obtain ⟨st, w, r, pe, to, pl, hh, k, hst, hw, hr, hpe, hto, ⟨hh6, hhe⟩, ⟨k4, hk⟩, h2, h3, g1, g2, g3, g4, g5, g6, g7, g9, g10, k17, k18, k19, k20, k21, k22, k23, k24⟩ := hJ
  obtain ⟨sd, hsd, s1, s2⟩ := hD
  by_cases ht : to = 1
  · subst ht
    have hlie : gI C jo 10 = -2 := by
      rcases g10 with ⟨q, -⟩ | ⟨-, q⟩
      · exact absurd q (by decide)
      · exact q
    have hJC : JC C (pI R 118 0 0) jo sd st w r pe pl (gI C jo 8) (stv 3 k * D 7 st) := by
      refine ⟨⟨s1, g2, g3, g4, g5, g6, g7, rfl, g9, hlie⟩, ?_⟩
      simp (disch := omega) only [gI_pIn]
      exact ⟨s2, k17, k18, k19, k20, k22, k23, k24.trans hlie⟩
    obtain ⟨t, C', R', e1, e2, sd', pl', mi', li, eC, eR, fC, fR, ht, hsd', ⟨c0, c2, c7, c8, c9, c10⟩, ⟨r16, r22, r23, r24⟩, hli, q1, q2, -⟩ := adv_p hi.1 hc (hj.t 0) (by omega) hst hw hr hpe hsd hhe hh6 k4 hk (h3 (by decide)) hJC
    refine ⟨nI t, pI C' 1 7 0, pI (pI (pI R' 118 21 (nI t)) 118 1 0) 118 2 (-1), ?_, ?_, ?_⟩
    · simp only [hS.a3, hS.a5, oc_x, oc_z, ob_s, if_true, if_false, l00, l01, l02, l10, l11, l12, if_neg hb, g2, show ((nI 1 : Int32) = 1) = True from eq_true rfl, e1, f_X11_granted]
    · simp only [oc_x, oc_z, ob_s, if_true, if_false, l00, l01, l02, l10, l11, l12, if_neg hm, k21, show ((nI 1 : Int32) = 1) = True from eq_true rfl, e2, f_X13_done, gI_pIs]
    · have e : ∀ a k, a ≠ 1 ∧ (a ≠ jo ∨ k = 1 ∨ (3 ≤ k ∧ k ≤ 6)) → gI (pI C' 1 7 0) a k = gI C a k := fun a k q => by rw [gI_pIn (by omega)]; exact fC a k (by omega)
      have r : ∀ a k, a ≠ 118 ∨ (3 ≤ k ∧ (k < 16 ∨ (16 < k ∧ k < 21) ∨ 24 < k)) → gI (pI (pI (pI R' 118 21 (nI t)) 118 1 0) 118 2 (-1)) a k = gI R a k := fun a k q => by
        rw [gI_pIn (by omega), gI_pIn (by omega), gI_pIn (by omega), fR a k (by omega), gI_pIn (by omega)]
      refine TOP.mv (jo' := jo) (sc' := sc) (sp := sp) hR hP hV (hS.congr (congrArg Prod.snd eC)) (congrArg Prod.snd eR) (fun a k q => e a k (by clear hli g10; omega)) (fun a k q => r a k (by clear hli g10; omega)) ?_ ⟨sd', hsd', ?_, ?_⟩ ?_
      · refine TQ.mk' (tr := 0) (by decide) (gI_pIs _ _ _ _) ?_ (gI_pIs _ _ _ _) ?_
        · rw [gI_pIk (by decide), gI_pIs]
        · rw [e 4 5 (by clear hli g10; omega), r 118 13 (by clear hli g10; omega)]; exact hQ.2.1
      · rw [gI_pIa (by clear hli g10; omega)]; exact c0
      · simp (disch := omega) only [gI_pIn]; exact r16
      · refine Or.inr ⟨j, D, n, hc.congr (fun a k q => e a k (by clear hli g10; omega)) (congrArg Prod.snd eC) hi.1, hj.congr (fun a k q => r a k (by clear hli g10; omega)) (congrArg Prod.snd eR), hT.congr (fun a k q => e a k (by clear hli g10; omega)) hi.1, Or.inr ⟨st, w, _, pe, t, pl', hh, k, hst, hw, hr, hpe, ht, ⟨hh6, hhe⟩, ⟨k4, hk⟩, q1, q2, ?_⟩⟩
        rw [e jo 1 (by clear hli g10; omega), e jo 3 (by clear hli g10; omega), e jo 4 (by clear hli g10; omega), e jo 5 (by clear hli g10; omega), e jo 6 (by clear hli g10; omega), r 118 17 (by clear hli g10; omega), r 118 18 (by clear hli g10; omega), r 118 19 (by clear hli g10; omega), r 118 20 (by clear hli g10; omega)]
        simp (disch := omega) only [gI_pIs, gI_pIn]
        refine ⟨g1, c2, g3, g4, g5, g6, c7, c9, ?_, k17, k18, k19, k20, trivial, r22, r23.trans c8.symm, r24.trans c10.symm⟩
        rw [c10]
        exact hli
  · have ht1 : ¬ nI to = 1 := fun q => ht ((nI_eq (a := to) (b := 1) (by omega) (by omega)).mp q)
    refine (QQ.mk (-1) 5 (by decide) ?_ ?_).top h0
    · simp only [hS.a3, oc_x, oc_z, ob_s, if_true, if_false, l00, l01, l02, l10, l11, l12, if_neg hb, g2, if_neg ht1, f_X11_refused]
    · simp only [oc_x, oc_z, ob_s, if_true, if_false, l00, l01, l02, l10, l11, l12, if_neg hm, k21, if_neg ht1, f_X13_refused]
      rfl
theorem t_call {C R : MM} (h : TOP C R) (x1 : Int32) : FT C R (f_X11_call C 1 x1) (f_X13_call R 118 x1) := by
  have h0 := h
  obtain ⟨jo, sc, ic, sp, hS, hR, hQ, hP, hV, hD, hI⟩ := h
  have hi := ic14 hS
  unfold f_X11_call f_X13_call
  rw [gI_pIk (show 17 ≠ 0 by decide), gI_pIk (show 21 ≠ 0 by decide)]
  by_cases hb : gI C jo 1 = 0
  · refine (QQ.mk 0 6 (by decide) ?_ ?_).top h0
    · simp only [hS.a3, oc_x, oc_z, ob_s, if_true, if_false, l00, l01, l02, l10, l11, l12, if_pos hb, f_X11_denied]
    · simp only [oc_x, oc_z, ob_s, if_true, if_false, l00, l01, l02, l10, l11, l12, if_pos (jn_n hI hb), f_X13_denied, f_X13_refused]
      rfl
  obtain ⟨j, D, n, hc, hj, hT, hJ⟩ := jn_b hI hb
  have hm := (hJ.b hc.nb.2.2.1).2
  rcases crowd01 x1 with h4 | ⟨h4, pe', pe1, pe2, rfl⟩
  · refine (QQ.mk 0 2 (by decide) ?_ ?_).top h0
    · simp only [hS.a3, oc_x, oc_z, ob_s, if_true, if_false, l00, l01, l02, l10, l11, l12, if_neg hb, crowd_c, h4, f_X11_denied]
    · simp only [oc_x, oc_z, ob_s, if_true, if_false, l00, l01, l02, l10, l11, l12, if_neg hm, in_eq, h4, f_X13_denied, f_X13_refused]
      rfl
  obtain ⟨st, w, r, pe, to, pl, hh, k, hst, hw, hr, hpe, hto, ⟨hh6, hhe⟩, ⟨k4, hk⟩, h2, h3, g1, g2, g3, g4, g5, g6, g7, g9, g10, k17, k18, k19, k20, k21, k22, k23, k24⟩ := hJ
  by_cases ht : to = 1 ∨ to = 5
  · have hne : to ≠ 2 ∧ to ≠ 3 := by omega
    refine ⟨1, pI (pI (pI C jo 3 (nI pe')) jo 2 1) 1 7 0, pI (pI (pI (pI (pI R 118 0 0) 118 20 (nI pe')) 118 21 1) 118 1 0) 118 2 (-1), ?_, ?_, ?_⟩
    · have hr3 : gR (pI C jo 3 (nI pe')) 1 3 = some jo := hS.a3
      rcases ht with rfl | rfl
      · simp only [hS.a3, oc_x, oc_z, ob_s, if_true, if_false, l00, l01, l02, l10, l11, l12, if_neg hb, crowd_c, h4, g2, show ((nI 1 : Int32) = 1) = True from eq_true rfl, hr3, f_X11_allowed]
      · simp only [hS.a3, oc_x, oc_z, ob_s, if_true, if_false, l00, l01, l02, l10, l11, l12, if_neg hb, crowd_c, h4, g2, show ((nI 5 : Int32) = 1) = False from eq_false (by decide), show ((nI 5 : Int32) = 5) = True from eq_true rfl, hr3, f_X11_allowed]
    · rcases ht with rfl | rfl
      · simp only [oc_x, oc_z, ob_s, if_true, if_false, l00, l01, l02, l10, l11, l12, if_neg hm, in_eq, h4, k21, show ((nI 1 : Int32) = 1) = True from eq_true rfl, f_X13_granted, f_X13_done]
      · simp only [oc_x, oc_z, ob_s, if_true, if_false, l00, l01, l02, l10, l11, l12, if_neg hm, in_eq, h4, k21, show ((nI 5 : Int32) = 1) = False from eq_false (by decide), show ((nI 5 : Int32) = 5) = True from eq_true rfl, f_X13_granted, f_X13_done]
    · have e : ∀ a k, a ≠ 1 ∧ (a ≠ jo ∨ (k ≠ 2 ∧ k ≠ 3)) → gI (pI (pI (pI C jo 3 (nI pe')) jo 2 1) 1 7 0) a k = gI C a k := fun a k q => by
        simp (disch := omega) only [gI_pIn]
      have r : ∀ a k, a ≠ 118 ∨ (3 ≤ k ∧ k ≠ 20 ∧ k ≠ 21) → gI (pI (pI (pI (pI (pI R 118 0 0) 118 20 (nI pe')) 118 21 1) 118 1 0) 118 2 (-1)) a k = gI R a k := fun a k q => by
        simp (disch := omega) only [gI_pIn]
      refine TOP.mv (jo' := jo) (sc' := sc) (sp := sp) hR hP hV (hS.congr rfl) rfl (fun a k q => e a k (by omega)) (fun a k q => r a k (by omega)) ?_ ?_ ?_
      · refine TQ.mk' (tr := 0) (by decide) (gI_pIs _ _ _ _) ?_ (gI_pIs _ _ _ _) ?_
        · rw [gI_pIk (by decide), gI_pIs]
        · rw [e 4 5 (by omega), r 118 13 (by omega)]; exact hQ.2.1
      · unfold SD at *
        simp (disch := omega) only [e, r]
        exact hD
      · refine Or.inr ⟨j, D, n, hc.congr (fun a k q => e a k (by omega)) rfl hi.1, hj.congr (fun a k q => r a k (by omega)) rfl, hT.congr (fun a k q => e a k (by omega)) hi.1, Or.inr ⟨st, w, _, pe', 1, pl, hh, k, hst, hw, hr, ⟨pe1, pe2⟩, by omega, ⟨hh6, hhe⟩, ⟨k4, hk⟩, by omega, fun _ => h3 (by omega), ?_⟩⟩
        rw [e jo 1 (by omega), e jo 4 (by omega), e jo 5 (by omega), e jo 6 (by omega), e jo 7 (by omega), e jo 8 (by omega), e jo 9 (by omega), e jo 10 (by omega), r 118 17 (by omega), r 118 18 (by omega), r 118 19 (by omega), r 118 22 (by omega), r 118 23 (by omega), r 118 24 (by omega)]
        simp (disch := omega) only [gI_pIs, gI_pIn]
        refine ⟨g1, rfl, trivial, g4, g5, g6, g7, ?_, Or.inr ⟨by omega, ?_⟩, k17, k18, k19, trivial, rfl, k22, k23, k24⟩
        · rw [g9, if_neg hne.2, if_neg (by decide)]
        · rcases g10 with ⟨q, -⟩ | ⟨-, q⟩
          · exact absurd q hne.2
          · exact q
  · have ht1 : ¬ nI to = 1 := fun q => ht (Or.inl ((nI_eq (a := to) (b := 1) (by omega) (by omega)).mp q))
    have ht5 : ¬ nI to = 5 := fun q => ht (Or.inr ((nI_eq (a := to) (b := 5) (by omega) (by omega)).mp q))
    refine (QQ.mk 0 5 (by decide) ?_ ?_).top h0
    · simp only [hS.a3, oc_x, oc_z, ob_s, if_true, if_false, l00, l01, l02, l10, l11, l12, if_neg hb, crowd_c, h4, g2, if_neg ht1, if_neg ht5, f_X11_denied]
    · simp only [oc_x, oc_z, ob_s, if_true, if_false, l00, l01, l02, l10, l11, l12, if_neg hm, in_eq, h4, k21, if_neg ht1, if_neg ht5, f_X13_denied, f_X13_refused]
      rfl
theorem t_at {C R : MM} (h : TOP C R) (x1 : Int32) : FT C R (f_X11_at C 1 x1) (f_X13_at R 118 x1) := by
  have h0 := h
  obtain ⟨jo, sc, ic, sp, hS, hR, hQ, hP, hV, hD, hI⟩ := h
  unfold f_X11_at f_X13_at
  rcases rng x1 0 8 with ⟨h2, h3⟩ | ⟨h2, h2', h3⟩ | ⟨h2, h2', h3⟩
  · refine (QQ.mk (-1) 1 (by decide) ?_ ?_).top h0
    · simp only [oc_x, oc_z, ob_s, if_true, if_false, l00, l01, l02, l10, l11, l12, if_pos h2, f_X11_refused]
    · simp only [oc_x, oc_z, ob_s, if_true, if_false, l00, l01, l02, l10, l11, l12, in_eq, h3, f_X13_refused]
      rfl
  · refine (QQ.mk (-1) 1 (by decide) ?_ ?_).top h0
    · simp only [oc_x, oc_z, ob_s, if_true, if_false, l00, l01, l02, l10, l11, l12, if_neg h2, if_neg h2', f_X11_refused]
    · simp only [oc_x, oc_z, ob_s, if_true, if_false, l00, l01, l02, l10, l11, l12, in_eq, h3, f_X13_refused]
      rfl
  by_cases hb : gI C jo 1 = 0
  · refine (QQ.mk (-1) 6 (by decide) ?_ ?_).top h0
    · simp only [hS.a3, oc_x, oc_z, ob_s, if_true, if_false, l00, l01, l02, l10, l11, l12, if_neg h2, if_pos h2', if_pos hb, f_X11_refused]
    · simp only [oc_x, oc_z, ob_s, if_true, if_false, l00, l01, l02, l10, l11, l12, in_eq, h3, gI_pIk (show 17 ≠ 0 by decide), if_pos (jn_n hI hb), f_X13_refused]
      rfl
  obtain ⟨j, D, n, hc, hj, hT, hJ⟩ := jn_b hI hb
  have hm := (hJ.b hc.nb.2.2.1).2
  obtain ⟨st, w, r, pe, to, pl, hh, k, hst, hw, hr, hpe, hto, ⟨hh6, hhe⟩, ⟨k4, hk⟩, -, -, g1, g2, g3, g4, g5, g6, g7, g9, g10, k17, k18, k19, k20, k21, k22, k23, k24⟩ := hJ
  have t10 : st < 10 := Nat.lt_of_lt_of_le hst hc.nb.2.2.1
  have w4 := (EWk hc hw).1
  obtain ⟨q, hq, rfl⟩ := nI_of2 (M := 8) (n := 8) (by decide) h2 h2'
  have cc : ∀ v : Int32, f_X1_report C jo (nI q) = some v → (if nI q < 0 then (ob (f_X11_refused C 1 1) (fun z2 => some (z2.1, z2.2))) else (if nI q ≤ 8 then (oc (gR C 1 3) none (fun b4 => if (gI C b4 1) = 0 then (ob (f_X11_refused C 1 6) (fun z9 => some (z9.1, z9.2))) else (oc (gR C 1 3) none (fun b6 => ob (f_X1_report C b6 (nI q)) (fun z7 => ob (f_X11_granted C 1 z7) (fun z8 => some (z8.1, z8.2))))))) else (ob (f_X11_refused C 1 1) (fun z10 => some (z10.1, z10.2))))) = some (v, pI C 1 7 0) := fun v hv => by
    simp only [hS.a3, oc_x, oc_z, ob_s, if_true, if_false, l00, l01, l02, l10, l11, l12, if_neg h2, if_pos h2', if_neg hb, hv, f_X11_granted]
  have j0 := hj.t 0
  simp only [gI_pIk (show 17 ≠ 0 by decide), gI_pIk (show 18 ≠ 0 by decide), gI_pIk (show 19 ≠ 0 by decide), gI_pIk (show 20 ≠ 0 by decide), gI_pIk (show 21 ≠ 0 by decide), gI_pIk (show 22 ≠ 0 by decide), gI_pIk (show 23 ≠ 0 by decide), gI_pIk (show 24 ≠ 0 by decide), in_eq, h3, oc_x, oc_z, ob_s, if_true, if_false, l00, l01, l02, l10, l11, l12, if_neg hm, f_X13_done]
  have hcases : q = 0 ∨ q = 1 ∨ q = 2 ∨ q = 3 ∨ q = 4 ∨ q = 5 ∨ q = 6 ∨ q = 7 ∨ q = 8 := by omega
  rcases hcases with rfl | rfl | rfl | rfl | rfl | rfl | rfl | rfl | rfl
  · refine (QQ.mk (nI to) 0 (by decide) (cc _ ?_) ?_).top h0
    · rw [f_X1_report, if_pos (show (nI 0 : Int32) = 0 from rfl), g2]
    · rw [if_pos (show (nI 0 : Int32) = 0 from rfl), k21]; rfl
  · refine (QQ.mk (nI pl) 0 (by decide) (cc _ ?_) ?_).top h0
    · rw [f_X1_report, if_neg (show ¬ (nI 1 : Int32) = 0 by decide), if_pos (show (nI 1 : Int32) = 1 from rfl), g7]
    · rw [if_neg (show ¬ (nI 1 : Int32) = 0 by decide), if_pos (show (nI 1 : Int32) = 1 from rfl), k22]; rfl
  · refine (QQ.mk (gI C jo 8) 0 (by decide) (cc _ ?_) ?_).top h0
    · rw [f_X1_report, if_neg (show ¬ (nI 2 : Int32) = 0 by decide), if_neg (show ¬ (nI 2 : Int32) = 1 by decide), if_pos (show (nI 2 : Int32) = 2 from rfl)]
    · rw [if_neg (show ¬ (nI 2 : Int32) = 0 by decide), if_neg (show ¬ (nI 2 : Int32) = 1 by decide), if_pos (show (nI 2 : Int32) = 2 from rfl), k23]; rfl
  · refine (QQ.mk (stv 3 k * D 7 st * nI (if to = 3 then pl + 1 else pl)) 0 (by decide) (cc _ ?_) ?_).top h0
    · rw [f_X1_report, if_neg (show ¬ (nI 3 : Int32) = 0 by decide), if_neg (show ¬ (nI 3 : Int32) = 1 by decide), if_neg (show ¬ (nI 3 : Int32) = 2 by decide), if_pos (show (nI 3 : Int32) = 3 from rfl), g9]
    · rw [if_neg (show ¬ (nI 3 : Int32) = 0 by decide), if_neg (show ¬ (nI 3 : Int32) = 1 by decide), if_neg (show ¬ (nI 3 : Int32) = 2 by decide), if_pos (show (nI 3 : Int32) = 3 from rfl), j0.j, oc_x, j0.s.k15, oc_x, k17, chk_n t10 (by decide), ix_n (by omega), j0.d 7 st (by decide), k18, woodOf_r j0 w4 hk k4, ob_s, k21, k22]
      by_cases ht : to = 3
      · subst ht
        rw [if_pos (show (nI 3 : Int32) = 3 from rfl), if_pos rfl, nI_1 pl]; rfl
      · rw [if_neg (show ¬ (nI to = (3 : Int32)) from fun z => ht ((nI_eq (a := to) (b := 3) (by omega) (by omega)).mp z)), if_neg ht, Int32.add_zero]; rfl
  · refine (QQ.mk (gI C jo 10) 0 (by decide) (cc _ ?_) ?_).top h0
    · rw [f_X1_report, if_neg (show ¬ (nI 4 : Int32) = 0 by decide), if_neg (show ¬ (nI 4 : Int32) = 1 by decide), if_neg (show ¬ (nI 4 : Int32) = 2 by decide), if_neg (show ¬ (nI 4 : Int32) = 3 by decide), if_pos (show (nI 4 : Int32) = 4 from rfl)]
    · rw [if_neg (show ¬ (nI 4 : Int32) = 0 by decide), if_neg (show ¬ (nI 4 : Int32) = 1 by decide), if_neg (show ¬ (nI 4 : Int32) = 2 by decide), if_neg (show ¬ (nI 4 : Int32) = 3 by decide), if_pos (show (nI 4 : Int32) = 4 from rfl), k24]; rfl
  · refine (QQ.mk (nI st) 0 (by decide) (cc _ ?_) ?_).top h0
    · rw [f_X1_report, if_neg (show ¬ (nI 5 : Int32) = 0 by decide), if_neg (show ¬ (nI 5 : Int32) = 1 by decide), if_neg (show ¬ (nI 5 : Int32) = 2 by decide), if_neg (show ¬ (nI 5 : Int32) = 3 by decide), if_neg (show ¬ (nI 5 : Int32) = 4 by decide), if_pos (show (nI 5 : Int32) = 5 from rfl), g4]
    · rw [if_neg (show ¬ (nI 5 : Int32) = 0 by decide), if_neg (show ¬ (nI 5 : Int32) = 1 by decide), if_neg (show ¬ (nI 5 : Int32) = 2 by decide), if_neg (show ¬ (nI 5 : Int32) = 3 by decide), if_neg (show ¬ (nI 5 : Int32) = 4 by decide), if_pos (show (nI 5 : Int32) = 5 from rfl), k17]; rfl
  · refine (QQ.mk (nI w) 0 (by decide) (cc _ ?_) ?_).top h0
    · rw [f_X1_report, if_neg (show ¬ (nI 6 : Int32) = 0 by decide), if_neg (show ¬ (nI 6 : Int32) = 1 by decide), if_neg (show ¬ (nI 6 : Int32) = 2 by decide), if_neg (show ¬ (nI 6 : Int32) = 3 by decide), if_neg (show ¬ (nI 6 : Int32) = 4 by decide), if_neg (show ¬ (nI 6 : Int32) = 5 by decide), if_pos (show (nI 6 : Int32) = 6 from rfl), g5]
    · rw [if_neg (show ¬ (nI 6 : Int32) = 0 by decide), if_neg (show ¬ (nI 6 : Int32) = 1 by decide), if_neg (show ¬ (nI 6 : Int32) = 2 by decide), if_neg (show ¬ (nI 6 : Int32) = 3 by decide), if_neg (show ¬ (nI 6 : Int32) = 4 by decide), if_neg (show ¬ (nI 6 : Int32) = 5 by decide), if_pos (show (nI 6 : Int32) = 6 from rfl), k18]; rfl
  · refine (QQ.mk (nI r) 0 (by decide) (cc _ ?_) ?_).top h0
    · rw [f_X1_report, if_neg (show ¬ (nI 7 : Int32) = 0 by decide), if_neg (show ¬ (nI 7 : Int32) = 1 by decide), if_neg (show ¬ (nI 7 : Int32) = 2 by decide), if_neg (show ¬ (nI 7 : Int32) = 3 by decide), if_neg (show ¬ (nI 7 : Int32) = 4 by decide), if_neg (show ¬ (nI 7 : Int32) = 5 by decide), if_neg (show ¬ (nI 7 : Int32) = 6 by decide), if_pos (show (nI 7 : Int32) = 7 from rfl), g6]
    · rw [if_neg (show ¬ (nI 7 : Int32) = 0 by decide), if_neg (show ¬ (nI 7 : Int32) = 1 by decide), if_neg (show ¬ (nI 7 : Int32) = 2 by decide), if_neg (show ¬ (nI 7 : Int32) = 3 by decide), if_neg (show ¬ (nI 7 : Int32) = 4 by decide), if_neg (show ¬ (nI 7 : Int32) = 5 by decide), if_neg (show ¬ (nI 7 : Int32) = 6 by decide), if_pos (show (nI 7 : Int32) = 7 from rfl), k19]; rfl
  · refine (QQ.mk (nI pe) 0 (by decide) (cc _ ?_) ?_).top h0
    · rw [f_X1_report, if_neg (show ¬ (nI 8 : Int32) = 0 by decide), if_neg (show ¬ (nI 8 : Int32) = 1 by decide), if_neg (show ¬ (nI 8 : Int32) = 2 by decide), if_neg (show ¬ (nI 8 : Int32) = 3 by decide), if_neg (show ¬ (nI 8 : Int32) = 4 by decide), if_neg (show ¬ (nI 8 : Int32) = 5 by decide), if_neg (show ¬ (nI 8 : Int32) = 6 by decide), if_neg (show ¬ (nI 8 : Int32) = 7 by decide), g3]
    · rw [if_neg (show ¬ (nI 8 : Int32) = 0 by decide), if_neg (show ¬ (nI 8 : Int32) = 1 by decide), if_neg (show ¬ (nI 8 : Int32) = 2 by decide), if_neg (show ¬ (nI 8 : Int32) = 3 by decide), if_neg (show ¬ (nI 8 : Int32) = 4 by decide), if_neg (show ¬ (nI 8 : Int32) = 5 by decide), if_neg (show ¬ (nI 8 : Int32) = 6 by decide), if_neg (show ¬ (nI 8 : Int32) = 7 by decide), k20]; rfl
theorem t_image {C R : MM} (h : TOP C R) : FL C R (f_X11_image C 1) (f_X13_image R 118) := by
  have h0 := h
  obtain ⟨jo, sc, ic, sp, hS, hR, hQ, hP, hV, hD, hI⟩ := h
  have hi := ic14 hS
  unfold f_X11_image f_X13_image
  rw [gI_pIk (show 17 ≠ 0 by decide)]
  by_cases hb : gI C jo 1 = 0
  · refine QL.top ⟨(-1 : Int32).toInt64, 6, by decide, ?_, ?_⟩ h0
    · simp only [hS.a3, oc_x, oc_z, ob_s, if_true, if_false, l00, l01, l02, l10, l11, l12, if_pos hb, f_X11_refused]
    · simp only [oc_x, oc_z, ob_s, if_true, if_false, l00, l01, l02, l10, l11, l12, if_pos (jn_n hI hb), f_X13_refused]
      rfl
  obtain ⟨j, D, n, hc, hj, hT, hJ⟩ := jn_b hI hb
  have hm := (hJ.b hc.nb.2.2.1).2
  obtain ⟨st, w, rr, pe, to, pl, hh, k, hst, hw, hr, hpe, hto, ⟨hh6, hhe⟩, ⟨k4, hk⟩, -, -, g1, g2, g3, g4, g5, g6, g7, g9, g10, k17, k18, k19, k20, k21, k22, k23, k24⟩ := hJ
  obtain ⟨sd, hsd, s1, s2⟩ := hD
  have hr3 : gR (pI C 1 7 0) 1 3 = some jo := hS.a3
  have e : ∀ k, gI (pI C 1 7 0) jo k = gI C jo k := fun k => gI_pIa (by omega)
  have r : ∀ k, 3 ≤ k → gI (pI (pI (pI R 118 0 0) 118 1 0) 118 2 (-1)) 118 k = gI R 118 k := fun k q => by simp (disch := omega) only [gI_pIn]
  by_cases ht : to = 3
  · subst ht
    have hl : ¬ gI C jo 10 = -2 := by
      rcases g10 with ⟨-, l, hl, q⟩ | ⟨q, -⟩
      · rw [q]; exact m2_nI (by omega)
      · exact absurd rfl q
    refine QL.top ⟨(((((((((nI sd).toInt64 * 6 + (nI 3).toInt64) * 7 + (nI pl).toInt64) * 541 + (gI C jo 8).toInt64) * 4 + (gI C jo 10).toInt64) * 10 + (nI st).toInt64) * 4 + (nI w).toInt64) * 3 + (nI rr).toInt64) * 201 + (nI pe).toInt64), 0, by decide, ?_, ?_⟩ h0
    · simp only [hS.a3, oc_x, oc_z, ob_s, if_true, if_false, l00, l01, l02, l10, l11, l12, if_neg hb, hr3, f_X1_toImage, e, g2, show ((nI 3 : Int32) = 3) = True from eq_true rfl, s1, g3, g4, g5, g6, g7]
    · rw [if_neg hm]
      simp only [oc_x, oc_z, ob_s, if_true, if_false, l00, l01, l02, l10, l11, l12, f_X13_done, r _ (show 3 ≤ 24 by decide), r _ (show 3 ≤ 16 by decide), r _ (show 3 ≤ 17 by decide), r _ (show 3 ≤ 18 by decide), r _ (show 3 ≤ 19 by decide), r _ (show 3 ≤ 20 by decide), r _ (show 3 ≤ 21 by decide), r _ (show 3 ≤ 22 by decide), r _ (show 3 ≤ 23 by decide), k24, if_neg hl, s1, s2, g3, g4, g5, g6, g7, k17, k18, k19, k20, k21, k22, k23, Int64.mul_comm 201, Int64.mul_comm 3, Int64.mul_comm 4, Int64.mul_comm 10, Int64.mul_comm 541, Int64.mul_comm 7, Int64.mul_comm 6]
      rfl
  · have hl : gI C jo 10 = -2 := by
      rcases g10 with ⟨q, -⟩ | ⟨-, q⟩
      · exact absurd q ht
      · exact q
    have ht3 : ¬ (nI to = (3 : Int32)) := fun z => ht ((nI_eq (a := to) (b := 3) (by omega) (by omega)).mp z)
    refine QL.top ⟨(((((((((nI sd).toInt64 * 6 + (nI to).toInt64) * 7 + (nI pl).toInt64) * 541 + (gI C jo 8).toInt64) * 4 + ((3 : Int32)).toInt64) * 10 + (nI st).toInt64) * 4 + (nI w).toInt64) * 3 + (nI rr).toInt64) * 201 + (nI pe).toInt64), 0, by decide, ?_, ?_⟩ h0
    · simp only [hS.a3, oc_x, oc_z, ob_s, if_true, if_false, l00, l01, l02, l10, l11, l12, if_neg hb, hr3, f_X1_toImage, e, g2, if_neg ht3, s1, g3, g4, g5, g6, g7]
    · rw [if_neg hm]
      simp only [oc_x, oc_z, ob_s, if_true, if_false, l00, l01, l02, l10, l11, l12, f_X13_done, r _ (show 3 ≤ 24 by decide), r _ (show 3 ≤ 16 by decide), r _ (show 3 ≤ 17 by decide), r _ (show 3 ≤ 18 by decide), r _ (show 3 ≤ 19 by decide), r _ (show 3 ≤ 20 by decide), r _ (show 3 ≤ 21 by decide), r _ (show 3 ≤ 22 by decide), r _ (show 3 ≤ 23 by decide), k24, hl, if_pos (rfl : (-2 : Int32) = -2), s1, s2, g3, g4, g5, g6, g7, k17, k18, k19, k20, k21, k22, k23, Int64.mul_comm 201, Int64.mul_comm 3, Int64.mul_comm 4, Int64.mul_comm 10, Int64.mul_comm 541, Int64.mul_comm 7, Int64.mul_comm 6]
      rfl
