/-! MOVES: tries, restore -/
/-- one move to its end, in the journey a; nothing else is written -/
theorem arr_l {ic j a st w r pe h kd : Nat} {D : DT} {n : Nat → Nat} (hi : 14 ≤ ic) (ha : a = 12 ∨ a = 13) (hst : st < n 2) (hw : w < n 0) (hr : r < n 1) (hpe : 1 ≤ pe ∧ pe ≤ 200) (hh : D 5 r = nI h) (h6 : h ≤ 6) (kd4 : kd < 4) (hkd : D 1 w = nI kd) (K4 : MM → Nat → Int32 → Int32 → Int32 → Int32 → Int32 → Int32 → Int32 → Option (Int32 × MM)) (z1 z2 z3 z4 z5 z6 z7 : Int32) :
    ∀ (d pl sd : Nat) (mi : Int32) (C R : MM) (f1 f2 : Nat), CI C ic D n → RI R j D → sd ≤ 65536 → pl + d + 1 = h → JC C R a sd st w r pe pl mi (stv 3 kd * D 7 st) → gI R 118 21 = 1 → d + 2 ≤ f1 → d + 2 ≤ f2 →
    ∃ v C' R', ∃ sd' : Nat, (v = 0 ∨ v = 1) ∧ f_X1_arrives_L2 f1 C a ic (nI pl) = some (v, C') ∧ f_X13_tries_L74 K4 f2 R 118 z1 z2 z3 z4 z5 z6 z7 = K4 R' 118 z1 z2 z3 z4 z5 (z6 + v) (z7 + 1) ∧ C'.2 = C.2 ∧ R'.2 = R.2 ∧ (∀ b k, b ≠ a → gI C' b k = gI C b k) ∧ (∀ b k, b ≠ 118 ∨ (k ≠ 16 ∧ k ≠ 21 ∧ k ≠ 22 ∧ k ≠ 23 ∧ k ≠ 24) → gI R' b k = gI R b k) ∧ sd' ≤ 65536 ∧ gI C' a 0 = nI sd' ∧ gI R' 118 16 = nI sd' := by
  intro d
  induction d with
  | zero =>
    intro pl sd mi C R f1 f2 hc hj hsd hd hJ ht1 hf1 hf2
    obtain ⟨f1, rfl⟩ := suc (show 0 < f1 by omega)
    obtain ⟨f2, rfl⟩ := suc (show 0 < f2 by omega)
    obtain ⟨f1, rfl⟩ := suc (show 0 < f1 by omega)
    obtain ⟨f2, rfl⟩ := suc (show 0 < f2 by omega)
    obtain ⟨t, C', R', e1, e2, sd', pl', mi', li, eC, eR, fC, fR, ht, hsd', ⟨c0, c2, c7, c8, c9, c10⟩, ⟨r16, r22, r23, r24⟩, hli, q1, q2, q3⟩ := adv_p hi hc hj ha hst hw hr hpe hsd hh h6 kd4 hkd (by omega) hJ
    have hpl : ¬ (6 : Int32) ≤ nI pl := nI_ge (b := 6) (by omega) (by omega)
    have t1 : t ≠ 1 := by clear hli; omega
    have ht1' : ¬ nI t = 1 := fun z => t1 ((nI_eq (a := t) (b := 1) (by omega) (by omega)).mp z)
    have g21 : gI (pI R' 118 21 (nI t)) 118 21 = nI t := gI_pIs _ _ _ _
    refine ⟨if nI t = 2 then 1 else 0, C', pI R' 118 21 (nI t), sd', ?_, ?_, ?_, eC, eR, fun b k hb => fC b k (Or.inl hb), fun b k hb => ?_, hsd', c0, ?_⟩
    · split
      · exact Or.inr rfl
      · exact Or.inl rfl
    · rw [f_X1_arrives_L2, if_neg hpl, hJ.1.2.1, if_pos rfl, e1, ob_s, nI_1 pl, f_X1_arrives_L2, c2, if_neg ht1']
      split
      · split <;> rfl
      · split <;> rfl
    · rw [f_X13_tries_L74, ht1, if_pos rfl, e2, ob_s, f_X13_tries_L74, g21, if_neg ht1']
      split <;> rfl
    · rw [gI_pIn (by clear hli; omega)]; exact fR b k (by clear hli; omega)
    · rw [gI_pIk (by decide)]; exact r16
  | succ d ih =>
    intro pl sd mi C R f1 f2 hc hj hsd hd hJ ht1 hf1 hf2
    obtain ⟨f1, rfl⟩ := suc (show 0 < f1 by omega)
    obtain ⟨f2, rfl⟩ := suc (show 0 < f2 by omega)
    obtain ⟨t, C', R', e1, e2, sd', pl', mi', li, eC, eR, fC, fR, ht, hsd', ⟨c0, c2, c7, c8, c9, c10⟩, ⟨r16, r22, r23, r24⟩, hli, q1, q2, q3⟩ := adv_p hi hc hj ha hst hw hr hpe hsd hh h6 kd4 hkd (by omega) hJ
    have hpl : ¬ (6 : Int32) ≤ nI pl := nI_ge (b := 6) (by omega) (by omega)
    have g21 : gI (pI R' 118 21 (nI t)) 118 21 = nI t := gI_pIs _ _ _ _
    have fR' : ∀ b k, b ≠ 118 ∨ (k ≠ 16 ∧ k ≠ 21 ∧ k ≠ 22 ∧ k ≠ 23 ∧ k ≠ 24) → gI (pI R' 118 21 (nI t)) b k = gI R b k := fun b k hb => by
      rw [gI_pIn (by clear hli; omega)]; exact fR b k (by clear hli; omega)
    rw [f_X1_arrives_L2, if_neg hpl, hJ.1.2.1, if_pos rfl, e1, ob_s, nI_1 pl, f_X13_tries_L74, ht1, if_pos rfl, e2, ob_s]
    by_cases t1 : t = 1
    · subst t1
      have hli' : li = -2 := by
        rcases hli with ⟨z, -⟩ | ⟨-, z⟩
        · exact absurd z (by decide)
        · exact z
      have hpl' := q3 rfl
      subst hpl'
      obtain ⟨⟨j0, j2, j3, j4, j5, j6, j7, j8, j9, j10⟩, k16, k17, k18, k19, k20, k22, k23, k24⟩ := hJ
      have hJ2 : JC C' (pI R' 118 21 (nI 1)) a sd' st w r pe (pl + 1) mi' (stv 3 kd * D 7 st) := by
        refine ⟨⟨c0, c2, ?_, ?_, ?_, ?_, c7, c8, c9, c10.trans hli'⟩, ?_, ?_, ?_, ?_, ?_, ?_, ?_, ?_⟩
        · rw [fC a 3 (by clear hli; omega)]; exact j3
        · rw [fC a 4 (by clear hli; omega)]; exact j4
        · rw [fC a 5 (by clear hli; omega)]; exact j5
        · rw [fC a 6 (by clear hli; omega)]; exact j6
        · rw [gI_pIk (by decide)]; exact r16
        · rw [fR' 118 17 (by omega)]; exact k17
        · rw [fR' 118 18 (by omega)]; exact k18
        · rw [fR' 118 19 (by omega)]; exact k19
        · rw [fR' 118 20 (by omega)]; exact k20
        · rw [gI_pIk (by decide)]; exact r22
        · rw [gI_pIk (by decide)]; exact r23
        · rw [gI_pIk (by decide)]; exact r24.trans hli'
      have hc2 : CI C' ic D n := hc.congr (fun b k hb => fC b k (by clear hli; omega)) (congrArg Prod.snd eC) hi
      have hj2 : RI (pI R' 118 21 (nI 1)) j D := (hj.congr (fun b k hb => fR b k (by clear hli; omega)) (congrArg Prod.snd eR)).put (by decide)
      obtain ⟨v, C2, R2, sd2, hv, a1, a2, a3, a4, a5, a6, a7, a8, a9⟩ := ih (pl + 1) sd' mi' C' (pI R' 118 21 (nI 1)) f1 f2 hc2 hj2 hsd' (by omega) hJ2 g21 (by omega) (by omega)
      exact ⟨v, C2, R2, sd2, hv, a1, a2, a3.trans eC, a4.trans eR, fun b k hb => (a5 b k hb).trans (fC b k (Or.inl hb)), fun b k hb => (a6 b k hb).trans (fR' b k hb), a7, a8, a9⟩
    · have ht1' : ¬ nI t = 1 := fun z => t1 ((nI_eq (a := t) (b := 1) (by omega) (by omega)).mp z)
      obtain ⟨f1, rfl⟩ := suc (show 0 < f1 by omega)
      obtain ⟨f2, rfl⟩ := suc (show 0 < f2 by omega)
      refine ⟨if nI t = 2 then 1 else 0, C', pI R' 118 21 (nI t), sd', ?_, ?_, ?_, eC, eR, fun b k hb => fC b k (Or.inl hb), fR', hsd', c0, ?_⟩
      · split
        · exact Or.inr rfl
        · exact Or.inl rfl
      · rw [f_X1_arrives_L2, c2, if_neg ht1']
        split
        · split <;> rfl
        · split <;> rfl
      · rw [f_X13_tries_L74, g21, if_neg ht1']
        split <;> rfl
      · rw [gI_pIk (by decide)]; exact r16
/-- so many moves one behind the other -/
theorem try_n {ic sp j jo sc st w r pe h kd m : Nat} {D : DT} {n : Nat → Nat} (hi : 14 ≤ ic ∧ 14 ≤ sp ∧ (jo = 12 ∨ jo = 13) ∧ (sc = 12 ∨ sc = 13) ∧ jo ≠ sc) (hst : st < n 2) (hw : w < n 0) (hr : r < n 1) (hpe : 1 ≤ pe ∧ pe ≤ 200) (hh : D 5 r = nI h) (h1 : 1 ≤ h) (h6 : h ≤ 6) (kd4 : kd < 4) (hkd : D 1 w = nI kd) (hm : m ≤ 100) (z2 z3 z4 z5 : Int32) :
    ∀ (d k : Nat) (acc : Int32) (sd : Nat) (C R : MM) (f1 f2 : Nat), k + d = m → d < f1 → d < f2 → ST C jo sc ic sp → CI C ic D n → RI R j D → sd ≤ 65536 → gI C sc 0 = nI sd → gI R 118 16 = nI sd → (gI C jo 3 = nI pe ∧ gI C jo 4 = nI st ∧ gI C jo 5 = nI w ∧ gI C jo 6 = nI r) → (gI R 118 17 = nI st ∧ gI R 118 18 = nI w ∧ gI R 118 19 = nI r ∧ gI R 118 20 = nI pe) →
    ∃ v C' R', ∃ sd' : Nat, f_X11_tries_L52 f1 C 1 (nI m) acc (nI k) = some (v, pI (pI C' jo 0 (nI sd')) 1 7 0) ∧ f_X13_tries_L64 f2 R 118 (nI m) z2 z3 z4 z5 acc (nI k) = some (v, pI (pI (pI (pI (pI (pI R' 118 21 z2) 118 22 z3) 118 23 z4) 118 24 z5) 118 1 0) 118 2 (-1)) ∧ C'.2 = C.2 ∧ R'.2 = R.2 ∧ (∀ b k, b ≠ sc → gI C' b k = gI C b k) ∧ (∀ b k, b ≠ 118 ∨ (k ≠ 16 ∧ k ≠ 21 ∧ k ≠ 22 ∧ k ≠ 23 ∧ k ≠ 24) → gI R' b k = gI R b k) ∧ sd' ≤ 65536 ∧ gI R' 118 16 = nI sd' := by
  intro d
  induction d with
  | zero =>
    intro k acc sd C R f1 f2 hk g1 g2 hS hc hj hsd s1 s2 hC hR
    obtain ⟨f1, rfl⟩ := suc g1
    obtain ⟨f2, rfl⟩ := suc g2
    refine ⟨acc, C, R, sd, ?_, ?_, rfl, rfl, fun _ _ _ => rfl, fun _ _ _ => rfl, hsd, s2⟩
    · rw [f_X11_tries_L52, if_pos (nI_le (by omega) (by omega)), hS.a3, oc_x, hS.a4, oc_x, s1, f_X11_granted, ob_s]
    · rw [f_X13_tries_L64, if_pos (nI_le (by omega) (by omega)), f_X13_done, ob_s]
  | succ d ih =>
    intro k acc sd C R f1 f2 hk g1 g2 hS hc hj hsd s1 s2 hC hR
    obtain ⟨f1, rfl⟩ := suc g1
    obtain ⟨f2, rfl⟩ := suc g2
    obtain ⟨c3, c4, c5, c6⟩ := hC
    obtain ⟨k17, k18, k19, k20⟩ := hR
    rw [f_X11_tries_L52, if_neg (nI_ge (by omega) (by omega)), hS.a4, oc_x, hS.a3, oc_x, oc_x, oc_x, oc_x, c3, c4, c5, c6, f_X1_begin, ob_s, nI_1 k]
    rw [f_X13_tries_L64, if_neg (nI_ge (by omega) (by omega)), f_X13_startsAnew, ob_s]
    obtain ⟨B, hB⟩ : ∃ B, B = pI (pI (pI (pI (pI (pI (pI (pI (pI (pI C sc 1 1) sc 2 1) sc 4 (nI st)) sc 5 (nI w)) sc 6 (nI r)) sc 3 (nI pe)) sc 7 0) sc 8 0) sc 9 0) sc 10 (-2) := ⟨_, rfl⟩
    obtain ⟨Q, hQ⟩ : ∃ Q, Q = pI (pI (pI (pI R 118 21 1) 118 22 0) 118 23 0) 118 24 (-2) := ⟨_, rfl⟩
    have fB : ∀ b k, b ≠ sc ∨ k = 0 → gI B b k = gI C b k := fun b k hb => by rw [hB]; simp (disch := omega) only [gI_pIn]
    have fQ : ∀ b k, b ≠ 118 ∨ (k ≠ 21 ∧ k ≠ 22 ∧ k ≠ 23 ∧ k ≠ 24) → gI Q b k = gI R b k := fun b k hb => by rw [hQ]; simp (disch := omega) only [gI_pIn]
    have eB : B.2 = C.2 := by rw [hB]; rfl
    have eQ : Q.2 = R.2 := by rw [hQ]; rfl
    have hJ : JC B Q sc sd st w r pe 0 0 (stv 3 kd * D 7 st) := by
      refine ⟨⟨?_, ?_⟩, ?_, ?_⟩
      · rw [fB sc 0 (Or.inr rfl)]; exact s1
      · rw [hB]
        simp (disch := omega) only [gI_pIs, gI_pIn]
        refine ⟨trivial, trivial, trivial, trivial, trivial, rfl, trivial, ?_, trivial⟩
        rw [show nI 0 = (0 : Int32) from rfl, Int32.mul_zero]
      · rw [fQ 118 16 (by omega)]; exact s2
      · rw [fQ 118 17 (by omega), fQ 118 18 (by omega), fQ 118 19 (by omega), fQ 118 20 (by omega), hQ]
        simp (disch := omega) only [gI_pIs, gI_pIn]
        exact ⟨k17, k18, k19, k20, rfl, trivial, trivial⟩
    have q21 : gI Q 118 21 = 1 := by rw [hQ]; simp (disch := omega) only [gI_pIs, gI_pIn]
    rw [← hB, ← hQ]
    have hSB : ST B jo sc ic sp := hS.congr (congrArg Prod.snd eB)
    rw [hSB.a4, oc_x, hSB.a5, oc_x]
    have hcB : CI B ic D n := hc.congr (fun b k hb => fB b k (by omega)) (congrArg Prod.snd eB) hi.1
    have hjQ : RI Q j D := hj.congr (fun b k hb => fQ b k (by omega)) (congrArg Prod.snd eQ)
    obtain ⟨v, C', R', sd', hv, a1, a2, a3, a4, a5, a6, a7, a8, a9⟩ := arr_l hi.1 hi.2.2.2.1 hst hw hr hpe hh h6 kd4 hkd (fun M y4_0 y4_1 y4_2 y4_3 y4_4 y4_5 y4_6 y4_7 => f_X13_tries_L64 f2 M y4_0 y4_1 y4_2 y4_3 y4_4 y4_5 y4_6 y4_7) (nI m) z2 z3 z4 z5 acc (nI k) (h - 1) 0 sd 0 B Q FU FU hcB hjQ hsd (by omega) hJ q21 (Nat.le_trans (show h - 1 + 2 ≤ 10 by omega) (by decide)) (Nat.le_trans (show h - 1 + 2 ≤ 10 by omega) (by decide))
    have a1 : f_X1_arrives B sc ic = some (v, C') := a1
    rw [a1, ob_s, a2]
    have fC' : ∀ b k, b ≠ sc → gI C' b k = gI C b k := fun b k hb => (a5 b k hb).trans (fB b k (Or.inl hb))
    have fR' : ∀ b k, b ≠ 118 ∨ (k ≠ 16 ∧ k ≠ 21 ∧ k ≠ 22 ∧ k ≠ 23 ∧ k ≠ 24) → gI R' b k = gI R b k := fun b k hb => (a6 b k hb).trans (fQ b k (by omega))
    have hS' : ST C' jo sc ic sp := hSB.congr (congrArg Prod.snd a3)
    have hc' : CI C' ic D n := hcB.congr (fun b k hb => a5 b k (by omega)) (congrArg Prod.snd a3) hi.1
    have hj' : RI R' j D := hjQ.congr (fun b k hb => a6 b k (by omega)) (congrArg Prod.snd a4)
    have hCC : gI C' jo 3 = nI pe ∧ gI C' jo 4 = nI st ∧ gI C' jo 5 = nI w ∧ gI C' jo 6 = nI r := by
      rw [fC' jo 3 hi.2.2.2.2, fC' jo 4 hi.2.2.2.2, fC' jo 5 hi.2.2.2.2, fC' jo 6 hi.2.2.2.2]
      exact ⟨c3, c4, c5, c6⟩
    have hRR : gI R' 118 17 = nI st ∧ gI R' 118 18 = nI w ∧ gI R' 118 19 = nI r ∧ gI R' 118 20 = nI pe := by
      rw [fR' 118 17 (by omega), fR' 118 18 (by omega), fR' 118 19 (by omega), fR' 118 20 (by omega)]
      exact ⟨k17, k18, k19, k20⟩
    have fin := fun acc' => ih (k + 1) acc' sd' C' R' f1 f2 (by omega) (by omega) (by omega) hS' hc' hj' a7 a8 a9 hCC hRR
    have up : ∀ acc', (∃ v C2 R2, ∃ sd2 : Nat, f_X11_tries_L52 f1 C' 1 (nI m) acc' (nI (k + 1)) = some (v, pI (pI C2 jo 0 (nI sd2)) 1 7 0) ∧ f_X13_tries_L64 f2 R' 118 (nI m) z2 z3 z4 z5 acc' (nI (k + 1)) = some (v, pI (pI (pI (pI (pI (pI R2 118 21 z2) 118 22 z3) 118 23 z4) 118 24 z5) 118 1 0) 118 2 (-1)) ∧ C2.2 = C.2 ∧ R2.2 = R.2 ∧ (∀ b k, b ≠ sc → gI C2 b k = gI C b k) ∧ (∀ b k, b ≠ 118 ∨ (k ≠ 16 ∧ k ≠ 21 ∧ k ≠ 22 ∧ k ≠ 23 ∧ k ≠ 24) → gI R2 b k = gI R b k) ∧ sd2 ≤ 65536 ∧ gI R2 118 16 = nI sd2) := fun acc' => by
      obtain ⟨v, C2, R2, sd2, b1, b2, b3, b4, b5, b6, b7, b8⟩ := fin acc'
      exact ⟨v, C2, R2, sd2, b1, b2, b3.trans (a3.trans eB), b4.trans (a4.trans eQ), fun b k hb => (b5 b k hb).trans (fC' b k hb), fun b k hb => (b6 b k hb).trans (fR' b k hb), b7, b8⟩
    dsimp only
    rw [nI_1 k]
    rcases hv with rfl | rfl
    · rw [if_pos rfl, Int32.add_zero]
      exact up acc
    · rw [if_neg (by decide)]
      exact up (acc + 1)
theorem t_tries {C R : MM} (h : TOP C R) (x1 : Int32) : FT C R (f_X11_tries C 1 x1) (f_X13_tries R 118 x1) := by
  have h0 := h
  obtain ⟨jo, sc, ic, sp, hS, hR, hQ, hP, hV, hD, hI⟩ := h
  have hi := ic14 hS
  unfold f_X11_tries f_X13_tries
  by_cases hb : gI C jo 1 = 0
  · refine (QQ.mk (-1) 6 (by decide) ?_ ?_).top h0
    · simp only [hS.a3, oc_x, oc_z, ob_s, if_true, if_false, l00, l01, l02, l10, l11, l12, if_pos hb, f_X11_refused]
    · rw [gI_pIk (show 17 ≠ 0 by decide), if_pos (jn_n hI hb), f_X13_refused, ob_s]
      rfl
  obtain ⟨j, D, n, hc, hj, hT, hJ⟩ := jn_b hI hb
  have hm := (hJ.b hc.nb.2.2.1).2
  rw [gI_pIk (show 17 ≠ 0 by decide), if_neg hm, hS.a3, oc_x, if_neg hb, in_eq, ob_s]
  rcases rng x1 1 100 with ⟨h2, h3⟩ | ⟨h2, h2', h3⟩ | ⟨h2, h2', h3⟩
  · refine (QQ.mk (-1) 2 (by decide) ?_ ?_).top h0
    · rw [if_pos h2, f_X11_refused, ob_s]
    · rw [h3, if_pos rfl, f_X13_refused, ob_s]
      rfl
  · refine (QQ.mk (-1) 2 (by decide) ?_ ?_).top h0
    · rw [if_neg h2, if_neg h2', f_X11_refused, ob_s]
    · rw [h3, if_pos rfl, f_X13_refused, ob_s]
      rfl
  rw [if_neg h2, if_pos h2', h3, if_neg (show ¬ (1 : Int32) = 0 by decide), hS.a4, oc_x, oc_x]
  obtain ⟨m, hm100, rfl⟩ := nI_of2 (M := 100) (n := 100) (by decide) (fun q => h2 (Int32.lt_trans q (by decide))) h2'
  obtain ⟨st, w, rr, pe, to, pl, hh, k, hst, hw, hr, hpe, hto, ⟨hh6, hhe⟩, ⟨k4, hk⟩, q2, q3, g1, g2, g3, g4, g5, g6, g7, g9, g10, k17, k18, k19, k20, k21, k22, k23, k24⟩ := hJ
  obtain ⟨sd, hsd, s1, s2⟩ := hD
  obtain ⟨hx, hx1, hx6, hxe⟩ := hc.vd.2.1 rr hr
  have hh1 : 1 ≤ hh := by
    by_cases z : to = 2
    · by_cases z0 : hh = 0
      · exfalso
        rw [hhe, z0] at hxe
        have := (nI_eq (a := 0) (b := hx) (by omega) (by omega)).mp hxe
        omega
      · omega
    · have := q3 z
      omega
  have e1 : ∀ b k, b ≠ sc ∨ k ≠ 0 → gI (pI C sc 0 (gI C jo 0)) b k = gI C b k := fun b k hb => gI_pIn (by clear g10 q2 q3; omega)
  obtain ⟨v, C', R', sd', a1, a2, a3, a4, a5, a6, a7, a8⟩ := try_n (m := m) hi hst hw hr hpe hhe hh1 hh6 k4 hk hm100 (gI (pI R 118 0 0) 118 21) (gI (pI R 118 0 0) 118 22) (gI (pI R 118 0 0) 118 23) (gI (pI R 118 0 0) 118 24) m 0 0 sd (pI C sc 0 (gI C jo 0)) (pI R 118 0 0) FU FU (by clear g10 q2 q3; omega) (fu (by clear g10 q2 q3; omega)) (fu (by clear g10 q2 q3; omega)) (hS.congr rfl) (hc.congr (fun b k q => e1 b k (by clear g10 q2 q3; omega)) rfl hi.1) (hj.t 0) hsd (by rw [gI_pIs]; exact s1) (by rw [gI_pIk (by decide)]; exact s2) (by
      rw [e1 jo 3 (by clear g10 q2 q3; omega), e1 jo 4 (by clear g10 q2 q3; omega), e1 jo 5 (by clear g10 q2 q3; omega), e1 jo 6 (by clear g10 q2 q3; omega)]
      exact ⟨g3, g4, g5, g6⟩) (by
      simp (disch := omega) only [gI_pIn]
      exact ⟨k17, k18, k19, k20⟩)
  refine ⟨v, _, _, a1, a2, ?_⟩
  have e : ∀ b k, (b ≠ 1 ∧ b ≠ sc ∧ b ≠ jo) ∨ (b = jo ∧ k ≠ 0) → gI (pI (pI C' jo 0 (nI sd')) 1 7 0) b k = gI C b k := fun b k q => by
    rw [gI_pIn (by clear g10 q2 q3; omega), gI_pIn (by clear g10 q2 q3; omega), a5 b k (by clear g10 q2 q3; omega), e1 b k (by clear g10 q2 q3; omega)]
  have r : ∀ b k, b ≠ 118 ∨ (3 ≤ k ∧ k ≠ 16) → gI (pI (pI (pI (pI (pI (pI R' 118 21 (gI (pI R 118 0 0) 118 21)) 118 22 (gI (pI R 118 0 0) 118 22)) 118 23 (gI (pI R 118 0 0) 118 23)) 118 24 (gI (pI R 118 0 0) 118 24)) 118 1 0) 118 2 (-1)) b k = gI R b k := fun b k q => by
    by_cases hz : b = 118 ∧ (k = 21 ∨ k = 22 ∨ k = 23 ∨ k = 24)
    · obtain ⟨rfl, rfl | rfl | rfl | rfl⟩ := hz
      · simp (disch := omega) only [gI_pIs, gI_pIn]
      · simp (disch := omega) only [gI_pIs, gI_pIn]
      · simp (disch := omega) only [gI_pIs, gI_pIn]
      · simp (disch := omega) only [gI_pIs, gI_pIn]
    · rw [gI_pIn (by clear g10 q2 q3; omega), gI_pIn (by clear g10 q2 q3; omega), gI_pIn (by clear g10 q2 q3; omega), gI_pIn (by clear g10 q2 q3; omega), gI_pIn (by clear g10 q2 q3; omega), gI_pIn (by clear g10 q2 q3; omega), a6 b k (by clear g10 q2 q3; omega), gI_pIn (by clear g10 q2 q3; omega)]
  have eC : (pI (pI C' jo 0 (nI sd')) 1 7 0).2.2 = C.2.2 := congrArg Prod.snd a3
  have eR : (pI (pI (pI (pI (pI (pI R' 118 21 (gI (pI R 118 0 0) 118 21)) 118 22 (gI (pI R 118 0 0) 118 22)) 118 23 (gI (pI R 118 0 0) 118 23)) 118 24 (gI (pI R 118 0 0) 118 24)) 118 1 0) 118 2 (-1)).2.2 = R.2.2 := congrArg Prod.snd a4
  refine TOP.mv (jo' := jo) (sc' := sc) (sp := sp) hR hP hV (hS.congr eC) eR (fun a k q => e a k (by clear g10 q2 q3; omega)) (fun a k q => r a k (by clear g10 q2 q3; omega)) ?_ ⟨sd', a7, ?_, ?_⟩ ?_
  · refine TQ.mk' (tr := 0) (by decide) (gI_pIs _ _ _ _) ?_ (gI_pIs _ _ _ _) ?_
    · rw [gI_pIk (by decide), gI_pIs]
    · rw [e 4 5 (by clear g10 q2 q3; omega), r 118 13 (by clear g10 q2 q3; omega)]; exact hQ.2.1
  · rw [gI_pIa (by clear g10 q2 q3; omega), gI_pIs]
  · simp (disch := omega) only [gI_pIn]; exact a8
  · refine Or.inr ⟨j, D, n, hc.congr (fun a k q => e a k (by clear g10 q2 q3; omega)) eC hi.1, hj.congr (fun a k q => r a k (by clear g10 q2 q3; omega)) eR, hT.congr (fun a k q => e a k (by clear g10 q2 q3; omega)) hi.1, Or.inr ⟨st, w, rr, pe, to, pl, hh, k, hst, hw, hr, hpe, hto, ⟨hh6, hhe⟩, ⟨k4, hk⟩, q2, q3, ?_⟩⟩
    have hne : ∀ k, k ≠ 0 → gI (pI (pI C' jo 0 (nI sd')) 1 7 0) jo k = gI C jo k := fun k hk => e jo k (Or.inr ⟨rfl, hk⟩)
    rw [hne 1 (by decide), hne 2 (by decide), hne 3 (by decide), hne 4 (by decide), hne 5 (by decide), hne 6 (by decide), hne 7 (by decide), hne 8 (by decide), hne 9 (by decide), hne 10 (by decide), r 118 17 (by clear g10 q2 q3; omega), r 118 18 (by clear g10 q2 q3; omega), r 118 19 (by clear g10 q2 q3; omega), r 118 20 (by clear g10 q2 q3; omega), r 118 21 (by clear g10 q2 q3; omega), r 118 22 (by clear g10 q2 q3; omega), r 118 23 (by clear g10 q2 q3; omega), r 118 24 (by clear g10 q2 q3; omega)]
    exact ⟨g1, g2, g3, g4, g5, g6, g7, g9, g10, k17, k18, k19, k20, k21, k22, k23, k24⟩
