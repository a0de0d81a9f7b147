/-! THE LINES, on: the land, the fields, the houses -/
theorem EJ.pI {A B : MM} {jr : Nat} (h : EJ A B jr) (k : Nat) (v : Int32) : EJ (pI A jr k v) (pI B jr k v) jr := fun b j q1 q2 q3 => by
  by_cases e : b = jr ∧ j = k
  · rw [e.1, e.2, gI_pIs, gI_pIs]
  · rw [gI_pIn (fun z y => e ⟨z, y⟩), gI_pIn (fun z y => e ⟨z, y⟩)]; exact h b j q1 q2 q3
theorem S2.backr {C R : MM} {n s s' a k : Nat} {v : Int32} (h : S2 C R n s) (ha : 123 < a) (h2 : AL C (pI R a k v) n s') : AL C R n s := h.elim id (fun z => ((z.putr ha k v).no h2).elim)
/-- 'land' -/
theorem line_land {C R : MM} {jr sp n s : Nat} {nn : Nat → Nat} (hF : RF C R jr) (hA : AL C R n s) (hP : PI C R sp jr nn) (hN : NM C R jr nn (tot nn)) (hw : wsel R 0 = 7) : ∃ C' R', f_X2_readLine C 4 sp = some C' ∧ f_X13_readLand R 118 = some R' ∧ LO C R C' R' sp jr n s := by
  have hj : 123 < jr := hF.2.2.2.2.2.2.2.2
  have hJ := hF.2.2.2.2.2.2.2.1
  obtain ⟨hs, hs2⟩ := hP.2.1
  have hw1 : wsel R 0 ≠ -1 := by rw [hw]; decide
  have hE : EF C sp (RD R jr) := hP.2.2.2.2.2.2.1
  unfold f_X2_readLine
  rw [hF.1, oc_x, hA.among (show 0 < 57 by decide), ob_s, hw, if_neg (show ¬ (7 : Int32) = -1 by decide)]
  rcases hE.2.1 with ⟨hc, hd⟩ | hold
  · have ad : f_X0_add C sp 7 = some (0, pI C (sp + 8) 7 1) := add_s (k := 7) (m := 0) hP.1 hc (by decide) (by decide)
    have hA1 : AL (pI C (sp + 8) 7 1) R n s := hA.put (by omega) _ _
    have hF1 : RF (pI C (sp + 8) 7 1) R jr := hF.congr rfl rfl
    have e4 : gI (pI C (sp + 8) 7 1) 2 4 = 1 := by rw [gI_pIa (by omega)]; exact hA.word.mpr (wsel_word hw1)
    obtain ⟨C2, R2, a1, a2, p2, p2', s2, z2, f2⟩ := op_adv hF1 (Or.inl hA1) (P := True) (fun _ => ⟨Or.inl e4, trivial⟩)
    have hF2 := hF1.congr p2.1 p2'.1
    rw [ad, ob_s, if_neg (show ¬ (0 : Int32) = -1 by decide), show gR (pI C (sp + 8) 7 1) 4 0 = some 2 from hF.1, oc_x, a1, ob_s, if_pos (show (7 : Int32) ≤ 7 by decide), if_neg (show ¬ (7 : Int32) = 0 by decide), if_neg (show ¬ (7 : Int32) = 1 by decide), if_neg (show ¬ (7 : Int32) = 2 by decide), if_neg (show ¬ (7 : Int32) = 3 by decide), if_neg (show ¬ (7 : Int32) = 4 by decide), if_neg (show ¬ (7 : Int32) = 5 by decide), if_neg (show ¬ (7 : Int32) = 6 by decide), if_pos rfl]
    unfold f_X2_readLand
    obtain ⟨C3, v3, v3', R3, b3, c3, p3, p3', s3, z3, f3⟩ := p_part hF2 z2 (show 24 < 57 by decide) (by decide) (l := 0) (u := 999) (l' := 0) (u' := 999) (fun _ => ⟨rfl, rfl⟩)
    have hF3 := (hF2).congr p3.1 p3'.1
    obtain ⟨C4, v4, v4', R4, b4, c4, p4, p4', s4, z4, f4⟩ := p_part (hF3.congr (C' := (pI C3 sp 9 v3)) (R' := R3) rfl rfl) (z3.put (by omega) 9 v3) (show 25 < 57 by decide) (by decide) (l := 0) (u := 50) (l' := 0) (u' := 50) (fun _ => ⟨rfl, rfl⟩)
    have hF4 := ((hF3.congr (C' := (pI C3 sp 9 v3)) (R' := R3) rfl rfl)).congr p4.1 p4'.1
    obtain ⟨C5, v5, v5', R5, b5, c5, p5, p5', s5, z5, f5⟩ := p_part (hF4.congr (C' := (pI C4 sp 10 v4)) (R' := (pI R4 jr 28 v4')) rfl rfl) ((z4.put (by omega) 10 v4).putr (by omega) 28 v4') (show 16 < 57 by decide) (by decide) (l := 0) (u := 999) (l' := 0) (u' := 999) (fun _ => ⟨rfl, rfl⟩)
    have hF5 := ((hF4.congr (C' := (pI C4 sp 10 v4)) (R' := (pI R4 jr 28 v4')) rfl rfl)).congr p5.1 p5'.1
    rw [b3, ob_s, b4, ob_s, b5, ob_s, ob_s]
    have hR : f_X13_readLand R 118 = if gI (pI R5 jr 29 v5') 118 9 = 5 then some (pI R5 jr 29 v5') else some (pI (pI R5 jr 29 v5') jr 27 v3') := by
      unfold f_X13_readLand
      rw [hF.2.2.2.2.2.1, oc_x, if_pos (show gI R jr 27 = -1 from hd), a2, ob_s]
      rw [c3, ob_s]
      rw [show gR R3 118 4 = some jr from hF3.2.2.2.2.2.1, oc_x]
      rw [c4, ob_s]
      rw [show gR (pI R4 jr 28 v4') 118 4 = some jr from hF4.2.2.2.2.2.1, oc_x]
      rw [c5, ob_s]
      rw [show gR (pI R5 jr 29 v5') 118 4 = some jr from hF5.2.2.2.2.2.1, oc_x]
    rw [hR]
    have kc : KC C (pI C5 sp 11 v5) sp := ((((((((KC.rf C sp).pI (a := sp + 8) (by omega) 7 1).tr (p2.q.k sp)).tr (p3.q.k sp)).pI (a := sp) (by omega) 9 v3).tr (p4.q.k sp)).pI (a := sp) (by omega) 10 v4).tr (p5.q.k sp)).pI (a := sp) (by omega) 11 v5
    have kr : KR R (pI R5 jr 29 v5') jr := ((((((p2'.q jr).k).tr (p3'.q jr).k).tr (p4'.q jr).k).pI (a := jr) (by omega) 28 v4').tr (p5'.q jr).k).pI (a := jr) (by omega) 29 v5'
    have zl : S2 (pI C5 sp 11 v5) (pI R5 jr 29 v5') n s5 := ((z5.put (by omega) 11 v5).putr (by omega) 29 v5')
    rcases zl with zl | zl
    · rw [if_neg zl.ne5]
      obtain ⟨g5, l5, i5, ⟨x5, x5a, x5b⟩, i5c, i5d⟩ := f5 (z5.back (by omega) (S2.backr (z5.put (by omega) _ _) (by omega) zl))
      obtain ⟨g4, l4, i4, ⟨x4, x4a, x4b⟩, i4c, i4d⟩ := f4 (z4.back (by omega) (S2.backr (z4.put (by omega) _ _) (by omega) g5))
      obtain ⟨g3, l3, i3, ⟨x3, x3a, x3b⟩, i3c, i3d⟩ := f3 (z3.back (by omega) g4)
      have l2 := (f2 g3).2.1
      have e8 := ((p5.e).tr (((p4.e).tr (((p3.e).tr (p2.e)).pI sp 9 v3)).pI sp 10 v4)).pI sp 11 v5
      have ej := (((p5'.e hj).tr (((p4'.e hj).tr ((p3'.e hj).tr (p2'.e hj))).pI 28 v4')).pI 29 v5').pI 27 v3'
      refine ⟨_, _, rfl, rfl, kc, kr.pI (by omega) _ _, Or.inl ⟨s5, nn, by omega, zl.putr (by omega) _ _, ?_, ?_⟩⟩
      · refine hP.f kc.1 (fun a j h1 h2 => (e8 a j (by omega)).trans (by rw [gI_pIa (by omega), gI_pIa (by omega), gI_pIa (by omega), gI_pIa (by omega)])) (fun j h => (e8 _ _ (by omega)).trans (by rw [gI_pIa (by omega), gI_pIa (by omega), gI_pIa (by omega), gI_pIk (by omega)]))
          (fun c i h1 h2 => (ej _ _ (by omega) (by omega) (by omega)).trans (by rw [gI_pIa (by omega), gI_pIa (by omega), gI_pIa (by omega)])) (fun j h => (ej _ _ (by omega) (by omega) (by omega)).trans (by rw [gI_pIk (by omega), gI_pIk (by omega), gI_pIk (by omega)])) ?_
        have m8 : gI (pI C5 sp 11 v5) sp 8 = gI C sp 8 := (e8 _ _ (by omega)).trans (by rw [gI_pIk (by decide), gI_pIk (by decide), gI_pIk (by decide), gI_pIa (by omega)])
        have m9 : gI (pI C5 sp 11 v5) sp 9 = v3 := (e8 _ _ (by omega)).trans (by rw [gI_pIk (by decide), gI_pIk (by decide), gI_pIs])
        have m10 : gI (pI C5 sp 11 v5) sp 10 = v4 := (e8 _ _ (by omega)).trans (by rw [gI_pIk (by decide), gI_pIs])
        have m11 : gI (pI C5 sp 11 v5) sp 11 = v5 := (e8 _ _ (by omega)).trans (by rw [gI_pIs])
        have m12 : gI (pI C5 sp 11 v5) sp 12 = gI C sp 12 := (e8 _ _ (by omega)).trans (by rw [gI_pIk (by decide), gI_pIk (by decide), gI_pIk (by decide), gI_pIa (by omega)])
        have m13 : gI (pI C5 sp 11 v5) sp 13 = gI C sp 13 := (e8 _ _ (by omega)).trans (by rw [gI_pIk (by decide), gI_pIk (by decide), gI_pIk (by decide), gI_pIa (by omega)])
        have m14 : gI (pI C5 sp 11 v5) sp 14 = gI C sp 14 := (e8 _ _ (by omega)).trans (by rw [gI_pIk (by decide), gI_pIk (by decide), gI_pIk (by decide), gI_pIa (by omega)])
        have m15 : gI (pI C5 sp 11 v5) sp 15 = gI C sp 15 := (e8 _ _ (by omega)).trans (by rw [gI_pIk (by decide), gI_pIk (by decide), gI_pIk (by decide), gI_pIa (by omega)])
        have m16 : gI (pI C5 sp 11 v5) sp 16 = gI C sp 16 := (e8 _ _ (by omega)).trans (by rw [gI_pIk (by decide), gI_pIk (by decide), gI_pIk (by decide), gI_pIa (by omega)])
        have q7 : gI (pI C5 sp 11 v5) (sp + 8) 7 = 1 := (e8 _ _ (by omega)).trans (by rw [gI_pIa (by omega), gI_pIa (by omega), gI_pIa (by omega), gI_pIs])
        have q8 : gI (pI C5 sp 11 v5) (sp + 8) 8 = gI C (sp + 8) 8 := (e8 _ _ (by omega)).trans (by rw [gI_pIa (by omega), gI_pIa (by omega), gI_pIa (by omega), gI_pIk (by decide)])
        have q9 : gI (pI C5 sp 11 v5) (sp + 8) 9 = gI C (sp + 8) 9 := (e8 _ _ (by omega)).trans (by rw [gI_pIa (by omega), gI_pIa (by omega), gI_pIa (by omega), gI_pIk (by decide)])
        have r3 : RD (pI (pI R5 jr 29 v5') jr 27 v3') jr 0 3 = RD R jr 0 3 := (ej jr 3 (by omega) (by omega) (by omega)).trans (by rw [gI_pIk (by decide), gI_pIk (by decide), gI_pIk (by decide)]; rfl)
        have r27 : RD (pI (pI R5 jr 29 v5') jr 27 v3') jr 0 27 = v3' := (ej jr 27 (by omega) (by omega) (by omega)).trans (by rw [gI_pIs])
        have r28 : RD (pI (pI R5 jr 29 v5') jr 27 v3') jr 0 28 = v4' := (ej jr 28 (by omega) (by omega) (by omega)).trans (by rw [gI_pIk (by decide), gI_pIk (by decide), gI_pIs])
        have r29 : RD (pI (pI R5 jr 29 v5') jr 27 v3') jr 0 29 = v5' := (ej jr 29 (by omega) (by omega) (by omega)).trans (by rw [gI_pIk (by decide), gI_pIs])
        have r30 : RD (pI (pI R5 jr 29 v5') jr 27 v3') jr 0 30 = RD R jr 0 30 := (ej jr 30 (by omega) (by omega) (by omega)).trans (by rw [gI_pIk (by decide), gI_pIk (by decide), gI_pIk (by decide)]; rfl)
        have r31 : RD (pI (pI R5 jr 29 v5') jr 27 v3') jr 0 31 = RD R jr 0 31 := (ej jr 31 (by omega) (by omega) (by omega)).trans (by rw [gI_pIk (by decide), gI_pIk (by decide), gI_pIk (by decide)]; rfl)
        have r32 : RD (pI (pI R5 jr 29 v5') jr 27 v3') jr 0 32 = RD R jr 0 32 := (ej jr 32 (by omega) (by omega) (by omega)).trans (by rw [gI_pIk (by decide), gI_pIk (by decide), gI_pIk (by decide)]; rfl)
        have r33 : RD (pI (pI R5 jr 29 v5') jr 27 v3') jr 0 33 = RD R jr 0 33 := (ej jr 33 (by omega) (by omega) (by omega)).trans (by rw [gI_pIk (by decide), gI_pIk (by decide), gI_pIk (by decide)]; rfl)
        have r34 : RD (pI (pI R5 jr 29 v5') jr 27 v3') jr 0 34 = RD R jr 0 34 := (ej jr 34 (by omega) (by omega) (by omega)).trans (by rw [gI_pIk (by decide), gI_pIk (by decide), gI_pIk (by decide)]; rfl)
        unfold EF at hE ⊢
        rw [m8, m9, m10, m11, m12, m13, m14, m15, m16, q7, q8, q9, r3, r27, r28, r29, r30, r31, r32, r33, r34]
        exact ⟨hE.1, Or.inr ⟨rfl, ⟨x3, x3a, i3.symm.trans x3b⟩, i3, i4, i5⟩, hE.2.2⟩
      · exact ((((((((((hN.put (a := sp + 8) (by omega) 7 1).go hj p2 p2').go hj p3 p3').put (by omega) _ _).go hj p4 p4').put (by omega) _ _).putr (by omega) (by omega) _).go hj p5 p5').put (by omega) _ _).putr (by omega) (by omega) _).putr (by omega) (by omega) _
    · rw [if_pos zl.1]
      exact ⟨_, _, rfl, rfl, kc, kr, Or.inr zl⟩
  · have ad : f_X0_add C sp 7 = some (-1, C) := add_n (k := 7) (m := 1) hP.1 hold.1 (by decide) (by decide) (by decide)
    obtain ⟨C1, R1, a1, a2, a3, a4, a5⟩ := p_fail hF (Or.inl hA) 3 (by decide)
    have hF1 := hF.congr a3.1 a4.1
    obtain ⟨t, ht, hd⟩ := hold.2.1
    obtain ⟨R', b1, b2⟩ := land_again (R1 := R1) hF.2.2.2.2.2.1 (by rw [show gI R jr 27 = nI t from hd]; exact m1_nI (by omega)) a2 a5.1 hF1.2.2.2.2.2.1 hF1.2.2.2.2.2.2.2.1 (hN.nr.go hj a4) hj (a4.2.1 jr 27 (by omega))
    rw [ad, ob_s, if_pos rfl, if_neg (show ¬ (7 : Int32) < 7 by decide), a1, ob_s]
    refine ⟨C1, R', rfl, b1, a3.q.k sp, (a4.q jr).k.tr b2.k, Or.inr (a5.congr (fun _ => rfl) (fun _ => rfl) rfl rfl (fun j => b2.2.1 118 j (by omega)))⟩
/-- 'fields' -/
theorem line_fields {C R : MM} {jr sp n s : Nat} {nn : Nat → Nat} (hF : RF C R jr) (hA : AL C R n s) (hP : PI C R sp jr nn) (hN : NM C R jr nn (tot nn)) (hw : wsel R 0 = 8) : ∃ C' R', f_X2_readLine C 4 sp = some C' ∧ f_X13_readFields R 118 = some R' ∧ LO C R C' R' sp jr n s := by
  have hj : 123 < jr := hF.2.2.2.2.2.2.2.2
  have hJ := hF.2.2.2.2.2.2.2.1
  obtain ⟨hs, hs2⟩ := hP.2.1
  have hw1 : wsel R 0 ≠ -1 := by rw [hw]; decide
  have hE : EF C sp (RD R jr) := hP.2.2.2.2.2.2.1
  unfold f_X2_readLine
  rw [hF.1, oc_x, hA.among (show 0 < 57 by decide), ob_s, hw, if_neg (show ¬ (8 : Int32) = -1 by decide)]
  rcases hE.2.2.1 with ⟨hc, hd⟩ | hold
  · have ad : f_X0_add C sp 8 = some (0, pI C (sp + 8) 8 1) := add_s (k := 8) (m := 0) hP.1 hc (by decide) (by decide)
    have hA1 : AL (pI C (sp + 8) 8 1) R n s := hA.put (by omega) _ _
    have hF1 : RF (pI C (sp + 8) 8 1) R jr := hF.congr rfl rfl
    have e4 : gI (pI C (sp + 8) 8 1) 2 4 = 1 := by rw [gI_pIa (by omega)]; exact hA.word.mpr (wsel_word hw1)
    obtain ⟨C2, R2, a1, a2, p2, p2', s2, z2, f2⟩ := op_adv hF1 (Or.inl hA1) (P := True) (fun _ => ⟨Or.inl e4, trivial⟩)
    have hF2 := hF1.congr p2.1 p2'.1
    rw [ad, ob_s, if_neg (show ¬ (0 : Int32) = -1 by decide), show gR (pI C (sp + 8) 8 1) 4 0 = some 2 from hF.1, oc_x, a1, ob_s, if_pos (show (7 : Int32) ≤ 8 by decide), if_neg (show ¬ (8 : Int32) = 0 by decide), if_neg (show ¬ (8 : Int32) = 1 by decide), if_neg (show ¬ (8 : Int32) = 2 by decide), if_neg (show ¬ (8 : Int32) = 3 by decide), if_neg (show ¬ (8 : Int32) = 4 by decide), if_neg (show ¬ (8 : Int32) = 5 by decide), if_neg (show ¬ (8 : Int32) = 6 by decide), if_neg (show ¬ (8 : Int32) = 7 by decide), if_pos rfl]
    unfold f_X2_readFields
    obtain ⟨C3, v3, v3', R3, b3, c3, p3, p3', s3, z3, f3⟩ := p_whole hF2 z2 (l := 0) (u := 999) (l' := 0) (u' := 999) (fun _ => ⟨rfl, rfl⟩)
    have hF3 := (hF2).congr p3.1 p3'.1
    obtain ⟨C4, v4, v4', R4, b4, c4, p4, p4', s4, z4, f4⟩ := p_part (hF3.congr (C' := (pI C3 sp 12 v3)) (R' := R3) rfl rfl) (z3.put (by omega) 12 v3) (show 26 < 57 by decide) (by decide) (l := 0) (u := 99) (l' := 0) (u' := 99) (fun _ => ⟨rfl, rfl⟩)
    have hF4 := ((hF3.congr (C' := (pI C3 sp 12 v3)) (R' := R3) rfl rfl)).congr p4.1 p4'.1
    rw [b3, ob_s, b4, ob_s, ob_s]
    have hR : f_X13_readFields R 118 = if gI (pI R4 jr 31 v4') 118 9 = 5 then some (pI R4 jr 31 v4') else some (pI (pI R4 jr 31 v4') jr 30 v3') := by
      unfold f_X13_readFields
      rw [hF.2.2.2.2.2.1, oc_x, if_pos (show gI R jr 30 = -1 from hd), a2, ob_s]
      rw [c3, ob_s]
      rw [show gR R3 118 4 = some jr from hF3.2.2.2.2.2.1, oc_x]
      rw [c4, ob_s]
      rw [show gR (pI R4 jr 31 v4') 118 4 = some jr from hF4.2.2.2.2.2.1, oc_x]
    rw [hR]
    have kc : KC C (pI C4 sp 13 v4) sp := ((((((KC.rf C sp).pI (a := sp + 8) (by omega) 8 1).tr (p2.q.k sp)).tr (p3.q.k sp)).pI (a := sp) (by omega) 12 v3).tr (p4.q.k sp)).pI (a := sp) (by omega) 13 v4
    have kr : KR R (pI R4 jr 31 v4') jr := ((((p2'.q jr).k).tr (p3'.q jr).k).tr (p4'.q jr).k).pI (a := jr) (by omega) 31 v4'
    have zl : S2 (pI C4 sp 13 v4) (pI R4 jr 31 v4') n s4 := ((z4.put (by omega) 13 v4).putr (by omega) 31 v4')
    rcases zl with zl | zl
    · rw [if_neg zl.ne5]
      obtain ⟨g4, l4, i4, ⟨x4, x4a, x4b⟩, i4c, i4d⟩ := f4 (z4.back (by omega) (S2.backr (z4.put (by omega) _ _) (by omega) zl))
      obtain ⟨g3, l3, i3, ⟨x3, x3a, x3b⟩, i3c, i3d⟩ := f3 (z3.back (by omega) g4)
      have l2 := (f2 g3).2.1
      have e8 := ((p4.e).tr (((p3.e).tr (p2.e)).pI sp 12 v3)).pI sp 13 v4
      have ej := (((p4'.e hj).tr ((p3'.e hj).tr (p2'.e hj))).pI 31 v4').pI 30 v3'
      refine ⟨_, _, rfl, rfl, kc, kr.pI (by omega) _ _, Or.inl ⟨s4, nn, by omega, zl.putr (by omega) _ _, ?_, ?_⟩⟩
      · refine hP.f kc.1 (fun a j h1 h2 => (e8 a j (by omega)).trans (by rw [gI_pIa (by omega), gI_pIa (by omega), gI_pIa (by omega)])) (fun j h => (e8 _ _ (by omega)).trans (by rw [gI_pIa (by omega), gI_pIa (by omega), gI_pIk (by omega)]))
          (fun c i h1 h2 => (ej _ _ (by omega) (by omega) (by omega)).trans (by rw [gI_pIa (by omega), gI_pIa (by omega)])) (fun j h => (ej _ _ (by omega) (by omega) (by omega)).trans (by rw [gI_pIk (by omega), gI_pIk (by omega)])) ?_
        have m8 : gI (pI C4 sp 13 v4) sp 8 = gI C sp 8 := (e8 _ _ (by omega)).trans (by rw [gI_pIk (by decide), gI_pIk (by decide), gI_pIa (by omega)])
        have m9 : gI (pI C4 sp 13 v4) sp 9 = gI C sp 9 := (e8 _ _ (by omega)).trans (by rw [gI_pIk (by decide), gI_pIk (by decide), gI_pIa (by omega)])
        have m10 : gI (pI C4 sp 13 v4) sp 10 = gI C sp 10 := (e8 _ _ (by omega)).trans (by rw [gI_pIk (by decide), gI_pIk (by decide), gI_pIa (by omega)])
        have m11 : gI (pI C4 sp 13 v4) sp 11 = gI C sp 11 := (e8 _ _ (by omega)).trans (by rw [gI_pIk (by decide), gI_pIk (by decide), gI_pIa (by omega)])
        have m12 : gI (pI C4 sp 13 v4) sp 12 = v3 := (e8 _ _ (by omega)).trans (by rw [gI_pIk (by decide), gI_pIs])
        have m13 : gI (pI C4 sp 13 v4) sp 13 = v4 := (e8 _ _ (by omega)).trans (by rw [gI_pIs])
        have m14 : gI (pI C4 sp 13 v4) sp 14 = gI C sp 14 := (e8 _ _ (by omega)).trans (by rw [gI_pIk (by decide), gI_pIk (by decide), gI_pIa (by omega)])
        have m15 : gI (pI C4 sp 13 v4) sp 15 = gI C sp 15 := (e8 _ _ (by omega)).trans (by rw [gI_pIk (by decide), gI_pIk (by decide), gI_pIa (by omega)])
        have m16 : gI (pI C4 sp 13 v4) sp 16 = gI C sp 16 := (e8 _ _ (by omega)).trans (by rw [gI_pIk (by decide), gI_pIk (by decide), gI_pIa (by omega)])
        have q7 : gI (pI C4 sp 13 v4) (sp + 8) 7 = gI C (sp + 8) 7 := (e8 _ _ (by omega)).trans (by rw [gI_pIa (by omega), gI_pIa (by omega), gI_pIk (by decide)])
        have q8 : gI (pI C4 sp 13 v4) (sp + 8) 8 = 1 := (e8 _ _ (by omega)).trans (by rw [gI_pIa (by omega), gI_pIa (by omega), gI_pIs])
        have q9 : gI (pI C4 sp 13 v4) (sp + 8) 9 = gI C (sp + 8) 9 := (e8 _ _ (by omega)).trans (by rw [gI_pIa (by omega), gI_pIa (by omega), gI_pIk (by decide)])
        have r3 : RD (pI (pI R4 jr 31 v4') jr 30 v3') jr 0 3 = RD R jr 0 3 := (ej jr 3 (by omega) (by omega) (by omega)).trans (by rw [gI_pIk (by decide), gI_pIk (by decide)]; rfl)
        have r27 : RD (pI (pI R4 jr 31 v4') jr 30 v3') jr 0 27 = RD R jr 0 27 := (ej jr 27 (by omega) (by omega) (by omega)).trans (by rw [gI_pIk (by decide), gI_pIk (by decide)]; rfl)
        have r28 : RD (pI (pI R4 jr 31 v4') jr 30 v3') jr 0 28 = RD R jr 0 28 := (ej jr 28 (by omega) (by omega) (by omega)).trans (by rw [gI_pIk (by decide), gI_pIk (by decide)]; rfl)
        have r29 : RD (pI (pI R4 jr 31 v4') jr 30 v3') jr 0 29 = RD R jr 0 29 := (ej jr 29 (by omega) (by omega) (by omega)).trans (by rw [gI_pIk (by decide), gI_pIk (by decide)]; rfl)
        have r30 : RD (pI (pI R4 jr 31 v4') jr 30 v3') jr 0 30 = v3' := (ej jr 30 (by omega) (by omega) (by omega)).trans (by rw [gI_pIs])
        have r31 : RD (pI (pI R4 jr 31 v4') jr 30 v3') jr 0 31 = v4' := (ej jr 31 (by omega) (by omega) (by omega)).trans (by rw [gI_pIk (by decide), gI_pIs])
        have r32 : RD (pI (pI R4 jr 31 v4') jr 30 v3') jr 0 32 = RD R jr 0 32 := (ej jr 32 (by omega) (by omega) (by omega)).trans (by rw [gI_pIk (by decide), gI_pIk (by decide)]; rfl)
        have r33 : RD (pI (pI R4 jr 31 v4') jr 30 v3') jr 0 33 = RD R jr 0 33 := (ej jr 33 (by omega) (by omega) (by omega)).trans (by rw [gI_pIk (by decide), gI_pIk (by decide)]; rfl)
        have r34 : RD (pI (pI R4 jr 31 v4') jr 30 v3') jr 0 34 = RD R jr 0 34 := (ej jr 34 (by omega) (by omega) (by omega)).trans (by rw [gI_pIk (by decide), gI_pIk (by decide)]; rfl)
        unfold EF at hE ⊢
        rw [m8, m9, m10, m11, m12, m13, m14, m15, m16, q7, q8, q9, r3, r27, r28, r29, r30, r31, r32, r33, r34]
        exact ⟨hE.1, hE.2.1, Or.inr ⟨rfl, ⟨x3, x3a, i3.symm.trans x3b⟩, i3, i4⟩, hE.2.2.2⟩
      · exact (((((((hN.put (a := sp + 8) (by omega) 8 1).go hj p2 p2').go hj p3 p3').put (by omega) _ _).go hj p4 p4').put (by omega) _ _).putr (by omega) (by omega) _).putr (by omega) (by omega) _
    · rw [if_pos zl.1]
      exact ⟨_, _, rfl, rfl, kc, kr, Or.inr zl⟩
  · have ad : f_X0_add C sp 8 = some (-1, C) := add_n (k := 8) (m := 1) hP.1 hold.1 (by decide) (by decide) (by decide)
    obtain ⟨C1, R1, a1, a2, a3, a4, a5⟩ := p_fail hF (Or.inl hA) 3 (by decide)
    have hF1 := hF.congr a3.1 a4.1
    obtain ⟨t, ht, hd⟩ := hold.2.1
    obtain ⟨R', b1, b2⟩ := fields_again (R1 := R1) hF.2.2.2.2.2.1 (by rw [show gI R jr 30 = nI t from hd]; exact m1_nI (by omega)) a2 a5.1 hF1.2.2.2.2.2.1 hF1.2.2.2.2.2.2.2.1 (hN.nr.go hj a4) hj (a4.2.1 jr 30 (by omega))
    rw [ad, ob_s, if_pos rfl, if_neg (show ¬ (8 : Int32) < 7 by decide), a1, ob_s]
    refine ⟨C1, R', rfl, b1, a3.q.k sp, (a4.q jr).k.tr b2.k, Or.inr (a5.congr (fun _ => rfl) (fun _ => rfl) rfl rfl (fun j => b2.2.1 118 j (by omega)))⟩
/-- 'houses' -/
theorem line_houses {C R : MM} {jr sp n s : Nat} {nn : Nat → Nat} (hF : RF C R jr) (hA : AL C R n s) (hP : PI C R sp jr nn) (hN : NM C R jr nn (tot nn)) (hw : wsel R 0 = 9) : ∃ C' R', f_X2_readLine C 4 sp = some C' ∧ f_X13_readHouses R 118 = some R' ∧ LO C R C' R' sp jr n s := by
  have hj : 123 < jr := hF.2.2.2.2.2.2.2.2
  have hJ := hF.2.2.2.2.2.2.2.1
  obtain ⟨hs, hs2⟩ := hP.2.1
  have hw1 : wsel R 0 ≠ -1 := by rw [hw]; decide
  have hE : EF C sp (RD R jr) := hP.2.2.2.2.2.2.1
  unfold f_X2_readLine
  rw [hF.1, oc_x, hA.among (show 0 < 57 by decide), ob_s, hw, if_neg (show ¬ (9 : Int32) = -1 by decide)]
  rcases hE.2.2.2 with ⟨hc, hd⟩ | hold
  · have ad : f_X0_add C sp 9 = some (0, pI C (sp + 8) 9 1) := add_s (k := 9) (m := 0) hP.1 hc (by decide) (by decide)
    have hA1 : AL (pI C (sp + 8) 9 1) R n s := hA.put (by omega) _ _
    have hF1 : RF (pI C (sp + 8) 9 1) R jr := hF.congr rfl rfl
    have e4 : gI (pI C (sp + 8) 9 1) 2 4 = 1 := by rw [gI_pIa (by omega)]; exact hA.word.mpr (wsel_word hw1)
    obtain ⟨C2, R2, a1, a2, p2, p2', s2, z2, f2⟩ := op_adv hF1 (Or.inl hA1) (P := True) (fun _ => ⟨Or.inl e4, trivial⟩)
    have hF2 := hF1.congr p2.1 p2'.1
    rw [ad, ob_s, if_neg (show ¬ (0 : Int32) = -1 by decide), show gR (pI C (sp + 8) 9 1) 4 0 = some 2 from hF.1, oc_x, a1, ob_s, if_pos (show (7 : Int32) ≤ 9 by decide), if_neg (show ¬ (9 : Int32) = 0 by decide), if_neg (show ¬ (9 : Int32) = 1 by decide), if_neg (show ¬ (9 : Int32) = 2 by decide), if_neg (show ¬ (9 : Int32) = 3 by decide), if_neg (show ¬ (9 : Int32) = 4 by decide), if_neg (show ¬ (9 : Int32) = 5 by decide), if_neg (show ¬ (9 : Int32) = 6 by decide), if_neg (show ¬ (9 : Int32) = 7 by decide), if_neg (show ¬ (9 : Int32) = 8 by decide)]
    unfold f_X2_readHouses
    obtain ⟨C3, v3, v3', R3, b3, c3, p3, p3', s3, z3, f3⟩ := p_whole hF2 z2 (l := 0) (u := 999) (l' := 0) (u' := 999) (fun _ => ⟨rfl, rfl⟩)
    have hF3 := (hF2).congr p3.1 p3'.1
    obtain ⟨C4, v4, v4', R4, b4, c4, p4, p4', s4, z4, f4⟩ := p_part (hF3.congr (C' := (pI C3 sp 14 v3)) (R' := R3) rfl rfl) (z3.put (by omega) 14 v3) (show 27 < 57 by decide) (by decide) (l := 0) (u := 20) (l' := 0) (u' := 20) (fun _ => ⟨rfl, rfl⟩)
    have hF4 := ((hF3.congr (C' := (pI C3 sp 14 v3)) (R' := R3) rfl rfl)).congr p4.1 p4'.1
    obtain ⟨C5, v5, v5', R5, b5, c5, p5, p5', s5, z5, f5⟩ := p_part (hF4.congr (C' := (pI C4 sp 15 v4)) (R' := (pI R4 jr 33 v4')) rfl rfl) ((z4.put (by omega) 15 v4).putr (by omega) 33 v4') (show 28 < 57 by decide) (by decide) (l := (gI (pI C4 sp 15 v4) sp 15)) (u := 40) (l' := (gI (pI R4 jr 33 v4') jr 33)) (u' := 40) (fun z => ⟨by rw [gI_pIs, gI_pIs]; exact (f4 (z4.back (by omega) (S2.backr (z4.put (by omega) _ _) (by omega) z))).2.2.1, rfl⟩)
    have hF5 := ((hF4.congr (C' := (pI C4 sp 15 v4)) (R' := (pI R4 jr 33 v4')) rfl rfl)).congr p5.1 p5'.1
    rw [b3, ob_s, b4, ob_s, b5, ob_s, ob_s]
    have hR : f_X13_readHouses R 118 = if gI (pI R5 jr 34 v5') 118 9 = 5 then some (pI R5 jr 34 v5') else some (pI (pI R5 jr 34 v5') jr 32 v3') := by
      unfold f_X13_readHouses
      rw [hF.2.2.2.2.2.1, oc_x, if_pos (show gI R jr 32 = -1 from hd), a2, ob_s]
      rw [c3, ob_s]
      rw [show gR R3 118 4 = some jr from hF3.2.2.2.2.2.1, oc_x]
      rw [c4, ob_s]
      rw [show gR (pI R4 jr 33 v4') 118 4 = some jr from hF4.2.2.2.2.2.1, oc_x]
      rw [oc_x]
      rw [c5, ob_s]
      rw [show gR (pI R5 jr 34 v5') 118 4 = some jr from hF5.2.2.2.2.2.1, oc_x]
    rw [hR]
    have kc : KC C (pI C5 sp 16 v5) sp := ((((((((KC.rf C sp).pI (a := sp + 8) (by omega) 9 1).tr (p2.q.k sp)).tr (p3.q.k sp)).pI (a := sp) (by omega) 14 v3).tr (p4.q.k sp)).pI (a := sp) (by omega) 15 v4).tr (p5.q.k sp)).pI (a := sp) (by omega) 16 v5
    have kr : KR R (pI R5 jr 34 v5') jr := ((((((p2'.q jr).k).tr (p3'.q jr).k).tr (p4'.q jr).k).pI (a := jr) (by omega) 33 v4').tr (p5'.q jr).k).pI (a := jr) (by omega) 34 v5'
    have zl : S2 (pI C5 sp 16 v5) (pI R5 jr 34 v5') n s5 := ((z5.put (by omega) 16 v5).putr (by omega) 34 v5')
    rcases zl with zl | zl
    · rw [if_neg zl.ne5]
      obtain ⟨g5, l5, i5, ⟨x5, x5a, x5b⟩, i5c, i5d⟩ := f5 (z5.back (by omega) (S2.backr (z5.put (by omega) _ _) (by omega) zl))
      obtain ⟨g4, l4, i4, ⟨x4, x4a, x4b⟩, i4c, i4d⟩ := f4 (z4.back (by omega) (S2.backr (z4.put (by omega) _ _) (by omega) g5))
      obtain ⟨g3, l3, i3, ⟨x3, x3a, x3b⟩, i3c, i3d⟩ := f3 (z3.back (by omega) g4)
      have l2 := (f2 g3).2.1
      have e8 := ((p5.e).tr (((p4.e).tr (((p3.e).tr (p2.e)).pI sp 14 v3)).pI sp 15 v4)).pI sp 16 v5
      have ej := (((p5'.e hj).tr (((p4'.e hj).tr ((p3'.e hj).tr (p2'.e hj))).pI 33 v4')).pI 34 v5').pI 32 v3'
      refine ⟨_, _, rfl, rfl, kc, kr.pI (by omega) _ _, Or.inl ⟨s5, nn, by omega, zl.putr (by omega) _ _, ?_, ?_⟩⟩
      · refine hP.f kc.1 (fun a j h1 h2 => (e8 a j (by omega)).trans (by rw [gI_pIa (by omega), gI_pIa (by omega), gI_pIa (by omega), gI_pIa (by omega)])) (fun j h => (e8 _ _ (by omega)).trans (by rw [gI_pIa (by omega), gI_pIa (by omega), gI_pIa (by omega), gI_pIk (by omega)]))
          (fun c i h1 h2 => (ej _ _ (by omega) (by omega) (by omega)).trans (by rw [gI_pIa (by omega), gI_pIa (by omega), gI_pIa (by omega)])) (fun j h => (ej _ _ (by omega) (by omega) (by omega)).trans (by rw [gI_pIk (by omega), gI_pIk (by omega), gI_pIk (by omega)])) ?_
        have m8 : gI (pI C5 sp 16 v5) sp 8 = gI C sp 8 := (e8 _ _ (by omega)).trans (by rw [gI_pIk (by decide), gI_pIk (by decide), gI_pIk (by decide), gI_pIa (by omega)])
        have m9 : gI (pI C5 sp 16 v5) sp 9 = gI C sp 9 := (e8 _ _ (by omega)).trans (by rw [gI_pIk (by decide), gI_pIk (by decide), gI_pIk (by decide), gI_pIa (by omega)])
        have m10 : gI (pI C5 sp 16 v5) sp 10 = gI C sp 10 := (e8 _ _ (by omega)).trans (by rw [gI_pIk (by decide), gI_pIk (by decide), gI_pIk (by decide), gI_pIa (by omega)])
        have m11 : gI (pI C5 sp 16 v5) sp 11 = gI C sp 11 := (e8 _ _ (by omega)).trans (by rw [gI_pIk (by decide), gI_pIk (by decide), gI_pIk (by decide), gI_pIa (by omega)])
        have m12 : gI (pI C5 sp 16 v5) sp 12 = gI C sp 12 := (e8 _ _ (by omega)).trans (by rw [gI_pIk (by decide), gI_pIk (by decide), gI_pIk (by decide), gI_pIa (by omega)])
        have m13 : gI (pI C5 sp 16 v5) sp 13 = gI C sp 13 := (e8 _ _ (by omega)).trans (by rw [gI_pIk (by decide), gI_pIk (by decide), gI_pIk (by decide), gI_pIa (by omega)])
        have m14 : gI (pI C5 sp 16 v5) sp 14 = v3 := (e8 _ _ (by omega)).trans (by rw [gI_pIk (by decide), gI_pIk (by decide), gI_pIs])
        have m15 : gI (pI C5 sp 16 v5) sp 15 = v4 := (e8 _ _ (by omega)).trans (by rw [gI_pIk (by decide), gI_pIs])
        have m16 : gI (pI C5 sp 16 v5) sp 16 = v5 := (e8 _ _ (by omega)).trans (by rw [gI_pIs])
        have q7 : gI (pI C5 sp 16 v5) (sp + 8) 7 = gI C (sp + 8) 7 := (e8 _ _ (by omega)).trans (by rw [gI_pIa (by omega), gI_pIa (by omega), gI_pIa (by omega), gI_pIk (by decide)])
        have q8 : gI (pI C5 sp 16 v5) (sp + 8) 8 = gI C (sp + 8) 8 := (e8 _ _ (by omega)).trans (by rw [gI_pIa (by omega), gI_pIa (by omega), gI_pIa (by omega), gI_pIk (by decide)])
        have q9 : gI (pI C5 sp 16 v5) (sp + 8) 9 = 1 := (e8 _ _ (by omega)).trans (by rw [gI_pIa (by omega), gI_pIa (by omega), gI_pIa (by omega), gI_pIs])
        have r3 : RD (pI (pI R5 jr 34 v5') jr 32 v3') jr 0 3 = RD R jr 0 3 := (ej jr 3 (by omega) (by omega) (by omega)).trans (by rw [gI_pIk (by decide), gI_pIk (by decide), gI_pIk (by decide)]; rfl)
        have r27 : RD (pI (pI R5 jr 34 v5') jr 32 v3') jr 0 27 = RD R jr 0 27 := (ej jr 27 (by omega) (by omega) (by omega)).trans (by rw [gI_pIk (by decide), gI_pIk (by decide), gI_pIk (by decide)]; rfl)
        have r28 : RD (pI (pI R5 jr 34 v5') jr 32 v3') jr 0 28 = RD R jr 0 28 := (ej jr 28 (by omega) (by omega) (by omega)).trans (by rw [gI_pIk (by decide), gI_pIk (by decide), gI_pIk (by decide)]; rfl)
        have r29 : RD (pI (pI R5 jr 34 v5') jr 32 v3') jr 0 29 = RD R jr 0 29 := (ej jr 29 (by omega) (by omega) (by omega)).trans (by rw [gI_pIk (by decide), gI_pIk (by decide), gI_pIk (by decide)]; rfl)
        have r30 : RD (pI (pI R5 jr 34 v5') jr 32 v3') jr 0 30 = RD R jr 0 30 := (ej jr 30 (by omega) (by omega) (by omega)).trans (by rw [gI_pIk (by decide), gI_pIk (by decide), gI_pIk (by decide)]; rfl)
        have r31 : RD (pI (pI R5 jr 34 v5') jr 32 v3') jr 0 31 = RD R jr 0 31 := (ej jr 31 (by omega) (by omega) (by omega)).trans (by rw [gI_pIk (by decide), gI_pIk (by decide), gI_pIk (by decide)]; rfl)
        have r32 : RD (pI (pI R5 jr 34 v5') jr 32 v3') jr 0 32 = v3' := (ej jr 32 (by omega) (by omega) (by omega)).trans (by rw [gI_pIs])
        have r33 : RD (pI (pI R5 jr 34 v5') jr 32 v3') jr 0 33 = v4' := (ej jr 33 (by omega) (by omega) (by omega)).trans (by rw [gI_pIk (by decide), gI_pIk (by decide), gI_pIs])
        have r34 : RD (pI (pI R5 jr 34 v5') jr 32 v3') jr 0 34 = v5' := (ej jr 34 (by omega) (by omega) (by omega)).trans (by rw [gI_pIk (by decide), gI_pIs])
        unfold EF at hE ⊢
        rw [m8, m9, m10, m11, m12, m13, m14, m15, m16, q7, q8, q9, r3, r27, r28, r29, r30, r31, r32, r33, r34]
        exact ⟨hE.1, hE.2.1, hE.2.2.1, Or.inr ⟨rfl, ⟨x3, x3a, i3.symm.trans x3b⟩, i3, i4, i5⟩⟩
      · exact ((((((((((hN.put (a := sp + 8) (by omega) 9 1).go hj p2 p2').go hj p3 p3').put (by omega) _ _).go hj p4 p4').put (by omega) _ _).putr (by omega) (by omega) _).go hj p5 p5').put (by omega) _ _).putr (by omega) (by omega) _).putr (by omega) (by omega) _
    · rw [if_pos zl.1]
      exact ⟨_, _, rfl, rfl, kc, kr, Or.inr zl⟩
  · have ad : f_X0_add C sp 9 = some (-1, C) := add_n (k := 9) (m := 1) hP.1 hold.1 (by decide) (by decide) (by decide)
    obtain ⟨C1, R1, a1, a2, a3, a4, a5⟩ := p_fail hF (Or.inl hA) 3 (by decide)
    have hF1 := hF.congr a3.1 a4.1
    obtain ⟨t, ht, hd⟩ := hold.2.1
    obtain ⟨R', b1, b2⟩ := houses_again (R1 := R1) hF.2.2.2.2.2.1 (by rw [show gI R jr 32 = nI t from hd]; exact m1_nI (by omega)) a2 a5.1 hF1.2.2.2.2.2.1 hF1.2.2.2.2.2.2.2.1 (hN.nr.go hj a4) hj (a4.2.1 jr 32 (by omega))
    rw [ad, ob_s, if_pos rfl, if_neg (show ¬ (9 : Int32) < 7 by decide), a1, ob_s]
    refine ⟨C1, R', rfl, b1, a3.q.k sp, (a4.q jr).k.tr b2.k, Or.inr (a5.congr (fun _ => rfl) (fun _ => rfl) rfl rfl (fun j => b2.2.1 118 j (by omega)))⟩
