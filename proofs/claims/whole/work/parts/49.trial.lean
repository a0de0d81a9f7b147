/-! THE LINES, on: known names -/
theorem PFc.cong {A B : MM} (h : PFc A B) (a k : Nat) (v : Int32) : PFc (pI A a k v) (pI B a k v) := ⟨h.1, fun b j q q' => by
  by_cases e : b = a ∧ j = k
  · rw [e.1, e.2, gI_pIs, gI_pIs]
  · rw [gI_pIn (fun z y => e ⟨z, y⟩), gI_pIn (fun z y => e ⟨z, y⟩)]; exact h.2.1 b j q q', h.2.2⟩
theorem NC.put {C : MM} (h : NC C) {a : Nat} (ha : 8 ≤ a) (k : Nat) (v : Int32) : NC (pI C a k v) := by
  obtain ⟨t, h1, h2⟩ := h
  exact ⟨t, h1, by rw [gI_pIa (by omega)]; exact h2⟩
/-- a name told before, kept, and on -/
theorem p_known {C R : MM} {jr n s t c : Nat} {nn : Nat → Nat} (hF : RF C R jr) (h : S2 C R n s) (hC : NC C) (hR : NR R jr) (hN : AL C R n s → NM C R jr nn t) (hc : c < 2) {b : Nat} (hb : 8 ≤ b) (cell : Nat) : ∃ C1 v v' C2 R2, f_X2_toldName C 4 (nI c) = some (v, C1) ∧ gR (pI C1 b cell v) 4 0 = some 2 ∧ f_X7_advance (pI C1 b cell v) 2 = some C2 ∧ f_X13_readKnown R 118 (nI c) = some (v', R2) ∧ PFc (pI C b cell v) C2 ∧ PFr R R2 ∧
    ∃ s', S2 C2 R2 n s' ∧ (AL C2 R2 n s' → AL C R n s ∧ s < s' ∧ v' = v ∧ ∃ m, m < nn c ∧ v = nI m) := by
  obtain ⟨C1, v, v', R1, a1, a2, a3, a4, a5⟩ := p_told hF h hC hR hN hc
  have hF1 : RF (pI C1 b cell v) R1 jr := (hF.congr a3.1 a4.1).congr rfl rfl
  rcases a5 with ⟨A, e1, e2, ty, ev, m, hm, hv⟩ | ⟨D, e0⟩
  · rw [e1, e2] at hF1
    obtain ⟨C2, R2, b1, b2, b3, b4, s2, b5, b6⟩ := op_adv hF1 (Or.inl (A.put (a := b) hb cell v)) (P := True) (fun _ => ⟨Or.inl (by rw [gI_pIa (by omega)]; exact ty), trivial⟩)
    refine ⟨C1, v, v', C2, R2, a1, by rw [e1]; exact hF1.1, by rw [e1]; exact b1, ?_, b3, b4, s2, b5, fun z => ⟨A, (b6 z).2.1, ev, m, hm, hv⟩⟩
    unfold f_X13_readKnown
    rw [a2, ob_s, e2, b2, ob_s]
  · obtain ⟨C2, b1, b2, b3⟩ := de_adv hF1 (D.put hb cell v)
    refine ⟨C1, v, v', C2, R1, a1, hF1.1, b1, ?_, (a3.cong b cell v).tr b2, a4, 0, Or.inr b3, fun z => (b3.no z).elim⟩
    unfold f_X13_readKnown
    rw [a2, ob_s, de_goes D, ob_s]
theorem pos_1 {v : Int32} (h : ¬ v < 1) : ¬ v ≤ 0 := fun z => h (Int32.lt_of_le_of_lt z (by decide))
/-- 'trial' -/
theorem line_trial {C R : MM} {jr sp n s : Nat} {nn : Nat → Nat} (hF : RF C R jr) (hA : AL C R n s) (hP : PI C R sp jr nn) (hN : NM C R jr nn (tot nn)) (hw : wsel R 0 = 3) : ∃ C' R', f_X2_readLine C 4 sp = some C' ∧ f_X13_readTrial R 118 = some R' ∧ LO C R C' R' sp jr n s := by
  have hj : 123 < jr := hF.2.2.2.2.2.2.2.2
  have hJ := hF.2.2.2.2.2.2.2.1
  obtain ⟨hs, hs2⟩ := hP.2.1
  have hw1 : wsel R 0 ≠ -1 := by rw [hw]; decide
  have hcn : gI C (sp + 8) 3 = nI (nn 3) := hP.cn.2.2.2.1
  have hdn : gI R jr 4 = nI (nn 3) := hP.dn.2.2.2.1
  have hm4 : nn 3 ≤ 5 := hP.nb.2.2.2.1
  unfold f_X2_readLine
  rw [hF.1, oc_x, hA.among (show 0 < 57 by decide), ob_s, hw, if_neg (show ¬ (3 : Int32) = -1 by decide)]
  rcases Nat.lt_or_ge (nn 3) 5 with hm | hm
  · obtain ⟨Ca, Ra, C2, R2, a1, a2, a3, a4, a5, a6, a7, hF2, q2, r2, nc2, nr2, s2, z2, f2⟩ := front (k := 3) hF hA hs hN (tot_lt hP.nb (k := 3) (by decide) hm) (by decide) hw1
    have ad : f_X0_add C sp 3 = some (nI (nn 3), pI C (sp + 8) 3 (nI (nn 3 + 1))) := add_s (k := 3) hP.1 hcn (by decide) hm
    have a6' : f_X2_tellName Ca 4 3 (nI (nn 3)) = some C2 := a6
    have a7' : f_X13_readFresh Ra 118 2 (nI (nn 3)) = some R2 := a7
    rw [ad, ob_s, if_neg (nI_m1 (by omega)), show gR (pI C (sp + 8) 3 (nI (nn 3 + 1))) 4 0 = some 2 from hF.1, oc_x, a1, ob_s, if_neg (show ¬ (7 : Int32) ≤ 3 by decide), a6', ob_s, if_neg (show ¬ (3 : Int32) = 0 by decide), if_neg (show ¬ (3 : Int32) = 1 by decide), if_neg (show ¬ (3 : Int32) = 2 by decide), if_pos rfl]
    have w2 : f_X0_trialAt C2 sp (nI (nn 3)) = some (some (sp + (29 + nn 3))) := trialAt_s (hP.1.congr q2.1) (n := nn 3 + 1) (by rw [q2.e _ _ (by omega), gI_pIs]) (by omega) (by omega)
    rw [w2, ob_s, oc_x]
    unfold f_X2_readTrial
    rw [oc_x]
    obtain ⟨C3, v3, R3, b3, c3, p3, p3', s3, z3, f3⟩ := p_need hF2 z2 (show 15 < 57 by decide) (by decide)
    have hF3 := (hF2).congr p3.1 p3'.1
    have hNk : AL C3 R3 n s3 → NM C3 R3 jr (up nn 3) (tot nn + 1) := fun z => by
      obtain ⟨g3, -, -⟩ := f3 z
      obtain ⟨-, hM⟩ := f2 g3
      exact (hM).go hj p3 p3'
    obtain ⟨K4, v4, v4', C4, R4, b4, h40, d4, c4, p4, p4', s4, z4, f4⟩ := p_known (c := 0) hF3 z3 (nc2.go p3) (nr2.go hj p3') hNk (by decide) (b := (sp + (29 + nn 3))) (by omega) 0
    have b4l : f_X2_toldName C3 4 0 = some (v4, K4) := b4
    have c4l : f_X13_readKnown R3 118 0 = some (v4', R4) := c4
    have hF4 := ((hF3.congr (C' := (pI C3 (sp + (29 + nn 3)) 0 v4)) rfl rfl)).congr p4.1 p4'.1
    obtain ⟨C5, v5, v5', R5, b5, c5, p5, p5', s5, z5, f5⟩ := p_part hF4 z4 (show 7 < 57 by decide) (by decide) (l := 1) (u := 99) (l' := 1) (u' := 99) (fun _ => ⟨rfl, rfl⟩)
    have hF5 := (hF4).congr p5.1 p5'.1
    obtain ⟨C6, v6, v6', R6, b6, c6, p6, p6', s6, z6, f6⟩ := p_part (hF5.congr (C' := (pI C5 (sp + (29 + nn 3)) 1 v5)) rfl rfl) (z5.put (by omega) 1 v5) (show 16 < 57 by decide) (by decide) (l := 1) (u := 200) (l' := 1) (u' := 200) (fun _ => ⟨rfl, rfl⟩)
    have hF6 := ((hF5.congr (C' := (pI C5 (sp + (29 + nn 3)) 1 v5)) rfl rfl)).congr p6.1 p6'.1
    obtain ⟨C7, v7, v7', R7, b7, c7, p7, p7', s7, z7, f7⟩ := p_part (hF6.congr (C' := (pI C6 (sp + (29 + nn 3)) 2 v6)) rfl rfl) (z6.put (by omega) 2 v6) (show 17 < 57 by decide) (by decide) (l := 1) (u := 999) (l' := 1) (u' := 999) (fun _ => ⟨rfl, rfl⟩)
    have hF7 := ((hF6.congr (C' := (pI C6 (sp + (29 + nn 3)) 2 v6)) rfl rfl)).congr p7.1 p7'.1
    obtain ⟨C8, v8, v8', R8, b8, c8, p8, p8', s8, z8, f8⟩ := p_part (hF7.congr (C' := (pI C7 (sp + (29 + nn 3)) 3 v7)) rfl rfl) (z7.put (by omega) 3 v7) (show 18 < 57 by decide) (by decide) (l := 1) (u := 999) (l' := 1) (u' := 999) (fun _ => ⟨rfl, rfl⟩)
    have hF8 := ((hF7.congr (C' := (pI C7 (sp + (29 + nn 3)) 3 v7)) rfl rfl)).congr p8.1 p8'.1
    rw [b3, ob_s, b4l, ob_s, h40, oc_x, d4, ob_s, b5, ob_s, b6, ob_s, b7, ob_s, b8, ob_s, ob_s]
    have hR : f_X13_readTrial R 118 = if gI R8 118 9 = 5 then some R8 else some (pI (pI (pI (pI (pI (pI R8 (jr + 14) (nn 3) v4') (jr + 15) (nn 3) v5') (jr + 16) (nn 3) v6') (jr + 17) (nn 3) v7') (jr + 18) (nn 3) v8') jr 4 (nI (nn 3 + 1))) := by
      unfold f_X13_readTrial
      have bg : f_X13_begins R 118 (nI (nn 3)) 5 = ob (f_X13_goesOn R 118) (fun z => some z) := begins_s (c := 5) hm (by decide)
      rw [hF.2.2.2.2.2.1, oc_x, hdn, bg, a2, ob_s, ob_s, a4, oc_x, a5 4, hdn, a7', ob_s]
      rw [c3, ob_s, c4l, ob_s, c5, ob_s, c6, ob_s, c7, ob_s, c8, ob_s]
      dsimp only
      by_cases e5 : gI R8 118 9 = 5
      · rw [if_pos e5, if_pos e5]
      · rw [if_neg e5, if_neg e5]
        have JL := hF8.2.2.2.2.2.2.2.1
        have x0 : gI R8 jr 4 = nI (nn 3) := (((p8'.e hj).tr ((p7'.e hj).tr ((p6'.e hj).tr ((p5'.e hj).tr ((p4'.e hj).tr ((p3'.e hj).tr (r2.e hj))))))) jr 4 (by omega) (by omega) (by omega)).trans hdn
        have y14 : ∀ (M : MM) (k : Nat) (v : Int32), gI (pI M (jr + 14) k v) jr 4 = gI M jr 4 := fun M k v => gI_pIa (by omega)
        have y15 : ∀ (M : MM) (k : Nat) (v : Int32), gI (pI M (jr + 15) k v) jr 4 = gI M jr 4 := fun M k v => gI_pIa (by omega)
        have y16 : ∀ (M : MM) (k : Nat) (v : Int32), gI (pI M (jr + 16) k v) jr 4 = gI M jr 4 := fun M k v => gI_pIa (by omega)
        have y17 : ∀ (M : MM) (k : Nat) (v : Int32), gI (pI M (jr + 17) k v) jr 4 = gI M jr 4 := fun M k v => gI_pIa (by omega)
        have y18 : ∀ (M : MM) (k : Nat) (v : Int32), gI (pI M (jr + 18) k v) jr 4 = gI M jr 4 := fun M k v => gI_pIa (by omega)
        simp only [gR_I, hF8.2.2.2.2.2.1, oc_x, JL.k22, JL.k23, JL.k24, JL.k25, JL.k26, x0, y14, y15, y16, y17, y18, ix_n (show nn 3 < 2147483648 by omega), chk_m hm (show 5 < 2147483648 by decide), nI_1]
    rw [hR]
    have kc : KC C (pI C8 (sp + (29 + nn 3)) 4 v8) sp := (((((((((((((KC.rf C sp).pI (a := sp + 8) (by omega) 3 (nI (nn 3 + 1))).tr (q2.k sp)).tr (p3.q.k sp)).pI (a := (sp + (29 + nn 3))) (by omega) 0 v4).tr (p4.q.k sp)).tr (p5.q.k sp)).pI (a := (sp + (29 + nn 3))) (by omega) 1 v5).tr (p6.q.k sp)).pI (a := (sp + (29 + nn 3))) (by omega) 2 v6).tr (p7.q.k sp)).pI (a := (sp + (29 + nn 3))) (by omega) 3 v7).tr (p8.q.k sp)).pI (a := (sp + (29 + nn 3))) (by omega) 4 v8
    have kr : KR R R8 jr := ((((((r2.k).tr (p3'.q jr).k).tr (p4'.q jr).k).tr (p5'.q jr).k).tr (p6'.q jr).k).tr (p7'.q jr).k).tr (p8'.q jr).k
    rcases z8 with z8 | z8
    · rw [if_neg z8.ne5]
      obtain ⟨g8, l8, i8, -⟩ := f8 z8
      obtain ⟨g7, l7, i7, -, i7p, -⟩ := f7 (z7.back (by omega) g8)
      obtain ⟨g6, l6, i6, -⟩ := f6 (z6.back (by omega) g7)
      obtain ⟨g5, l5, i5, -, i5p, -⟩ := f5 (z5.back (by omega) g6)
      obtain ⟨g4, l4, i4, m4, i4m, i4v⟩ := f4 g5
      obtain ⟨g3, l3, -⟩ := f3 g4
      obtain ⟨l2, hM⟩ := f2 g3
      have e8 := ((p8.e).tr (((p7.e).tr (((p6.e).tr (((p5.e).tr ((p4.e).tr (((p3.e).tr (q2.e)).pI (sp + (29 + nn 3)) 0 v4))).pI (sp + (29 + nn 3)) 1 v5)).pI (sp + (29 + nn 3)) 2 v6)).pI (sp + (29 + nn 3)) 3 v7)).pI (sp + (29 + nn 3)) 4 v8
      have ej : EJ R8 R jr := (p8'.e hj).tr ((p7'.e hj).tr ((p6'.e hj).tr ((p5'.e hj).tr ((p4'.e hj).tr ((p3'.e hj).tr (r2.e hj))))))
      refine ⟨_, _, rfl, rfl, kc, kr |>.pI (by omega) _ _ |>.pI (by omega) _ _ |>.pI (by omega) _ _ |>.pI (by omega) _ _ |>.pI (by omega) _ _ |>.pI (by omega) _ _, Or.inl ⟨s8, up nn 3, by omega, (z8.put (by omega) _ _) |>.putr (by omega) _ _ |>.putr (by omega) _ _ |>.putr (by omega) _ _ |>.putr (by omega) _ _ |>.putr (by omega) _ _ |>.putr (by omega) _ _, ?_, ?_⟩⟩
      · have ur : ∀ c, True → RD (pI (pI (pI (pI (pI (pI R8 (jr + 14) (nn 3) v4') (jr + 15) (nn 3) v5') (jr + 16) (nn 3) v6') (jr + 17) (nn 3) v7') (jr + 18) (nn 3) v8') jr 4 (nI (nn 3 + 1))) jr c (nn 3) = RD (pI (pI (pI (pI (pI (pI R8 (jr + 14) (nn 3) v4') (jr + 15) (nn 3) v5') (jr + 16) (nn 3) v6') (jr + 17) (nn 3) v7') (jr + 18) (nn 3) v8') jr 4 (nI (nn 3 + 1))) jr c (nn 3) := fun _ _ => rfl
        have u14 : RD (pI (pI (pI (pI (pI (pI R8 (jr + 14) (nn 3) v4') (jr + 15) (nn 3) v5') (jr + 16) (nn 3) v6') (jr + 17) (nn 3) v7') (jr + 18) (nn 3) v8') jr 4 (nI (nn 3 + 1))) jr 14 (nn 3) = v4' := by
          unfold RD
          rw [gI_pIa (by omega), gI_pIa (by omega), gI_pIa (by omega), gI_pIa (by omega), gI_pIa (by omega), gI_pIs]
        have u15 : RD (pI (pI (pI (pI (pI (pI R8 (jr + 14) (nn 3) v4') (jr + 15) (nn 3) v5') (jr + 16) (nn 3) v6') (jr + 17) (nn 3) v7') (jr + 18) (nn 3) v8') jr 4 (nI (nn 3 + 1))) jr 15 (nn 3) = v5' := by
          unfold RD
          rw [gI_pIa (by omega), gI_pIa (by omega), gI_pIa (by omega), gI_pIa (by omega), gI_pIs]
        have u16 : RD (pI (pI (pI (pI (pI (pI R8 (jr + 14) (nn 3) v4') (jr + 15) (nn 3) v5') (jr + 16) (nn 3) v6') (jr + 17) (nn 3) v7') (jr + 18) (nn 3) v8') jr 4 (nI (nn 3 + 1))) jr 16 (nn 3) = v6' := by
          unfold RD
          rw [gI_pIa (by omega), gI_pIa (by omega), gI_pIa (by omega), gI_pIs]
        have u17 : RD (pI (pI (pI (pI (pI (pI R8 (jr + 14) (nn 3) v4') (jr + 15) (nn 3) v5') (jr + 16) (nn 3) v6') (jr + 17) (nn 3) v7') (jr + 18) (nn 3) v8') jr 4 (nI (nn 3 + 1))) jr 17 (nn 3) = v7' := by
          unfold RD
          rw [gI_pIa (by omega), gI_pIa (by omega), gI_pIs]
        have u18 : RD (pI (pI (pI (pI (pI (pI R8 (jr + 14) (nn 3) v4') (jr + 15) (nn 3) v5') (jr + 16) (nn 3) v6') (jr + 17) (nn 3) v7') (jr + 18) (nn 3) v8') jr 4 (nI (nn 3 + 1))) jr 18 (nn 3) = v8' := by
          unfold RD
          rw [gI_pIa (by omega), gI_pIs]
        have w0 : gI (pI C8 (sp + (29 + nn 3)) 4 v8) (sp + (29 + nn 3)) 0 = v4 := (e8 _ _ (by omega)).trans (by rw [gI_pIk (by decide), gI_pIk (by decide), gI_pIk (by decide), gI_pIk (by decide), gI_pIs])
        have w1 : gI (pI C8 (sp + (29 + nn 3)) 4 v8) (sp + (29 + nn 3)) 1 = v5 := (e8 _ _ (by omega)).trans (by rw [gI_pIk (by decide), gI_pIk (by decide), gI_pIk (by decide), gI_pIs])
        have w2 : gI (pI C8 (sp + (29 + nn 3)) 4 v8) (sp + (29 + nn 3)) 2 = v6 := (e8 _ _ (by omega)).trans (by rw [gI_pIk (by decide), gI_pIk (by decide), gI_pIs])
        have w3 : gI (pI C8 (sp + (29 + nn 3)) 4 v8) (sp + (29 + nn 3)) 3 = v7 := (e8 _ _ (by omega)).trans (by rw [gI_pIk (by decide), gI_pIs])
        have w4 : gI (pI C8 (sp + (29 + nn 3)) 4 v8) (sp + (29 + nn 3)) 4 = v8 := (e8 _ _ (by omega)).trans (by rw [gI_pIs])
        refine hP.s3 hm kc.1 (fun a j h1 h2 h3 => (e8 a j (by omega)).trans (by rw [gI_pIa (by omega), gI_pIa (by omega), gI_pIa (by omega), gI_pIa (by omega), gI_pIa (by omega), gI_pIa (by omega)])) ((e8 _ _ (by omega)).trans (by rw [gI_pIa (by omega), gI_pIa (by omega), gI_pIa (by omega), gI_pIa (by omega), gI_pIa (by omega), gI_pIs]))
          (fun j h => (e8 _ _ (by omega)).trans (by rw [gI_pIa (by omega), gI_pIa (by omega), gI_pIa (by omega), gI_pIa (by omega), gI_pIa (by omega), gI_pIk h])) (fun j => (e8 _ _ (by omega)).trans (by rw [gI_pIa (by omega), gI_pIa (by omega), gI_pIa (by omega), gI_pIa (by omega), gI_pIa (by omega), gI_pIa (by omega)]))
          (fun c i h1 h2 h3 h4 h5 h6 h7 => by rw [gI_pIa (by omega), gI_pIn (by omega), gI_pIn (by omega), gI_pIn (by omega), gI_pIn (by omega), gI_pIn (by omega)]; exact ej _ _ (by omega) (by omega) (by omega)) (gI_pIs _ _ _ _)
          (fun j h1 h2 => by rw [gI_pIk h1, gI_pIa (by omega), gI_pIa (by omega), gI_pIa (by omega), gI_pIa (by omega), gI_pIa (by omega)]; exact ej _ _ (by omega) (by omega) (by omega)) ?_ ?_
        · unfold ET
          rw [u14, u15, u16, u17, u18, w0, w1, w2, w3, w4]
          exact ⟨i4.symm, i5, i6, i7, i8⟩
        · unfold VT
          rw [u14, u15, u17]
          exact ⟨⟨m4, i4m, i4.trans i4v⟩, by rw [← i5]; exact pos_1 i5p, by rw [← i7]; exact pos_1 i7p⟩
      · rw [tot_up (by decide)]
        exact (((((((((((((((((hM).go hj p3 p3').put (by omega) _ _).go hj p4 p4').go hj p5 p5').put (by omega) _ _).go hj p6 p6').put (by omega) _ _).go hj p7 p7').put (by omega) _ _).go hj p8 p8').put (by omega) _ _).putr (by omega) (by omega) _).putr (by omega) (by omega) _).putr (by omega) (by omega) _).putr (by omega) (by omega) _).putr (by omega) (by omega) _).putr (by omega) (by omega) _
    · rw [if_pos z8.1]
      exact ⟨_, _, rfl, rfl, kc, kr, Or.inr (z8.put (by omega) _ _)⟩
  · have hm2 : nn 3 = 5 := by omega
    obtain ⟨C1, R1, a1, a2, a3, a4, a5⟩ := p_fail hF (Or.inl hA) 5 (by decide)
    have hF1 := hF.congr a3.1 a4.1
    have ad : f_X0_add C sp 3 = some (-1, C) := add_n (k := 3) hP.1 hcn (by omega) (by decide) hm
    rw [ad, ob_s, if_pos rfl, if_pos (show (3 : Int32) < 7 by decide), a1, ob_s]
    exact ⟨C1, R1, rfl, trial_many hF.2.2.2.2.2.1 (by rw [hdn, hm2]; rfl) a2 a5.1 hF1.2.2.2.2.2.1 hF1.2.2.2.2.2.2.2.1 (hN.nr.go hj a4), a3.q.k sp, (a4.q jr).k, Or.inr a5⟩
