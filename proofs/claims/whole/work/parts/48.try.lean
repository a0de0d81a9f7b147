/-! THE LINES, on -/
/-- 'try' -/
theorem line_try {C R : MM} {jr sp n s : Nat} {nn : Nat → Nat} (hF : RF C R jr) (hA : AL C R n s) (hP : PI C R sp jr nn) (hN : NM C R jr nn (tot nn)) (hw : wsel R 0 = 6) : ∃ C' R', f_X2_readLine C 4 sp = some C' ∧ f_X13_readTry R 118 = some R' ∧ LO C R C' R' sp jr n s := by
  have hj : 123 < jr := hF.2.2.2.2.2.2.2.2
  have hJ := hF.2.2.2.2.2.2.2.1
  obtain ⟨hs, hs2⟩ := hP.2.1
  have hw1 : wsel R 0 ≠ -1 := by rw [hw]; decide
  have hcn : gI C (sp + 8) 6 = nI (nn 6) := hP.cn.2.2.2.2.2.2
  have hdn : gI R jr 7 = nI (nn 6) := hP.dn.2.2.2.2.2.2
  have hm4 : nn 6 ≤ 5 := hP.nb.2.2.2.2.2.2
  unfold f_X2_readLine
  rw [hF.1, oc_x, hA.among (show 0 < 57 by decide), ob_s, hw, if_neg (show ¬ (6 : Int32) = -1 by decide)]
  rcases Nat.lt_or_ge (nn 6) 5 with hm | hm
  · obtain ⟨Ca, Ra, C2, R2, a1, a2, a3, a4, a5, a6, a7, hF2, q2, r2, nc2, nr2, s2, z2, f2⟩ := front (k := 6) hF hA hs hN (tot_lt hP.nb (k := 6) (by decide) hm) (by decide) hw1
    have ad : f_X0_add C sp 6 = some (nI (nn 6), pI C (sp + 8) 6 (nI (nn 6 + 1))) := add_s (k := 6) hP.1 hcn (by decide) hm
    have a6' : f_X2_tellName Ca 4 6 (nI (nn 6)) = some C2 := a6
    have a7' : f_X13_readFresh Ra 118 2 (nI (nn 6)) = some R2 := a7
    rw [ad, ob_s, if_neg (nI_m1 (by omega)), show gR (pI C (sp + 8) 6 (nI (nn 6 + 1))) 4 0 = some 2 from hF.1, oc_x, a1, ob_s, if_neg (show ¬ (7 : Int32) ≤ 6 by decide), a6', ob_s, if_neg (show ¬ (6 : Int32) = 0 by decide), if_neg (show ¬ (6 : Int32) = 1 by decide), if_neg (show ¬ (6 : Int32) = 2 by decide), if_neg (show ¬ (6 : Int32) = 3 by decide), if_neg (show ¬ (6 : Int32) = 4 by decide), if_neg (show ¬ (6 : Int32) = 5 by decide), if_pos rfl]
    have w2 : f_X0_thingAt C2 sp (nI (nn 6)) = some (some (sp + (47 + nn 6))) := thingAt_s (hP.1.congr q2.1) (n := nn 6 + 1) (by rw [q2.e _ _ (by omega), gI_pIs]) (by omega) (by omega)
    rw [w2, ob_s, oc_x]
    unfold f_X2_readMeasures
    rw [oc_x]
    obtain ⟨C3, v3, v3', R3, b3, c3, p3, p3', s3, z3, f3⟩ := p_part hF2 z2 (show 7 < 57 by decide) (by decide) (l := 1) (u := 99) (l' := 1) (u' := 99) (fun _ => ⟨rfl, rfl⟩)
    have hF3 := (hF2).congr p3.1 p3'.1
    obtain ⟨C4, v4, v4', R4, b4, c4, p4, p4', s4, z4, f4⟩ := p_part (hF3.congr (C' := (pI C3 (sp + (47 + nn 6)) 0 v3)) rfl rfl) (z3.put (by omega) 0 v3) (show 8 < 57 by decide) (by decide) (l := 0) (u := 30) (l' := 0) (u' := 30) (fun _ => ⟨rfl, rfl⟩)
    have hF4 := ((hF3.congr (C' := (pI C3 (sp + (47 + nn 6)) 0 v3)) rfl rfl)).congr p4.1 p4'.1
    obtain ⟨C5, v5, v5', R5, b5, c5, p5, p5', s5, z5, f5⟩ := p_part (hF4.congr (C' := (pI C4 (sp + (47 + nn 6)) 1 v4)) rfl rfl) (z4.put (by omega) 1 v4) (show 9 < 57 by decide) (by decide) (l := 0) (u := 20) (l' := 0) (u' := 20) (fun _ => ⟨rfl, rfl⟩)
    have hF5 := ((hF4.congr (C' := (pI C4 (sp + (47 + nn 6)) 1 v4)) rfl rfl)).congr p5.1 p5'.1
    rw [b3, ob_s, b4, ob_s, b5, ob_s]
    have w5 : f_X0_thingAt (pI C5 (sp + (47 + nn 6)) 2 v5) sp (nI (nn 6)) = some (some (sp + (47 + nn 6))) := thingAt_s (hP.1.congr (((((((((KC.rf C sp).pI (a := sp + 8) (by omega) 6 (nI (nn 6 + 1))).tr (q2.k sp)).tr (p3.q.k sp)).pI (a := (sp + (47 + nn 6))) (by omega) 0 v3).tr (p4.q.k sp)).pI (a := (sp + (47 + nn 6))) (by omega) 1 v4).tr (p5.q.k sp)).pI (a := (sp + (47 + nn 6))) (by omega) 2 v5).1) (n := nn 6 + 1) (((((p5.e).tr (((p4.e).tr (((p3.e).tr (q2.e)).pI (sp + (47 + nn 6)) 0 v3)).pI (sp + (47 + nn 6)) 1 v4)).pI (sp + (47 + nn 6)) 2 v5) _ _ (by omega)).trans (by rw [gI_pIa (by omega), gI_pIa (by omega), gI_pIa (by omega), gI_pIs])) (by omega) (by omega)
    rw [ob_s, w5, ob_s, oc_x]
    unfold f_X2_readGround
    rw [oc_x]
    obtain ⟨C6, v6, v6', R6, b6, c6, p6, p6', s6, z6, f6⟩ := p_slope (hF5.congr (C' := (pI C5 (sp + (47 + nn 6)) 2 v5)) rfl rfl) (z5.put (by omega) 2 v5)
    have hF6 := ((hF5.congr (C' := (pI C5 (sp + (47 + nn 6)) 2 v5)) rfl rfl)).congr p6.1 p6'.1
    rw [b6, ob_s, ob_s]
    have hR : f_X13_readTry R 118 = if gI R6 118 9 = 5 then some R6 else some (pI (pI (pI (pI (pI R6 (jr + 24) (nn 6) v3') (jr + 25) (nn 6) v4') (jr + 26) (nn 6) v5') (jr + 27) (nn 6) v6') jr 7 (nI (nn 6 + 1))) := by
      unfold f_X13_readTry
      have bg : f_X13_begins R 118 (nI (nn 6)) 5 = ob (f_X13_goesOn R 118) (fun z => some z) := begins_s (c := 5) hm (by decide)
      rw [hF.2.2.2.2.2.1, oc_x, hdn, bg, a2, ob_s, ob_s, a4, oc_x, a5 7, hdn, a7', ob_s]
      rw [c3, ob_s, c4, ob_s, c5, ob_s, c6, ob_s]
      dsimp only
      by_cases e5 : gI R6 118 9 = 5
      · rw [if_pos e5, if_pos e5]
      · rw [if_neg e5, if_neg e5]
        have JL := hF6.2.2.2.2.2.2.2.1
        have x0 : gI R6 jr 7 = nI (nn 6) := (((p6'.e hj).tr ((p5'.e hj).tr ((p4'.e hj).tr ((p3'.e hj).tr (r2.e hj))))) jr 7 (by omega) (by omega) (by omega)).trans hdn
        have y24 : ∀ (M : MM) (k : Nat) (v : Int32), gI (pI M (jr + 24) k v) jr 7 = gI M jr 7 := fun M k v => gI_pIa (by omega)
        have y25 : ∀ (M : MM) (k : Nat) (v : Int32), gI (pI M (jr + 25) k v) jr 7 = gI M jr 7 := fun M k v => gI_pIa (by omega)
        have y26 : ∀ (M : MM) (k : Nat) (v : Int32), gI (pI M (jr + 26) k v) jr 7 = gI M jr 7 := fun M k v => gI_pIa (by omega)
        have y27 : ∀ (M : MM) (k : Nat) (v : Int32), gI (pI M (jr + 27) k v) jr 7 = gI M jr 7 := fun M k v => gI_pIa (by omega)
        simp only [gR_I, hF6.2.2.2.2.2.1, oc_x, JL.k40, JL.k41, JL.k42, JL.k43, x0, y24, y25, y26, y27, ix_n (show nn 6 < 2147483648 by omega), chk_m hm (show 5 < 2147483648 by decide), nI_1]
    rw [hR]
    have kc : KC C (pI C6 (sp + (47 + nn 6)) 7 v6) sp := ((((((((((KC.rf C sp).pI (a := sp + 8) (by omega) 6 (nI (nn 6 + 1))).tr (q2.k sp)).tr (p3.q.k sp)).pI (a := (sp + (47 + nn 6))) (by omega) 0 v3).tr (p4.q.k sp)).pI (a := (sp + (47 + nn 6))) (by omega) 1 v4).tr (p5.q.k sp)).pI (a := (sp + (47 + nn 6))) (by omega) 2 v5).tr (p6.q.k sp)).pI (a := (sp + (47 + nn 6))) (by omega) 7 v6
    have kr : KR R R6 jr := ((((r2.k).tr (p3'.q jr).k).tr (p4'.q jr).k).tr (p5'.q jr).k).tr (p6'.q jr).k
    rcases z6 with z6 | z6
    · rw [if_neg z6.ne5]
      obtain ⟨g6, l6, i6, -⟩ := f6 z6
      obtain ⟨g5, l5, i5, -⟩ := f5 (z5.back (by omega) g6)
      obtain ⟨g4, l4, i4, -⟩ := f4 (z4.back (by omega) g5)
      obtain ⟨g3, l3, i3, -⟩ := f3 (z3.back (by omega) g4)
      obtain ⟨l2, hM⟩ := f2 g3
      have e8 := ((p6.e).tr (((p5.e).tr (((p4.e).tr (((p3.e).tr (q2.e)).pI (sp + (47 + nn 6)) 0 v3)).pI (sp + (47 + nn 6)) 1 v4)).pI (sp + (47 + nn 6)) 2 v5)).pI (sp + (47 + nn 6)) 7 v6
      have ej : EJ R6 R jr := (p6'.e hj).tr ((p5'.e hj).tr ((p4'.e hj).tr ((p3'.e hj).tr (r2.e hj))))
      refine ⟨_, _, rfl, rfl, kc, kr |>.pI (by omega) _ _ |>.pI (by omega) _ _ |>.pI (by omega) _ _ |>.pI (by omega) _ _ |>.pI (by omega) _ _, Or.inl ⟨s6, up nn 6, by omega, (z6.put (by omega) _ _) |>.putr (by omega) _ _ |>.putr (by omega) _ _ |>.putr (by omega) _ _ |>.putr (by omega) _ _ |>.putr (by omega) _ _, ?_, ?_⟩⟩
      · have ur : ∀ c, True → RD (pI (pI (pI (pI (pI R6 (jr + 24) (nn 6) v3') (jr + 25) (nn 6) v4') (jr + 26) (nn 6) v5') (jr + 27) (nn 6) v6') jr 7 (nI (nn 6 + 1))) jr c (nn 6) = RD (pI (pI (pI (pI (pI R6 (jr + 24) (nn 6) v3') (jr + 25) (nn 6) v4') (jr + 26) (nn 6) v5') (jr + 27) (nn 6) v6') jr 7 (nI (nn 6 + 1))) jr c (nn 6) := fun _ _ => rfl
        have u24 : RD (pI (pI (pI (pI (pI R6 (jr + 24) (nn 6) v3') (jr + 25) (nn 6) v4') (jr + 26) (nn 6) v5') (jr + 27) (nn 6) v6') jr 7 (nI (nn 6 + 1))) jr 24 (nn 6) = v3' := by
          unfold RD
          rw [gI_pIa (by omega), gI_pIa (by omega), gI_pIa (by omega), gI_pIa (by omega), gI_pIs]
        have u25 : RD (pI (pI (pI (pI (pI R6 (jr + 24) (nn 6) v3') (jr + 25) (nn 6) v4') (jr + 26) (nn 6) v5') (jr + 27) (nn 6) v6') jr 7 (nI (nn 6 + 1))) jr 25 (nn 6) = v4' := by
          unfold RD
          rw [gI_pIa (by omega), gI_pIa (by omega), gI_pIa (by omega), gI_pIs]
        have u26 : RD (pI (pI (pI (pI (pI R6 (jr + 24) (nn 6) v3') (jr + 25) (nn 6) v4') (jr + 26) (nn 6) v5') (jr + 27) (nn 6) v6') jr 7 (nI (nn 6 + 1))) jr 26 (nn 6) = v5' := by
          unfold RD
          rw [gI_pIa (by omega), gI_pIa (by omega), gI_pIs]
        have u27 : RD (pI (pI (pI (pI (pI R6 (jr + 24) (nn 6) v3') (jr + 25) (nn 6) v4') (jr + 26) (nn 6) v5') (jr + 27) (nn 6) v6') jr 7 (nI (nn 6 + 1))) jr 27 (nn 6) = v6' := by
          unfold RD
          rw [gI_pIa (by omega), gI_pIs]
        have w0 : gI (pI C6 (sp + (47 + nn 6)) 7 v6) (sp + (47 + nn 6)) 0 = v3 := (e8 _ _ (by omega)).trans (by rw [gI_pIk (by decide), gI_pIk (by decide), gI_pIk (by decide), gI_pIs])
        have w1 : gI (pI C6 (sp + (47 + nn 6)) 7 v6) (sp + (47 + nn 6)) 1 = v4 := (e8 _ _ (by omega)).trans (by rw [gI_pIk (by decide), gI_pIk (by decide), gI_pIs])
        have w2 : gI (pI C6 (sp + (47 + nn 6)) 7 v6) (sp + (47 + nn 6)) 2 = v5 := (e8 _ _ (by omega)).trans (by rw [gI_pIk (by decide), gI_pIs])
        have w7 : gI (pI C6 (sp + (47 + nn 6)) 7 v6) (sp + (47 + nn 6)) 7 = v6 := (e8 _ _ (by omega)).trans (by rw [gI_pIs])
        refine hP.s6 hm kc.1 (fun a j h1 h2 h3 => (e8 a j (by omega)).trans (by rw [gI_pIa (by omega), gI_pIa (by omega), gI_pIa (by omega), gI_pIa (by omega), gI_pIa (by omega)])) ((e8 _ _ (by omega)).trans (by rw [gI_pIa (by omega), gI_pIa (by omega), gI_pIa (by omega), gI_pIa (by omega), gI_pIs]))
          (fun j h => (e8 _ _ (by omega)).trans (by rw [gI_pIa (by omega), gI_pIa (by omega), gI_pIa (by omega), gI_pIa (by omega), gI_pIk h])) (fun j => (e8 _ _ (by omega)).trans (by rw [gI_pIa (by omega), gI_pIa (by omega), gI_pIa (by omega), gI_pIa (by omega), gI_pIa (by omega)]))
          (fun c i h1 h2 h3 h4 h5 h6 => by rw [gI_pIa (by omega), gI_pIn (by omega), gI_pIn (by omega), gI_pIn (by omega), gI_pIn (by omega)]; exact ej _ _ (by omega) (by omega) (by omega)) (gI_pIs _ _ _ _)
          (fun j h1 h2 => by rw [gI_pIk h1, gI_pIa (by omega), gI_pIa (by omega), gI_pIa (by omega), gI_pIa (by omega)]; exact ej _ _ (by omega) (by omega) (by omega)) ?_
        · unfold EX
          rw [u24, u25, u26, u27, w0, w1, w2, w7]
          exact ⟨i3, i4, i5, i6⟩
      · rw [tot_up (by decide)]
        exact (((((((((((((hM).go hj p3 p3').put (by omega) _ _).go hj p4 p4').put (by omega) _ _).go hj p5 p5').put (by omega) _ _).go hj p6 p6').put (by omega) _ _).putr (by omega) (by omega) _).putr (by omega) (by omega) _).putr (by omega) (by omega) _).putr (by omega) (by omega) _).putr (by omega) (by omega) _
    · rw [if_pos z6.1]
      exact ⟨_, _, rfl, rfl, kc, kr, Or.inr (z6.put (by omega) _ _)⟩
  · have hm2 : nn 6 = 5 := by omega
    obtain ⟨C1, R1, a1, a2, a3, a4, a5⟩ := p_fail hF (Or.inl hA) 5 (by decide)
    have hF1 := hF.congr a3.1 a4.1
    have ad : f_X0_add C sp 6 = some (-1, C) := add_n (k := 6) hP.1 hcn (by omega) (by decide) hm
    rw [ad, ob_s, if_pos rfl, if_pos (show (6 : Int32) < 7 by decide), a1, ob_s]
    exact ⟨C1, R1, rfl, try_many hF.2.2.2.2.2.1 (by rw [hdn, hm2]; rfl) a2 a5.1 hF1.2.2.2.2.2.1 hF1.2.2.2.2.2.2.2.1 (hN.nr.go hj a4), a3.q.k sp, (a4.q jr).k, Or.inr a5⟩
