/-! THE LINES, on: 'story' -/
theorem kindS {β : Type} {R : MM} (J : Int32 → Option β) : ob (f_X13_isWord R 118 46) (fun z => if z = 0 then (ob (f_X13_isWord R 118 47) (fun z => if z = 0 then (ob (f_X13_isWord R 118 48) (fun z => if z = 0 then (ob (f_X13_isWord R 118 49) (fun z => if z = 0 then (ob (f_X13_isWord R 118 50) (fun z => if z = 0 then (ob (f_X13_isWord R 118 10) (fun z => if z = 0 then (J (-1)) else (J 5))) else (J 4))) else (J 3))) else (J 2))) else (J 1))) else (J 0)) = J (wsel R 11) := by
  simp only [isWord_r R (show 46 < 57 by decide), isWord_r R (show 47 < 57 by decide), isWord_r R (show 48 < 57 by decide), isWord_r R (show 49 < 57 by decide), isWord_r R (show 50 < 57 by decide), isWord_r R (show 10 < 57 by decide), ob_s]
  unfold wsel
  rw [W11]
  by_cases q : gI R 118 9 = 2
  · simp only [if_pos q, b01, idx]
    by_cases e0 : cd 46 = gL R 118 15
    · simp only [if_pos e0]
    by_cases e1 : cd 47 = gL R 118 15
    · simp only [if_neg e0, if_pos e1]; rfl
    by_cases e2 : cd 48 = gL R 118 15
    · simp only [if_neg e0, if_neg e1, if_pos e2]; rfl
    by_cases e3 : cd 49 = gL R 118 15
    · simp only [if_neg e0, if_neg e1, if_neg e2, if_pos e3]; rfl
    by_cases e4 : cd 50 = gL R 118 15
    · simp only [if_neg e0, if_neg e1, if_neg e2, if_neg e3, if_pos e4]; rfl
    by_cases e5 : cd 10 = gL R 118 15
    · simp only [if_neg e0, if_neg e1, if_neg e2, if_neg e3, if_neg e4, if_pos e5]; rfl
    simp only [if_neg e0, if_neg e1, if_neg e2, if_neg e3, if_neg e4, if_neg e5]
  · simp only [if_neg q]; rfl
theorem kindS_s {R : MM} (h : wsel R 11 ≠ -1) : ∃ k, k < 6 ∧ wsel R 11 = nI k := by
  unfold wsel at *
  rw [W11] at *
  by_cases q : gI R 118 9 = 2
  · simp only [if_pos q, idx] at h ⊢
    by_cases e0 : cd 46 = gL R 118 15
    · exact ⟨0, by decide, by simp only [if_pos e0]; rfl⟩
    by_cases e1 : cd 47 = gL R 118 15
    · exact ⟨1, by decide, by simp only [if_neg e0, if_pos e1]; rfl⟩
    by_cases e2 : cd 48 = gL R 118 15
    · exact ⟨2, by decide, by simp only [if_neg e0, if_neg e1, if_pos e2]; rfl⟩
    by_cases e3 : cd 49 = gL R 118 15
    · exact ⟨3, by decide, by simp only [if_neg e0, if_neg e1, if_neg e2, if_pos e3]; rfl⟩
    by_cases e4 : cd 50 = gL R 118 15
    · exact ⟨4, by decide, by simp only [if_neg e0, if_neg e1, if_neg e2, if_neg e3, if_pos e4]; rfl⟩
    by_cases e5 : cd 10 = gL R 118 15
    · exact ⟨5, by decide, by simp only [if_neg e0, if_neg e1, if_neg e2, if_neg e3, if_neg e4, if_pos e5]; rfl⟩
    simp only [if_neg e0, if_neg e1, if_neg e2, if_neg e3, if_neg e4, if_neg e5] at h
    exact absurd rfl h
  · simp only [if_neg q] at h
    exact absurd rfl h
theorem kindL {β : Type} {R : MM} (J : Int32 → Option β) : ob (f_X13_isWord R 118 51) (fun z => if z = 0 then (ob (f_X13_isWord R 118 52) (fun z => if z = 0 then (ob (f_X13_isWord R 118 53) (fun z => if z = 0 then (J (-1)) else (J 2))) else (J 1))) else (J 0)) = J (wsel R 12) := by
  simp only [isWord_r R (show 51 < 57 by decide), isWord_r R (show 52 < 57 by decide), isWord_r R (show 53 < 57 by decide), ob_s]
  unfold wsel
  rw [W12]
  by_cases q : gI R 118 9 = 2
  · simp only [if_pos q, b01, idx]
    by_cases e0 : cd 51 = gL R 118 15
    · simp only [if_pos e0]
    by_cases e1 : cd 52 = gL R 118 15
    · simp only [if_neg e0, if_pos e1]; rfl
    by_cases e2 : cd 53 = gL R 118 15
    · simp only [if_neg e0, if_neg e1, if_pos e2]; rfl
    simp only [if_neg e0, if_neg e1, if_neg e2]
  · simp only [if_neg q]; rfl
theorem kindL_s {R : MM} (h : wsel R 12 ≠ -1) : ∃ k, k < 3 ∧ wsel R 12 = nI k := by
  unfold wsel at *
  rw [W12] at *
  by_cases q : gI R 118 9 = 2
  · simp only [if_pos q, idx] at h ⊢
    by_cases e0 : cd 51 = gL R 118 15
    · exact ⟨0, by decide, by simp only [if_pos e0]; rfl⟩
    by_cases e1 : cd 52 = gL R 118 15
    · exact ⟨1, by decide, by simp only [if_neg e0, if_pos e1]; rfl⟩
    by_cases e2 : cd 53 = gL R 118 15
    · exact ⟨2, by decide, by simp only [if_neg e0, if_neg e1, if_pos e2]; rfl⟩
    simp only [if_neg e0, if_neg e1, if_neg e2] at h
    exact absurd rfl h
  · simp only [if_neg q] at h
    exact absurd rfl h
theorem kindC {β : Type} {R : MM} (J : Int32 → Option β) : ob (f_X13_isWord R 118 54) (fun z => if z = 0 then (ob (f_X13_isWord R 118 55) (fun z => if z = 0 then (ob (f_X13_isWord R 118 56) (fun z => if z = 0 then (J (-1)) else (J 2))) else (J 1))) else (J 0)) = J (wsel R 19) := by
  simp only [isWord_r R (show 54 < 57 by decide), isWord_r R (show 55 < 57 by decide), isWord_r R (show 56 < 57 by decide), ob_s]
  unfold wsel
  rw [W19]
  by_cases q : gI R 118 9 = 2
  · simp only [if_pos q, b01, idx]
    by_cases e0 : cd 54 = gL R 118 15
    · simp only [if_pos e0]
    by_cases e1 : cd 55 = gL R 118 15
    · simp only [if_neg e0, if_pos e1]; rfl
    by_cases e2 : cd 56 = gL R 118 15
    · simp only [if_neg e0, if_neg e1, if_pos e2]; rfl
    simp only [if_neg e0, if_neg e1, if_neg e2]
  · simp only [if_neg q]; rfl
theorem kindC_s {R : MM} (h : wsel R 19 ≠ -1) : ∃ k, k < 3 ∧ wsel R 19 = nI k := by
  unfold wsel at *
  rw [W19] at *
  by_cases q : gI R 118 9 = 2
  · simp only [if_pos q, idx] at h ⊢
    by_cases e0 : cd 54 = gL R 118 15
    · exact ⟨0, by decide, by simp only [if_pos e0]; rfl⟩
    by_cases e1 : cd 55 = gL R 118 15
    · exact ⟨1, by decide, by simp only [if_neg e0, if_pos e1]; rfl⟩
    by_cases e2 : cd 56 = gL R 118 15
    · exact ⟨2, by decide, by simp only [if_neg e0, if_neg e1, if_pos e2]; rfl⟩
    simp only [if_neg e0, if_neg e1, if_neg e2] at h
    exact absurd rfl h
  · simp only [if_neg q] at h
    exact absurd rfl h
theorem ite_ob3 {α β γ : Type} {p : Prop} [Decidable p] (f : γ → Option α) (x y : γ) (K : α → Option β) : (if p then ob (f x) K else ob (f y) K) = ob (f (if p then x else y)) K := by
  by_cases h : p
  · rw [if_pos h, if_pos h]
  · rw [if_neg h, if_neg h]
/-- 'story' -/
theorem line_story {C R : MM} {jr sp n s : Nat} {nn : Nat → Nat} (hF : RF C R jr) (hA : AL C R n s) (hP : PI C R sp jr nn) (hN : NM C R jr nn (tot nn)) (hw : wsel R 0 = 4) : ∃ C' R', f_X2_readLine C 4 sp = some C' ∧ f_X13_readStory R 118 = some R' ∧ LO C R C' R' sp jr n s := by
  have hj : 123 < jr := hF.2.2.2.2.2.2.2.2
  have hJ := hF.2.2.2.2.2.2.2.1
  obtain ⟨hs, hs2⟩ := hP.2.1
  have hw1 : wsel R 0 ≠ -1 := by rw [hw]; decide
  have hcn : gI C (sp + 8) 4 = nI (nn 4) := hP.cn.2.2.2.2.1
  have hdn : gI R jr 5 = nI (nn 4) := hP.dn.2.2.2.2.1
  have hm4 : nn 4 ≤ 5 := hP.nb.2.2.2.2.1
  unfold f_X2_readLine
  rw [hF.1, oc_x, hA.among (show 0 < 57 by decide), ob_s, hw, if_neg (show ¬ (4 : Int32) = -1 by decide)]
  rcases Nat.lt_or_ge (nn 4) 5 with hm | hm
  · obtain ⟨Ca, Ra, C2, R2, a1, a2, a3, a4, a5, a6, a7, hF2, q2, r2, nc2, nr2, s2, z2, f2⟩ := front (k := 4) hF hA hs hN (tot_lt hP.nb (k := 4) (by decide) hm) (by decide) hw1
    have ad : f_X0_add C sp 4 = some (nI (nn 4), pI C (sp + 8) 4 (nI (nn 4 + 1))) := add_s (k := 4) hP.1 hcn (by decide) hm
    have a6' : f_X2_tellName Ca 4 4 (nI (nn 4)) = some C2 := a6
    have a7' : f_X13_readFresh Ra 118 2 (nI (nn 4)) = some R2 := a7
    rw [ad, ob_s, if_neg (nI_m1 (by omega)), show gR (pI C (sp + 8) 4 (nI (nn 4 + 1))) 4 0 = some 2 from hF.1, oc_x, a1, ob_s, if_neg (show ¬ (7 : Int32) ≤ 4 by decide), a6', ob_s, if_neg (show ¬ (4 : Int32) = 0 by decide), if_neg (show ¬ (4 : Int32) = 1 by decide), if_neg (show ¬ (4 : Int32) = 2 by decide), if_neg (show ¬ (4 : Int32) = 3 by decide), if_pos rfl]
    have w2 : f_X0_storyAt C2 sp (nI (nn 4)) = some (some (sp + (34 + 2 * nn 4))) := storyAt_s (hP.1.congr q2.1) (n := nn 4 + 1) (by rw [q2.e _ _ (by omega), gI_pIs]) (by omega) (by omega)
    rw [w2, ob_s, oc_x]
    unfold f_X2_readStory
    rw [oc_x]
    obtain ⟨C3, v3, v3', R3, b3, c3, p3, p3', s3, z3, f3⟩ := p_part hF2 z2 (show 2 < 57 by decide) (by decide) (l := 1) (u := 99) (l' := 1) (u' := 99) (fun _ => ⟨rfl, rfl⟩)
    have hF3 := (hF2).congr p3.1 p3'.1
    obtain ⟨C4, v4, T4, R4, b4, c4a, c4b, p4, p4', s4, z4, f4⟩ := p_choice (hF3.congr (C' := (pI C3 (sp + (34 + 2 * nn 4)) 0 v3)) rfl rfl) (z3.put (by omega) 0 v3) (show 19 < 57 by decide)
    have hF4 := ((hF3.congr (C' := (pI C3 (sp + (34 + 2 * nn 4)) 0 v3)) rfl rfl)).congr p4.1 p4'.1
    rw [b3, ob_s, b4, ob_s, gI_pIs, ite_ob3 (fun u => f_X2_whole (pI (v4, C4).2 (sp + (34 + 2 * nn 4)) 1 (v4, C4).1) 4 0 u)]
    obtain ⟨C5, v5, v5', R5, b5, c5, p5, p5', s5, z5, f5⟩ := p_whole (hF4.congr (C' := (pI C4 (sp + (34 + 2 * nn 4)) 1 v4)) rfl rfl) (z4.put (by omega) 1 v4) (l := 0) (u := if v4 = 0 then 99 else 100) (l' := 0) (u' := if wsel R3 19 = 0 then 99 else 100) (fun z => ⟨rfl, by rw [(f4 (z4.back (by omega) z)).2.2.1]⟩)
    have hF5 := ((hF4.congr (C' := (pI C4 (sp + (34 + 2 * nn 4)) 1 v4)) rfl rfl)).congr p5.1 p5'.1
    have b5' : f_X2_whole (pI (v4, C4).2 (sp + (34 + 2 * nn 4)) 1 (v4, C4).1) 4 0 (if v4 = 0 then 99 else 100) = some (v5, C5) := b5
    rw [b5', ob_s]
    dsimp only
    have e5 := ((p5.e).tr (((p4.e).tr (((p3.e).tr (q2.e)).pI (sp + (34 + 2 * nn 4)) 0 v3)).pI (sp + (34 + 2 * nn 4)) 1 v4)).pI (sp + (34 + 2 * nn 4)) 2 v5
    rw [show gI (pI C5 (sp + (34 + 2 * nn 4)) 2 v5) (sp + (34 + 2 * nn 4)) 1 = v4 from (e5 _ _ (by omega)).trans (by rw [gI_pIk (by decide), gI_pIs])]
    have hR0 : f_X13_readStory R 118 = if wsel R3 19 = 2 then (ob (f_X13_readPart R5 118 20 1 50) (fun z25 => f_X13_readStory_J128 z25.2 118 v3' (wsel R3 19) v5' z25.1)) else (f_X13_readStory_J128 R5 118 v3' (wsel R3 19) v5' 1) := by
      unfold f_X13_readStory
      have bg : f_X13_begins R 118 (nI (nn 4)) 5 = ob (f_X13_goesOn R 118) (fun z => some z) := begins_s (c := 5) hm (by decide)
      rw [hF.2.2.2.2.2.1, oc_x, hdn, bg, a2, ob_s, ob_s, a4, oc_x, a5 5, hdn, a7', ob_s, c3, ob_s]
      refine (kindC (R := R3) (fun x => f_X13_readStory_J77 R3 118 v3' x)).trans ?_
      show f_X13_readStory_J77 R3 118 v3' (wsel R3 19) = _
      unfold f_X13_readStory_J77
      rw [ite_ob, c4a, ob_s]
      unfold f_X13_readStory_J88
      rw [c4b, ob_s]
      unfold f_X13_readStory_J105
      rw [ite_ob3 (fun u => f_X13_readWhole R4 118 0 u), c5, ob_s]
    rw [hR0]
    have kc : KC C (pI C5 (sp + (34 + 2 * nn 4)) 2 v5) sp := ((((((((KC.rf C sp).pI (a := sp + 8) (by omega) 4 (nI (nn 4 + 1))).tr (q2.k sp)).tr (p3.q.k sp)).pI (a := (sp + (34 + 2 * nn 4))) (by omega) 0 v3).tr (p4.q.k sp)).pI (a := (sp + (34 + 2 * nn 4))) (by omega) 1 v4).tr (p5.q.k sp)).pI (a := (sp + (34 + 2 * nn 4))) (by omega) 2 v5
    have kr : KR R R5 jr := (((r2.k).tr (p3'.q jr).k).tr (p4'.q jr).k).tr (p5'.q jr).k
    have J5 : ∀ (X : MM) e, gI X 118 9 = 5 → f_X13_readStory_J128 X 118 v3' (wsel R3 19) v5' e = some X := fun X e h => by
      unfold f_X13_readStory_J128
      rw [if_pos h]
    rcases z5 with z5 | z5
    · obtain ⟨g5, l5, i5, -⟩ := f5 z5
      obtain ⟨g4, l4, i4, i4n⟩ := f4 (z4.back (by omega) g5)
      obtain ⟨g3, l3, i3, -⟩ := f3 (z3.back (by omega) g4)
      have hJ128 : ∀ (X : MM) (e : Int32), ¬ gI X 118 9 = 5 → RF C X jr → gI X jr 5 = nI (nn 4) → f_X13_readStory_J128 X 118 v3' (wsel R3 19) v5' e = some (pI (pI (pI (pI (pI X (jr + 19) (nn 4) v3') (jr + 20) (nn 4) (wsel R3 19)) (jr + 21) (nn 4) v5') (jr + 22) (nn 4) e) jr 5 (nI (nn 4 + 1))) := by
        intro X e h5 hX x0
        unfold f_X13_readStory_J128
        rw [if_neg h5]
        have JL := hX.2.2.2.2.2.2.2.1
        have y19 : ∀ (M : MM) (k : Nat) (v : Int32), gI (pI M (jr + 19) k v) jr 5 = gI M jr 5 := fun M k v => gI_pIa (by omega)
        have y20 : ∀ (M : MM) (k : Nat) (v : Int32), gI (pI M (jr + 20) k v) jr 5 = gI M jr 5 := fun M k v => gI_pIa (by omega)
        have y21 : ∀ (M : MM) (k : Nat) (v : Int32), gI (pI M (jr + 21) k v) jr 5 = gI M jr 5 := fun M k v => gI_pIa (by omega)
        have y22 : ∀ (M : MM) (k : Nat) (v : Int32), gI (pI M (jr + 22) k v) jr 5 = gI M jr 5 := fun M k v => gI_pIa (by omega)
        simp only [gR_I, hX.2.2.2.2.2.1, oc_x, JL.k35, JL.k36, JL.k37, JL.k38, x0, y19, y20, y21, y22, ix_n (show nn 4 < 2147483648 by omega), chk_m hm (show 5 < 2147483648 by decide), nI_1]
      have ej5 : EJ R5 R jr := (p5'.e hj).tr ((p4'.e hj).tr ((p3'.e hj).tr (r2.e hj)))
      by_cases qv : v4 = 2
      · rw [if_pos qv, if_pos (i4.symm.trans qv)]
        obtain ⟨C6, v6, v6', R6, b6, c6, p6, p6', s6, z6, f6⟩ := p_part (hF5.congr (C' := (pI C5 (sp + (34 + 2 * nn 4)) 2 v5)) rfl rfl) (S2.put (n := n) (s := s5) (Or.inl z5) (by omega) 2 v5) (show 20 < 57 by decide) (by decide) (l := 1) (u := 50) (l' := 1) (u' := 50) (fun _ => ⟨rfl, rfl⟩)
        have hF6 := ((hF5.congr (C' := (pI C5 (sp + (34 + 2 * nn 4)) 2 v5)) rfl rfl)).congr p6.1 p6'.1
        rw [b6, ob_s, ob_s, c6, ob_s]
        dsimp only
        have kc6 : KC C (pI C6 (sp + (34 + 2 * nn 4)) 3 v6) sp := ((((((((((KC.rf C sp).pI (a := sp + 8) (by omega) 4 (nI (nn 4 + 1))).tr (q2.k sp)).tr (p3.q.k sp)).pI (a := (sp + (34 + 2 * nn 4))) (by omega) 0 v3).tr (p4.q.k sp)).pI (a := (sp + (34 + 2 * nn 4))) (by omega) 1 v4).tr (p5.q.k sp)).pI (a := (sp + (34 + 2 * nn 4))) (by omega) 2 v5).tr (p6.q.k sp)).pI (a := (sp + (34 + 2 * nn 4))) (by omega) 3 v6
        have kr6 : KR R R6 jr := ((((r2.k).tr (p3'.q jr).k).tr (p4'.q jr).k).tr (p5'.q jr).k).tr (p6'.q jr).k
        rcases z6 with z6 | z6
        · obtain ⟨g6, l6, i6, -, i6p, -⟩ := f6 z6
          rw [hJ128 R6 _ z6.ne5 ⟨hF.1, hF.2.1, hF.2.2.1, hF.2.2.2.1, hF.2.2.2.2.1, hF6.2.2.2.2.2⟩ ((((p6'.e hj).tr ((p5'.e hj).tr ((p4'.e hj).tr ((p3'.e hj).tr (r2.e hj))))) jr 5 (by omega) (by omega) (by omega)).trans hdn)]
          have kc := kc6
          have kr := kr6
          obtain ⟨l2, hM⟩ := f2 g3
          have e8 := ((p6.e).tr (((p5.e).tr (((p4.e).tr (((p3.e).tr (q2.e)).pI (sp + (34 + 2 * nn 4)) 0 v3)).pI (sp + (34 + 2 * nn 4)) 1 v4)).pI (sp + (34 + 2 * nn 4)) 2 v5)).pI (sp + (34 + 2 * nn 4)) 3 v6
          have ej : EJ R6 R jr := (p6'.e hj).tr ((p5'.e hj).tr ((p4'.e hj).tr ((p3'.e hj).tr (r2.e hj))))
          refine ⟨_, _, rfl, rfl, kc, kr |>.pI (by omega) _ _ |>.pI (by omega) _ _ |>.pI (by omega) _ _ |>.pI (by omega) _ _ |>.pI (by omega) _ _, Or.inl ⟨s6, up nn 4, by omega, (z6.put (by omega) _ _) |>.putr (by omega) _ _ |>.putr (by omega) _ _ |>.putr (by omega) _ _ |>.putr (by omega) _ _ |>.putr (by omega) _ _, ?_, ?_⟩⟩
          · have ur : ∀ c, True → RD (pI (pI (pI (pI (pI R6 (jr + 19) (nn 4) v3') (jr + 20) (nn 4) (wsel R3 19)) (jr + 21) (nn 4) v5') (jr + 22) (nn 4) v6') jr 5 (nI (nn 4 + 1))) jr c (nn 4) = RD (pI (pI (pI (pI (pI R6 (jr + 19) (nn 4) v3') (jr + 20) (nn 4) (wsel R3 19)) (jr + 21) (nn 4) v5') (jr + 22) (nn 4) v6') jr 5 (nI (nn 4 + 1))) jr c (nn 4) := fun _ _ => rfl
            have u19 : RD (pI (pI (pI (pI (pI R6 (jr + 19) (nn 4) v3') (jr + 20) (nn 4) (wsel R3 19)) (jr + 21) (nn 4) v5') (jr + 22) (nn 4) v6') jr 5 (nI (nn 4 + 1))) jr 19 (nn 4) = v3' := by
              unfold RD
              rw [gI_pIa (by omega), gI_pIa (by omega), gI_pIa (by omega), gI_pIa (by omega), gI_pIs]
            have u20 : RD (pI (pI (pI (pI (pI R6 (jr + 19) (nn 4) v3') (jr + 20) (nn 4) (wsel R3 19)) (jr + 21) (nn 4) v5') (jr + 22) (nn 4) v6') jr 5 (nI (nn 4 + 1))) jr 20 (nn 4) = (wsel R3 19) := by
              unfold RD
              rw [gI_pIa (by omega), gI_pIa (by omega), gI_pIa (by omega), gI_pIs]
            have u21 : RD (pI (pI (pI (pI (pI R6 (jr + 19) (nn 4) v3') (jr + 20) (nn 4) (wsel R3 19)) (jr + 21) (nn 4) v5') (jr + 22) (nn 4) v6') jr 5 (nI (nn 4 + 1))) jr 21 (nn 4) = v5' := by
              unfold RD
              rw [gI_pIa (by omega), gI_pIa (by omega), gI_pIs]
            have u22 : RD (pI (pI (pI (pI (pI R6 (jr + 19) (nn 4) v3') (jr + 20) (nn 4) (wsel R3 19)) (jr + 21) (nn 4) v5') (jr + 22) (nn 4) v6') jr 5 (nI (nn 4 + 1))) jr 22 (nn 4) = v6' := by
              unfold RD
              rw [gI_pIa (by omega), gI_pIs]
            have w0 : gI (pI C6 (sp + (34 + 2 * nn 4)) 3 v6) (sp + (34 + 2 * nn 4)) 0 = v3 := (e8 _ _ (by omega)).trans (by rw [gI_pIk (by decide), gI_pIk (by decide), gI_pIk (by decide), gI_pIs])
            have w1 : gI (pI C6 (sp + (34 + 2 * nn 4)) 3 v6) (sp + (34 + 2 * nn 4)) 1 = v4 := (e8 _ _ (by omega)).trans (by rw [gI_pIk (by decide), gI_pIk (by decide), gI_pIs])
            have w2 : gI (pI C6 (sp + (34 + 2 * nn 4)) 3 v6) (sp + (34 + 2 * nn 4)) 2 = v5 := (e8 _ _ (by omega)).trans (by rw [gI_pIk (by decide), gI_pIs])
            have w3 : gI (pI C6 (sp + (34 + 2 * nn 4)) 3 v6) (sp + (34 + 2 * nn 4)) 3 = v6 := (e8 _ _ (by omega)).trans (by rw [gI_pIs])
            refine hP.s4 hm kc.1 (fun a j h1 h2 h3 => (e8 a j (by omega)).trans (by rw [gI_pIa (by omega), gI_pIa (by omega), gI_pIa (by omega), gI_pIa (by omega), gI_pIa (by omega)])) ((e8 _ _ (by omega)).trans (by rw [gI_pIa (by omega), gI_pIa (by omega), gI_pIa (by omega), gI_pIa (by omega), gI_pIs]))
              (fun j h => (e8 _ _ (by omega)).trans (by rw [gI_pIa (by omega), gI_pIa (by omega), gI_pIa (by omega), gI_pIa (by omega), gI_pIk h])) (fun j => (e8 _ _ (by omega)).trans (by rw [gI_pIa (by omega), gI_pIa (by omega), gI_pIa (by omega), gI_pIa (by omega), gI_pIa (by omega)]))
              (fun c i h1 h2 h3 h4 h5 h6 => by rw [gI_pIa (by omega), gI_pIn (by omega), gI_pIn (by omega), gI_pIn (by omega), gI_pIn (by omega)]; exact ej _ _ (by omega) (by omega) (by omega)) (gI_pIs _ _ _ _)
              (fun j h1 h2 => by rw [gI_pIk h1, gI_pIa (by omega), gI_pIa (by omega), gI_pIa (by omega), gI_pIa (by omega)]; exact ej _ _ (by omega) (by omega) (by omega)) ?_ ?_
            · unfold EY
              rw [u19, u20, u21, u22, w0, w1, w2]
              exact ⟨i3, i4, i5, fun _ => w3.trans i6⟩
            · unfold VY
              rw [u20, u22]
              exact ⟨kindC_s i4n, fun _ => by rw [← i6]; exact pos_1 i6p⟩
          · rw [tot_up (by decide)]
            exact (((((((((((((hM).go hj p3 p3').put (by omega) _ _).go hj p4 p4').put (by omega) _ _).go hj p5 p5').put (by omega) _ _).go hj p6 p6').put (by omega) _ _).putr (by omega) (by omega) _).putr (by omega) (by omega) _).putr (by omega) (by omega) _).putr (by omega) (by omega) _).putr (by omega) (by omega) _
        · rw [J5 _ _ z6.1]
          exact ⟨_, _, rfl, rfl, kc6, kr6, Or.inr (z6.put (by omega) _ _)⟩
      · rw [if_neg qv, if_neg (fun z => qv (i4.trans z))]
        rw [hJ128 R5 _ z5.ne5 ⟨hF.1, hF.2.1, hF.2.2.1, hF.2.2.2.1, hF.2.2.2.2.1, hF5.2.2.2.2.2⟩ ((ej5 jr 5 (by omega) (by omega) (by omega)).trans hdn)]
        obtain ⟨l2, hM⟩ := f2 g3
        have e8 := ((p5.e).tr (((p4.e).tr (((p3.e).tr (q2.e)).pI (sp + (34 + 2 * nn 4)) 0 v3)).pI (sp + (34 + 2 * nn 4)) 1 v4)).pI (sp + (34 + 2 * nn 4)) 2 v5
        have ej : EJ R5 R jr := (p5'.e hj).tr ((p4'.e hj).tr ((p3'.e hj).tr (r2.e hj)))
        refine ⟨_, _, rfl, rfl, kc, kr |>.pI (by omega) _ _ |>.pI (by omega) _ _ |>.pI (by omega) _ _ |>.pI (by omega) _ _ |>.pI (by omega) _ _, Or.inl ⟨s5, up nn 4, by omega, (z5.put (by omega) _ _) |>.putr (by omega) _ _ |>.putr (by omega) _ _ |>.putr (by omega) _ _ |>.putr (by omega) _ _ |>.putr (by omega) _ _, ?_, ?_⟩⟩
        · have ur : ∀ c, True → RD (pI (pI (pI (pI (pI R5 (jr + 19) (nn 4) v3') (jr + 20) (nn 4) (wsel R3 19)) (jr + 21) (nn 4) v5') (jr + 22) (nn 4) 1) jr 5 (nI (nn 4 + 1))) jr c (nn 4) = RD (pI (pI (pI (pI (pI R5 (jr + 19) (nn 4) v3') (jr + 20) (nn 4) (wsel R3 19)) (jr + 21) (nn 4) v5') (jr + 22) (nn 4) 1) jr 5 (nI (nn 4 + 1))) jr c (nn 4) := fun _ _ => rfl
          have u19 : RD (pI (pI (pI (pI (pI R5 (jr + 19) (nn 4) v3') (jr + 20) (nn 4) (wsel R3 19)) (jr + 21) (nn 4) v5') (jr + 22) (nn 4) 1) jr 5 (nI (nn 4 + 1))) jr 19 (nn 4) = v3' := by
            unfold RD
            rw [gI_pIa (by omega), gI_pIa (by omega), gI_pIa (by omega), gI_pIa (by omega), gI_pIs]
          have u20 : RD (pI (pI (pI (pI (pI R5 (jr + 19) (nn 4) v3') (jr + 20) (nn 4) (wsel R3 19)) (jr + 21) (nn 4) v5') (jr + 22) (nn 4) 1) jr 5 (nI (nn 4 + 1))) jr 20 (nn 4) = (wsel R3 19) := by
            unfold RD
            rw [gI_pIa (by omega), gI_pIa (by omega), gI_pIa (by omega), gI_pIs]
          have u21 : RD (pI (pI (pI (pI (pI R5 (jr + 19) (nn 4) v3') (jr + 20) (nn 4) (wsel R3 19)) (jr + 21) (nn 4) v5') (jr + 22) (nn 4) 1) jr 5 (nI (nn 4 + 1))) jr 21 (nn 4) = v5' := by
            unfold RD
            rw [gI_pIa (by omega), gI_pIa (by omega), gI_pIs]
          have u22 : RD (pI (pI (pI (pI (pI R5 (jr + 19) (nn 4) v3') (jr + 20) (nn 4) (wsel R3 19)) (jr + 21) (nn 4) v5') (jr + 22) (nn 4) 1) jr 5 (nI (nn 4 + 1))) jr 22 (nn 4) = 1 := by
            unfold RD
            rw [gI_pIa (by omega), gI_pIs]
          have w0 : gI (pI C5 (sp + (34 + 2 * nn 4)) 2 v5) (sp + (34 + 2 * nn 4)) 0 = v3 := (e8 _ _ (by omega)).trans (by rw [gI_pIk (by decide), gI_pIk (by decide), gI_pIs])
          have w1 : gI (pI C5 (sp + (34 + 2 * nn 4)) 2 v5) (sp + (34 + 2 * nn 4)) 1 = v4 := (e8 _ _ (by omega)).trans (by rw [gI_pIk (by decide), gI_pIs])
          have w2 : gI (pI C5 (sp + (34 + 2 * nn 4)) 2 v5) (sp + (34 + 2 * nn 4)) 2 = v5 := (e8 _ _ (by omega)).trans (by rw [gI_pIs])
          refine hP.s4 hm kc.1 (fun a j h1 h2 h3 => (e8 a j (by omega)).trans (by rw [gI_pIa (by omega), gI_pIa (by omega), gI_pIa (by omega), gI_pIa (by omega)])) ((e8 _ _ (by omega)).trans (by rw [gI_pIa (by omega), gI_pIa (by omega), gI_pIa (by omega), gI_pIs]))
            (fun j h => (e8 _ _ (by omega)).trans (by rw [gI_pIa (by omega), gI_pIa (by omega), gI_pIa (by omega), gI_pIk h])) (fun j => (e8 _ _ (by omega)).trans (by rw [gI_pIa (by omega), gI_pIa (by omega), gI_pIa (by omega), gI_pIa (by omega)]))
            (fun c i h1 h2 h3 h4 h5 h6 => by rw [gI_pIa (by omega), gI_pIn (by omega), gI_pIn (by omega), gI_pIn (by omega), gI_pIn (by omega)]; exact ej _ _ (by omega) (by omega) (by omega)) (gI_pIs _ _ _ _)
            (fun j h1 h2 => by rw [gI_pIk h1, gI_pIa (by omega), gI_pIa (by omega), gI_pIa (by omega), gI_pIa (by omega)]; exact ej _ _ (by omega) (by omega) (by omega)) ?_ ?_
          · unfold EY
            rw [u19, u20, u21, u22, w0, w1, w2]
            exact ⟨i3, i4, i5, fun z => absurd (i4.trans z) qv⟩
          · unfold VY
            rw [u20, u22]
            exact ⟨kindC_s i4n, fun _ => by decide⟩
        · rw [tot_up (by decide)]
          exact (((((((((((hM).go hj p3 p3').put (by omega) _ _).go hj p4 p4').put (by omega) _ _).go hj p5 p5').put (by omega) _ _).putr (by omega) (by omega) _).putr (by omega) (by omega) _).putr (by omega) (by omega) _).putr (by omega) (by omega) _).putr (by omega) (by omega) _
    · have ref : (if wsel R3 19 = 2 then (ob (f_X13_readPart R5 118 20 1 50) (fun z25 => f_X13_readStory_J128 z25.2 118 v3' (wsel R3 19) v5' z25.1)) else (f_X13_readStory_J128 R5 118 v3' (wsel R3 19) v5' 1)) = some R5 := by
        rw [rpart_o z5.1 (by decide), ob_s, J5 _ _ z5.1, J5 _ _ z5.1, ite_self]
      rw [ref]
      by_cases qv : v4 = 2
      · rw [if_pos qv]
        obtain ⟨C6, v6, v6', R6, b6, c6, p6, p6', s6, z6, f6⟩ := p_part (hF5.congr (C' := (pI C5 (sp + (34 + 2 * nn 4)) 2 v5)) rfl rfl) (Or.inr (z5.put (by omega) 2 v5) : S2 _ _ n 0) (show 20 < 57 by decide) (by decide) (l := 1) (u := 50) (l' := 1) (u' := 50) (fun _ => ⟨rfl, rfl⟩)
        rw [rpart_o z5.1 (by decide)] at c6
        have e6 : R5 = R6 := congrArg Prod.snd (Option.some.inj c6)
        rw [b6, ob_s, ob_s]
        refine ⟨_, _, rfl, rfl, (kc.tr (p6.q.k sp)).pI (a := (sp + (34 + 2 * nn 4))) (by omega) 3 v6, kr, Or.inr (DE.put ?_ (by omega) _ _)⟩
        rw [e6]
        exact z6.elim (fun z => (((z5.put (by omega) 2 v5).no (f6 z).1).elim)) id
      · rw [if_neg qv]
        exact ⟨_, _, rfl, rfl, kc, kr, Or.inr (z5.put (by omega) _ _)⟩
  · have hm2 : nn 4 = 5 := by omega
    obtain ⟨C1, R1, a1, a2, a3, a4, a5⟩ := p_fail hF (Or.inl hA) 5 (by decide)
    have hF1 := hF.congr a3.1 a4.1
    have ad : f_X0_add C sp 4 = some (-1, C) := add_n (k := 4) hP.1 hcn (by omega) (by decide) hm
    rw [ad, ob_s, if_pos rfl, if_pos (show (4 : Int32) < 7 by decide), a1, ob_s]
    exact ⟨C1, R1, rfl, story_many hF.2.2.2.2.2.1 (by rw [hdn, hm2]; rfl) a2 a5.1 hF1.2.2.2.2.2.1 hF1.2.2.2.2.2.2.2.1 (hN.nr.go hj a4), a3.q.k sp, (a4.q jr).k, Or.inr a5⟩
