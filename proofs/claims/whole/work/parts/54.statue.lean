/-! THE LINES, on: 'statue' -/
/-- 'statue' -/
theorem line_statue {C R : MM} {jr sp n s : Nat} {nn : Nat → Nat} (hF : RF C R jr) (hA : AL C R n s) (hP : PI C R sp jr nn) (hN : NM C R jr nn (tot nn)) (hw : wsel R 0 = 2) : ∃ C' R', f_X2_readLine C 4 sp = some C' ∧ f_X13_readStatue R 118 = some R' ∧ LO C R C' R' sp jr n s := by
  have hj : 123 < jr := hF.2.2.2.2.2.2.2.2
  have hJ := hF.2.2.2.2.2.2.2.1
  obtain ⟨hs, hs2⟩ := hP.2.1
  have hw1 : wsel R 0 ≠ -1 := by rw [hw]; decide
  have hcn : gI C (sp + 8) 2 = nI (nn 2) := hP.cn.2.2.1
  have hdn : gI R jr 2 = nI (nn 2) := hP.dn.2.2.1
  have hm4 : nn 2 ≤ 10 := hP.nb.2.2.1
  unfold f_X2_readLine
  rw [hF.1, oc_x, hA.among (show 0 < 57 by decide), ob_s, hw, if_neg (show ¬ (2 : Int32) = -1 by decide)]
  rcases Nat.lt_or_ge (nn 2) 10 with hm | hm
  · obtain ⟨Ca, Ra, C2, R2, a1, a2, a3, a4, a5, a6, a7, hF2, q2, r2, nc2, nr2, s2, z2, f2⟩ := front (k := 2) hF hA hs hN (tot_lt hP.nb (k := 2) (by decide) hm) (by decide) hw1
    have ad : f_X0_add C sp 2 = some (nI (nn 2), pI C (sp + 8) 2 (nI (nn 2 + 1))) := add_s (k := 2) hP.1 hcn (by decide) hm
    have a6' : f_X2_tellName Ca 4 2 (nI (nn 2)) = some C2 := a6
    have a7' : f_X13_readFresh Ra 118 2 (nI (nn 2)) = some R2 := a7
    rw [ad, ob_s, if_neg (nI_m1 (by omega)), show gR (pI C (sp + 8) 2 (nI (nn 2 + 1))) 4 0 = some 2 from hF.1, oc_x, a1, ob_s, if_neg (show ¬ (7 : Int32) ≤ 2 by decide), a6', ob_s, if_neg (show ¬ (2 : Int32) = 0 by decide), if_neg (show ¬ (2 : Int32) = 1 by decide), if_pos rfl]
    have w2 : f_X0_statueAt C2 sp (nI (nn 2)) = some (some (sp + (19 + nn 2))) := statueAt_s (hP.1.congr q2.1) (n := nn 2 + 1) (by rw [q2.e _ _ (by omega), gI_pIs]) (by omega) (by omega)
    rw [w2, ob_s, oc_x]
    unfold f_X2_readMeasures
    rw [oc_x]
    obtain ⟨C3, v3, v3', R3, b3, c3, p3, p3', s3, z3, f3⟩ := p_part hF2 z2 (show 7 < 57 by decide) (by decide) (l := 1) (u := 99) (l' := 1) (u' := 99) (fun _ => ⟨rfl, rfl⟩)
    have hF3 := (hF2).congr p3.1 p3'.1
    obtain ⟨C4, v4, v4', R4, b4, c4, p4, p4', s4, z4, f4⟩ := p_part (hF3.congr (C' := (pI C3 (sp + (19 + nn 2)) 0 v3)) rfl rfl) (z3.put (by omega) 0 v3) (show 8 < 57 by decide) (by decide) (l := 0) (u := 30) (l' := 0) (u' := 30) (fun _ => ⟨rfl, rfl⟩)
    have hF4 := ((hF3.congr (C' := (pI C3 (sp + (19 + nn 2)) 0 v3)) rfl rfl)).congr p4.1 p4'.1
    obtain ⟨C5, v5, v5', R5, b5, c5, p5, p5', s5, z5, f5⟩ := p_part (hF4.congr (C' := (pI C4 (sp + (19 + nn 2)) 1 v4)) rfl rfl) (z4.put (by omega) 1 v4) (show 9 < 57 by decide) (by decide) (l := 0) (u := 20) (l' := 0) (u' := 20) (fun _ => ⟨rfl, rfl⟩)
    have hF5 := ((hF4.congr (C' := (pI C4 (sp + (19 + nn 2)) 1 v4)) rfl rfl)).congr p5.1 p5'.1
    rw [b3, ob_s, b4, ob_s, b5, ob_s]
    have w5 : f_X0_statueAt (pI C5 (sp + (19 + nn 2)) 2 v5) sp (nI (nn 2)) = some (some (sp + (19 + nn 2))) := statueAt_s (hP.1.congr (((((((((KC.rf C sp).pI (a := sp + 8) (by omega) 2 (nI (nn 2 + 1))).tr (q2.k sp)).tr (p3.q.k sp)).pI (a := (sp + (19 + nn 2))) (by omega) 0 v3).tr (p4.q.k sp)).pI (a := (sp + (19 + nn 2))) (by omega) 1 v4).tr (p5.q.k sp)).pI (a := (sp + (19 + nn 2))) (by omega) 2 v5).1) (n := nn 2 + 1) (((((p5.e).tr (((p4.e).tr (((p3.e).tr (q2.e)).pI (sp + (19 + nn 2)) 0 v3)).pI (sp + (19 + nn 2)) 1 v4)).pI (sp + (19 + nn 2)) 2 v5) _ _ (by omega)).trans (by rw [gI_pIa (by omega), gI_pIa (by omega), gI_pIa (by omega), gI_pIs])) (by omega) (by omega)
    rw [ob_s, w5, ob_s, oc_x]
    unfold f_X2_readSort
    rw [oc_x]
    dsimp only
    obtain ⟨X, hX⟩ : ∃ X, X = (pI (pI (pI (pI C5 (sp + (19 + nn 2)) 2 v5) (sp + (19 + nn 2)) 4 (-2)) (sp + (19 + nn 2)) 5 (-2)) (sp + (19 + nn 2)) 6 (-2)) := ⟨_, rfl⟩
    rw [← hX]
    have zX : S2 X R5 n s5 := by rw [hX]; exact ((((z5.put (by omega) 2 v5)).put (by omega) _ _).put (by omega) _ _).put (by omega) _ _
    have FX : RF X R5 jr := by rw [hX]; exact hF5.congr rfl rfl
    have eX := (((((p5.e).tr (((p4.e).tr (((p3.e).tr (q2.e)).pI (sp + (19 + nn 2)) 0 v3)).pI (sp + (19 + nn 2)) 1 v4)).pI (sp + (19 + nn 2)) 2 v5).pI (sp + (19 + nn 2)) 4 (-2)).pI (sp + (19 + nn 2)) 5 (-2)).pI (sp + (19 + nn 2)) 6 (-2)
    have kX := (((((((((((KC.rf C sp).pI (a := sp + 8) (by omega) 2 (nI (nn 2 + 1))).tr (q2.k sp)).tr (p3.q.k sp)).pI (a := (sp + (19 + nn 2))) (by omega) 0 v3).tr (p4.q.k sp)).pI (a := (sp + (19 + nn 2))) (by omega) 1 v4).tr (p5.q.k sp)).pI (a := (sp + (19 + nn 2))) (by omega) 2 v5).pI (a := (sp + (19 + nn 2))) (by omega) 4 (-2)).pI (a := (sp + (19 + nn 2))) (by omega) 5 (-2)).pI (a := (sp + (19 + nn 2))) (by omega) 6 (-2)
    rw [← hX] at eX kX
    have ej5 : EJ R5 R jr := (p5'.e hj).tr ((p4'.e hj).tr ((p3'.e hj).tr (r2.e hj)))
    have kr5 : KR R R5 jr := (((r2.k).tr (p3'.q jr).k).tr (p4'.q jr).k).tr (p5'.q jr).k
    have hE : gI C sp 8 = gI R jr 3 := hP.2.2.2.2.2.2.1.1
    have hl : gI X sp 8 = gI R5 jr 3 := ((eX _ _ (by omega)).trans (by rw [gI_pIa (by omega), gI_pIa (by omega), gI_pIa (by omega), gI_pIa (by omega), gI_pIa (by omega), gI_pIa (by omega), gI_pIa (by omega)]; exact hE)).trans (ej5 _ _ (by omega) (by omega) (by omega)).symm
    obtain ⟨Y, C6, v6, T, R6, y1, y2, y3, y4, p6, p6', s6, z6, f6⟩ := p_sort FX zX hl
    have hil : f_X5_isLying (pI C6 (sp + (19 + nn 2)) 3 v6) (sp + (19 + nn 2)) = some (if v6 = 5 then 1 else 0) := by
      unfold f_X5_isLying
      rw [gI_pIs]
      split <;> rfl
    rw [y1 (fun x => ob (f_X2_choice x 4 11) (fun z => ob (f_X5_isLying (pI z.2 (sp + (19 + nn 2)) 3 z.1) (sp + (19 + nn 2))) (fun z10 => if z10 = 0 then some (pI z.2 (sp + (19 + nn 2)) 3 z.1) else ob (f_X2_readLying (pI (pI z.2 (sp + (19 + nn 2)) 3 z.1) sp 8 ((gI (pI z.2 (sp + (19 + nn 2)) 3 z.1) sp 8) + 1)) 4 sp (sp + (19 + nn 2))) (fun z12 => some z12)))), y2, ob_s]
    dsimp only
    rw [hil, ob_s, b01]
    have hF6 : RF C6 R6 jr := FX.congr p6.1 p6'.1
    have e6 := (p6.e.tr eX).pI (sp + (19 + nn 2)) 3 v6
    have k6 := (kX.tr (p6.q.k sp)).pI (a := (sp + (19 + nn 2))) (by omega) 3 v6
    have kr6 := kr5.tr (p6'.q jr).k
    have ej6 := (p6'.e hj).tr ej5
    have hR0 : f_X13_readStatue R 118 = if wsel R5 11 = 5 then (f_X13_readStatue_J244 R6 118 v3' v4' v5' (wsel R5 11) (wsel R6 12)) else (f_X13_readStatue_J309 R6 118 v3' v4' v5' (wsel R5 11) (-2) (-2) (-2)) := by
      unfold f_X13_readStatue
      have bg : f_X13_begins R 118 (nI (nn 2)) 10 = ob (f_X13_goesOn R 118) (fun z => some z) := begins_s (c := 10) hm (by decide)
      rw [hF.2.2.2.2.2.1, oc_x, hdn, bg, a2, ob_s, ob_s, a4, oc_x, a5 2, hdn, a7', ob_s, c3, ob_s, c4, ob_s, c5, ob_s]
      refine (kindS (R := R5) (fun x => f_X13_readStatue_J143 R5 118 v3' v4' v5' x)).trans ?_
      show f_X13_readStatue_J143 R5 118 v3' v4' v5' (wsel R5 11) = _
      rw [y3]
      unfold f_X13_readStatue_J179
      rw [y4, ob_s]
      by_cases q : wsel R5 11 = 5
      · rw [if_pos q, if_pos q]
        exact kindL (R := R6) (fun x => f_X13_readStatue_J244 R6 118 v3' v4' v5' (wsel R5 11) x)
      · rw [if_neg q, if_neg q]
    rw [hR0]
    have hJ : ∀ (X : MM) (ll r p : Int32), ¬ gI X 118 9 = 5 → gR X 118 4 = some jr → JS X jr → gI X jr 2 = nI (nn 2) → f_X13_readStatue_J309 X 118 v3' v4' v5' (wsel R5 11) ll r p = if wsel R5 11 = 5 then some (pI (pI (pI (pI (pI (pI (pI (pI (pI X (jr + 7) (nn 2) v3') (jr + 8) (nn 2) v4') (jr + 9) (nn 2) v5') (jr + 10) (nn 2) (wsel R5 11)) (jr + 11) (nn 2) ll) (jr + 12) (nn 2) r) (jr + 13) (nn 2) p) jr 3 (gI X jr 3 + 1)) jr 2 (nI (nn 2 + 1))) else some (pI (pI (pI (pI (pI (pI (pI (pI (pI X (jr + 7) (nn 2) v3') (jr + 8) (nn 2) v4') (jr + 9) (nn 2) v5') (jr + 10) (nn 2) (wsel R5 11)) (jr + 11) (nn 2) ll) (jr + 12) (nn 2) r) (jr + 13) (nn 2) p) jr 3 (gI X jr 3 + 0)) jr 2 (nI (nn 2 + 1))) := by
      intro X ll r p h5 h4 JL x0
      unfold f_X13_readStatue_J309
      rw [if_neg h5]
      have y7 : ∀ (M : MM) (k : Nat) (v : Int32), gI (pI M (jr + 7) k v) jr 2 = gI M jr 2 := fun M k v => gI_pIa (by omega)
      have x7 : ∀ (M : MM) (k : Nat) (v : Int32), gI (pI M (jr + 7) k v) jr 3 = gI M jr 3 := fun M k v => gI_pIa (by omega)
      have y8 : ∀ (M : MM) (k : Nat) (v : Int32), gI (pI M (jr + 8) k v) jr 2 = gI M jr 2 := fun M k v => gI_pIa (by omega)
      have x8 : ∀ (M : MM) (k : Nat) (v : Int32), gI (pI M (jr + 8) k v) jr 3 = gI M jr 3 := fun M k v => gI_pIa (by omega)
      have y9 : ∀ (M : MM) (k : Nat) (v : Int32), gI (pI M (jr + 9) k v) jr 2 = gI M jr 2 := fun M k v => gI_pIa (by omega)
      have x9 : ∀ (M : MM) (k : Nat) (v : Int32), gI (pI M (jr + 9) k v) jr 3 = gI M jr 3 := fun M k v => gI_pIa (by omega)
      have y10 : ∀ (M : MM) (k : Nat) (v : Int32), gI (pI M (jr + 10) k v) jr 2 = gI M jr 2 := fun M k v => gI_pIa (by omega)
      have x10 : ∀ (M : MM) (k : Nat) (v : Int32), gI (pI M (jr + 10) k v) jr 3 = gI M jr 3 := fun M k v => gI_pIa (by omega)
      have y11 : ∀ (M : MM) (k : Nat) (v : Int32), gI (pI M (jr + 11) k v) jr 2 = gI M jr 2 := fun M k v => gI_pIa (by omega)
      have x11 : ∀ (M : MM) (k : Nat) (v : Int32), gI (pI M (jr + 11) k v) jr 3 = gI M jr 3 := fun M k v => gI_pIa (by omega)
      have y12 : ∀ (M : MM) (k : Nat) (v : Int32), gI (pI M (jr + 12) k v) jr 2 = gI M jr 2 := fun M k v => gI_pIa (by omega)
      have x12 : ∀ (M : MM) (k : Nat) (v : Int32), gI (pI M (jr + 12) k v) jr 3 = gI M jr 3 := fun M k v => gI_pIa (by omega)
      have y13 : ∀ (M : MM) (k : Nat) (v : Int32), gI (pI M (jr + 13) k v) jr 2 = gI M jr 2 := fun M k v => gI_pIa (by omega)
      have x13 : ∀ (M : MM) (k : Nat) (v : Int32), gI (pI M (jr + 13) k v) jr 3 = gI M jr 3 := fun M k v => gI_pIa (by omega)
      have y3 : ∀ (M : MM) (v : Int32), gI (pI M jr 3 v) jr 2 = gI M jr 2 := fun M v => gI_pIk (by decide)
      simp only [gR_I, h4, oc_x, JL.k15, JL.k16, JL.k17, JL.k18, JL.k19, JL.k20, JL.k21, x0, y7, y8, y9, y10, y11, y12, y13, x7, x8, x9, x10, x11, x12, x13, y3, ix_n (show nn 2 < 2147483648 by omega), chk_m hm (show 10 < 2147483648 by decide), nI_1]
    rcases z6 with z6 | z6
    · obtain ⟨g6, l6, i6, i6n⟩ := f6 z6
      rw [hX] at g6
      obtain ⟨g5, l5, i5, -⟩ := f5 (z5.back (a := (sp + (19 + nn 2))) (k := 2) (v := v5) (by omega) (S2.back (a := (sp + (19 + nn 2))) (k := 4) (v := -2) ((z5.put (by omega) 2 v5)) (by omega) (S2.back (a := (sp + (19 + nn 2))) (k := 5) (v := -2) (((z5.put (by omega) 2 v5)).put (by omega) _ _) (by omega) (S2.back ((((z5.put (by omega) 2 v5)).put (by omega) _ _).put (by omega) _ _) (by omega) g6))))
      obtain ⟨g4, l4, i4, ⟨x4, x4a, x4b⟩, -, i4d⟩ := f4 (z4.back (by omega) g5)
      obtain ⟨g3, l3, i3, -⟩ := f3 (z3.back (by omega) g4)
      obtain ⟨l2, hM⟩ := f2 g3
      have hM5 := (((((((((hM).go hj p3 p3').put (a := (sp + (19 + nn 2))) (by omega) 0 v3).go hj p4 p4').put (a := (sp + (19 + nn 2))) (by omega) 1 v4).go hj p5 p5').put (a := (sp + (19 + nn 2))) (by omega) 2 v5).put (a := (sp + (19 + nn 2))) (by omega) 4 (-2)).put (a := (sp + (19 + nn 2))) (by omega) 5 (-2)).put (a := (sp + (19 + nn 2))) (by omega) 6 (-2)
      rw [← hX] at hM5
      have hM6 := (hM5.go hj p6 p6').put (a := (sp + (19 + nn 2))) (by omega) 3 v6
      have x4l : x4 ≤ 30 := by rw [x4b] at i4d; exact (nI_leI (b := 30) (by omega) (by decide)).mp i4d
      have j62 : gI R6 jr 2 = nI (nn 2) := (ej6 _ _ (by omega) (by omega) (by omega)).trans hdn
      by_cases qv : v6 = 5
      · have qw : wsel R5 11 = 5 := i6.symm.trans qv
        rw [if_pos qv, if_pos qw]
        have eZ := e6.pI sp 8 (gI (pI C6 (sp + (19 + nn 2)) 3 v6) sp 8 + 1)
        have kZ := k6.pI (a := sp) (by omega) 8 (gI (pI C6 (sp + (19 + nn 2)) 3 v6) sp 8 + 1)
        have hcZ : gI (pI (pI C6 (sp + (19 + nn 2)) 3 v6) sp 8 (gI (pI C6 (sp + (19 + nn 2)) 3 v6) sp 8 + 1)) (sp + 8) 1 = nI (nn 1) := (eZ _ _ (by omega)).trans (by rw [gI_pIa (by omega), gI_pIa (by omega), gI_pIa (by omega), gI_pIa (by omega), gI_pIa (by omega), gI_pIa (by omega), gI_pIa (by omega), gI_pIa (by omega), gI_pIk (by decide)]; exact hP.cn.2.1)
        have hrZ : ∀ r, r < nn 1 → ER (pI (pI C6 (sp + (19 + nn 2)) 3 v6) sp 8 (gI (pI C6 (sp + (19 + nn 2)) 3 v6) sp 8 + 1)) sp (RD R6 jr) r ∧ VR (RD R6 jr) r := fun r hr => by
          have hm1 : nn 1 ≤ 3 := hP.nb.2.1
          obtain ⟨q1, q2, q3⟩ := hP.2.2.2.2.1.2.1 r hr
          have k1 : ∀ j, gI (pI (pI C6 (sp + (19 + nn 2)) 3 v6) sp 8 (gI (pI C6 (sp + (19 + nn 2)) 3 v6) sp 8 + 1)) (sp + (13 + 2 * r)) j = gI C (sp + (13 + 2 * r)) j := fun j => (eZ _ _ (by omega)).trans (by rw [gI_pIa (by omega), gI_pIa (by omega), gI_pIa (by omega), gI_pIa (by omega), gI_pIa (by omega), gI_pIa (by omega), gI_pIa (by omega), gI_pIa (by omega), gI_pIa (by omega)])
          have k2 : ∀ j, gI (pI (pI C6 (sp + (19 + nn 2)) 3 v6) sp 8 (gI (pI C6 (sp + (19 + nn 2)) 3 v6) sp 8 + 1)) (sp + (14 + 2 * r)) j = gI C (sp + (14 + 2 * r)) j := fun j => (eZ _ _ (by omega)).trans (by rw [gI_pIa (by omega), gI_pIa (by omega), gI_pIa (by omega), gI_pIa (by omega), gI_pIa (by omega), gI_pIa (by omega), gI_pIa (by omega), gI_pIa (by omega), gI_pIa (by omega)])
          have k3 : ∀ c i, 1 ≤ c → c < 29 → RD R6 jr c i = RD R jr c i := fun c i h1 h2 => ej6 _ _ (by omega) (by omega) (by omega)
          unfold ER VR
          simp only [k1, k2, k3 4 _ (by decide) (by decide), k3 5 _ (by decide) (by decide), k3 6 _ (by decide) (by decide)]
          exact ⟨⟨q1, q2, q3⟩, hP.2.2.2.1.2.1 r hr⟩
        obtain ⟨C', R', t1, t2, t3, t4, t5⟩ := lying_al (sp := sp) (i := nn 2) (t := tot nn + 1) (nn := up nn 2) (hF6.congr (C' := (pI (pI C6 (sp + (19 + nn 2)) 3 v6) sp 8 (gI (pI C6 (sp + (19 + nn 2)) 3 v6) sp 8 + 1))) rfl rfl) ((z6.put (a := (sp + (19 + nn 2))) (by omega) 3 v6).put (a := sp) (by omega) 8 _) (hP.1.congr kZ.1) ⟨hs, hs2⟩ hcZ hP.nb.2.1 hm (hM6.put (a := sp) (by omega) 8 _) hrZ
        rw [t1, ob_s]
        rcases t5 with ⟨D, u⟩ | ⟨s7, ll, r, p, v7, u1, u2, u3, u4, u5, u6, u7, u8, u9, u10, u11⟩
        · rw [u]
          exact ⟨_, _, rfl, rfl, kZ.tr t2, kr6.tr t3, Or.inr D⟩
        · rw [u11, hJ R' _ _ _ u2.ne5 t4.2.2.2.2.2.1 t4.2.2.2.2.2.2.2.1 ((u5 _ _ (by omega) (by omega) (by omega)).trans j62), if_pos qw]
          have e8 := u4.tr ((((eZ.pI (sp + (19 + nn 2)) 4 (nI ll)).pI (sp + (19 + nn 2)) 5 (nI r)).pI (sp + (19 + nn 2)) 6 (nI p)).pI (sp + (19 + nn 2)) 7 v7)
          have ej := u5.tr ej6
          refine ⟨_, _, rfl, rfl, kZ.tr t2, (kr6.tr t3) |>.pI (by omega) _ _ |>.pI (by omega) _ _ |>.pI (by omega) _ _ |>.pI (by omega) _ _ |>.pI (by omega) _ _ |>.pI (by omega) _ _ |>.pI (by omega) _ _ |>.pI (by omega) _ _ |>.pI (by omega) _ _, Or.inl ⟨s7, up nn 2, by omega, (u2) |>.putr (by omega) _ _ |>.putr (by omega) _ _ |>.putr (by omega) _ _ |>.putr (by omega) _ _ |>.putr (by omega) _ _ |>.putr (by omega) _ _ |>.putr (by omega) _ _ |>.putr (by omega) _ _ |>.putr (by omega) _ _, ?_, ?_⟩⟩
          · have u0d : True := trivial
            have u7' : RD (pI (pI (pI (pI (pI (pI (pI (pI (pI R' (jr + 7) (nn 2) v3') (jr + 8) (nn 2) v4') (jr + 9) (nn 2) v5') (jr + 10) (nn 2) (wsel R5 11)) (jr + 11) (nn 2) (nI ll)) (jr + 12) (nn 2) (nI r)) (jr + 13) (nn 2) (nI p)) jr 3 (gI R' jr 3 + 1)) jr 2 (nI (nn 2 + 1))) jr 7 (nn 2) = v3' := by
              unfold RD
              rw [gI_pIa (by omega), gI_pIa (by omega), gI_pIa (by omega), gI_pIa (by omega), gI_pIa (by omega), gI_pIa (by omega), gI_pIa (by omega), gI_pIa (by omega), gI_pIs]
            have u8' : RD (pI (pI (pI (pI (pI (pI (pI (pI (pI R' (jr + 7) (nn 2) v3') (jr + 8) (nn 2) v4') (jr + 9) (nn 2) v5') (jr + 10) (nn 2) (wsel R5 11)) (jr + 11) (nn 2) (nI ll)) (jr + 12) (nn 2) (nI r)) (jr + 13) (nn 2) (nI p)) jr 3 (gI R' jr 3 + 1)) jr 2 (nI (nn 2 + 1))) jr 8 (nn 2) = v4' := by
              unfold RD
              rw [gI_pIa (by omega), gI_pIa (by omega), gI_pIa (by omega), gI_pIa (by omega), gI_pIa (by omega), gI_pIa (by omega), gI_pIa (by omega), gI_pIs]
            have u9' : RD (pI (pI (pI (pI (pI (pI (pI (pI (pI R' (jr + 7) (nn 2) v3') (jr + 8) (nn 2) v4') (jr + 9) (nn 2) v5') (jr + 10) (nn 2) (wsel R5 11)) (jr + 11) (nn 2) (nI ll)) (jr + 12) (nn 2) (nI r)) (jr + 13) (nn 2) (nI p)) jr 3 (gI R' jr 3 + 1)) jr 2 (nI (nn 2 + 1))) jr 9 (nn 2) = v5' := by
              unfold RD
              rw [gI_pIa (by omega), gI_pIa (by omega), gI_pIa (by omega), gI_pIa (by omega), gI_pIa (by omega), gI_pIa (by omega), gI_pIs]
            have u10' : RD (pI (pI (pI (pI (pI (pI (pI (pI (pI R' (jr + 7) (nn 2) v3') (jr + 8) (nn 2) v4') (jr + 9) (nn 2) v5') (jr + 10) (nn 2) (wsel R5 11)) (jr + 11) (nn 2) (nI ll)) (jr + 12) (nn 2) (nI r)) (jr + 13) (nn 2) (nI p)) jr 3 (gI R' jr 3 + 1)) jr 2 (nI (nn 2 + 1))) jr 10 (nn 2) = wsel R5 11 := by
              unfold RD
              rw [gI_pIa (by omega), gI_pIa (by omega), gI_pIa (by omega), gI_pIa (by omega), gI_pIa (by omega), gI_pIs]
            have u11' : RD (pI (pI (pI (pI (pI (pI (pI (pI (pI R' (jr + 7) (nn 2) v3') (jr + 8) (nn 2) v4') (jr + 9) (nn 2) v5') (jr + 10) (nn 2) (wsel R5 11)) (jr + 11) (nn 2) (nI ll)) (jr + 12) (nn 2) (nI r)) (jr + 13) (nn 2) (nI p)) jr 3 (gI R' jr 3 + 1)) jr 2 (nI (nn 2 + 1))) jr 11 (nn 2) = (nI ll) := by
              unfold RD
              rw [gI_pIa (by omega), gI_pIa (by omega), gI_pIa (by omega), gI_pIa (by omega), gI_pIs]
            have u12' : RD (pI (pI (pI (pI (pI (pI (pI (pI (pI R' (jr + 7) (nn 2) v3') (jr + 8) (nn 2) v4') (jr + 9) (nn 2) v5') (jr + 10) (nn 2) (wsel R5 11)) (jr + 11) (nn 2) (nI ll)) (jr + 12) (nn 2) (nI r)) (jr + 13) (nn 2) (nI p)) jr 3 (gI R' jr 3 + 1)) jr 2 (nI (nn 2 + 1))) jr 12 (nn 2) = (nI r) := by
              unfold RD
              rw [gI_pIa (by omega), gI_pIa (by omega), gI_pIa (by omega), gI_pIs]
            have u13' : RD (pI (pI (pI (pI (pI (pI (pI (pI (pI R' (jr + 7) (nn 2) v3') (jr + 8) (nn 2) v4') (jr + 9) (nn 2) v5') (jr + 10) (nn 2) (wsel R5 11)) (jr + 11) (nn 2) (nI ll)) (jr + 12) (nn 2) (nI r)) (jr + 13) (nn 2) (nI p)) jr 3 (gI R' jr 3 + 1)) jr 2 (nI (nn 2 + 1))) jr 13 (nn 2) = (nI p) := by
              unfold RD
              rw [gI_pIa (by omega), gI_pIa (by omega), gI_pIs]
            have w0 : gI C' (sp + (19 + nn 2)) 0 = v3 := (e8 _ _ (by omega)).trans (by rw [gI_pIk (by decide), gI_pIk (by decide), gI_pIk (by decide), gI_pIk (by decide), gI_pIa (by omega), gI_pIk (by decide), gI_pIk (by decide), gI_pIk (by decide), gI_pIk (by decide), gI_pIk (by decide), gI_pIk (by decide), gI_pIs])
            have w1 : gI C' (sp + (19 + nn 2)) 1 = v4 := (e8 _ _ (by omega)).trans (by rw [gI_pIk (by decide), gI_pIk (by decide), gI_pIk (by decide), gI_pIk (by decide), gI_pIa (by omega), gI_pIk (by decide), gI_pIk (by decide), gI_pIk (by decide), gI_pIk (by decide), gI_pIk (by decide), gI_pIs])
            have w2 : gI C' (sp + (19 + nn 2)) 2 = v5 := (e8 _ _ (by omega)).trans (by rw [gI_pIk (by decide), gI_pIk (by decide), gI_pIk (by decide), gI_pIk (by decide), gI_pIa (by omega), gI_pIk (by decide), gI_pIk (by decide), gI_pIk (by decide), gI_pIk (by decide), gI_pIs])
            have w3 : gI C' (sp + (19 + nn 2)) 3 = v6 := (e8 _ _ (by omega)).trans (by rw [gI_pIk (by decide), gI_pIk (by decide), gI_pIk (by decide), gI_pIk (by decide), gI_pIa (by omega), gI_pIs])
            have w4 : gI C' (sp + (19 + nn 2)) 4 = (nI ll) := (e8 _ _ (by omega)).trans (by rw [gI_pIk (by decide), gI_pIk (by decide), gI_pIk (by decide), gI_pIs])
            have w5 : gI C' (sp + (19 + nn 2)) 5 = (nI r) := (e8 _ _ (by omega)).trans (by rw [gI_pIk (by decide), gI_pIk (by decide), gI_pIs])
            have w6 : gI C' (sp + (19 + nn 2)) 6 = (nI p) := (e8 _ _ (by omega)).trans (by rw [gI_pIk (by decide), gI_pIs])
            have w7 : gI C' (sp + (19 + nn 2)) 7 = v7 := (e8 _ _ (by omega)).trans (by rw [gI_pIs])
            refine hP.s2 hm (kZ.tr t2).1 (fun a j h1 h2 h3 => (e8 a j (by omega)).trans (by rw [gI_pIa (by omega), gI_pIa (by omega), gI_pIa (by omega), gI_pIa (by omega), gI_pIa (by omega), gI_pIa (by omega), gI_pIa (by omega), gI_pIa (by omega), gI_pIa (by omega), gI_pIa (by omega), gI_pIa (by omega), gI_pIa (by omega), gI_pIa (by omega)])) ((e8 _ _ (by omega)).trans (by rw [gI_pIa (by omega), gI_pIa (by omega), gI_pIa (by omega), gI_pIa (by omega), gI_pIa (by omega), gI_pIa (by omega), gI_pIa (by omega), gI_pIa (by omega), gI_pIa (by omega), gI_pIa (by omega), gI_pIa (by omega), gI_pIa (by omega), gI_pIs]))
              (fun j h => (e8 _ _ (by omega)).trans (by rw [gI_pIa (by omega), gI_pIa (by omega), gI_pIa (by omega), gI_pIa (by omega), gI_pIa (by omega), gI_pIa (by omega), gI_pIa (by omega), gI_pIa (by omega), gI_pIa (by omega), gI_pIa (by omega), gI_pIa (by omega), gI_pIa (by omega), gI_pIk h])) (fun j h => (e8 _ _ (by omega)).trans (by rw [gI_pIa (by omega), gI_pIa (by omega), gI_pIa (by omega), gI_pIa (by omega), gI_pIk h, gI_pIa (by omega), gI_pIa (by omega), gI_pIa (by omega), gI_pIa (by omega), gI_pIa (by omega), gI_pIa (by omega), gI_pIa (by omega), gI_pIa (by omega)]))
              (fun c i h1 h2 h3 h4 h5 h6 h7 h8 h9 => by rw [gI_pIa (by omega), gI_pIa (by omega), gI_pIn (by omega), gI_pIn (by omega), gI_pIn (by omega), gI_pIn (by omega), gI_pIn (by omega), gI_pIn (by omega), gI_pIn (by omega)]; exact ej _ _ (by omega) (by omega) (by omega)) (gI_pIs _ _ _ _)
              (fun j h1 h2 h3 => by rw [gI_pIk h1, gI_pIk h3, gI_pIa (by omega), gI_pIa (by omega), gI_pIa (by omega), gI_pIa (by omega), gI_pIa (by omega), gI_pIa (by omega), gI_pIa (by omega)]; exact ej _ _ (by omega) (by omega) (by omega)) ?_ ?_ ?_
            · rw [e8 sp 8 (by omega), gI_pIa (by omega), gI_pIa (by omega), gI_pIa (by omega), gI_pIa (by omega), gI_pIs, gI_pIk (show 3 ≠ 2 by decide), gI_pIs, ej jr 3 (by omega) (by omega) (by omega)]
              rw [e6 sp 8 (by omega), gI_pIa (by omega), gI_pIa (by omega), gI_pIa (by omega), gI_pIa (by omega), gI_pIa (by omega), gI_pIa (by omega), gI_pIa (by omega), gI_pIa (by omega), hE]
            · unfold ES
              rw [u7', u8', u9', u10', u11', u12', u13', w0, w1, w2, w3, w4, w5, w6, w7]
              refine ⟨i3, i4, i5, i6, rfl, rfl, rfl, fun _ r' p' h1 h2 h3 h4 => ?_⟩
              have u7b : r < 3 := Nat.lt_of_lt_of_le (show r < nn 1 from u7) hP.nb.2.1
              have er : r' = r := (nI_eq (by omega) (by omega)).mp h1.symm
              have ep : p' = p := (nI_eq (by omega) (by omega)).mp h2.symm
              rw [er, ep, u10]
              show gI R6 (jr + 6) _ = gI (pI (pI (pI (pI (pI (pI (pI (pI (pI R' (jr + 7) (nn 2) v3') (jr + 8) (nn 2) v4') (jr + 9) (nn 2) v5') (jr + 10) (nn 2) (wsel R5 11)) (jr + 11) (nn 2) (nI ll)) (jr + 12) (nn 2) (nI r)) (jr + 13) (nn 2) (nI p)) jr 3 (gI R' jr 3 + 1)) jr 2 (nI (nn 2 + 1))) (jr + 6) _
              rw [gI_pIa (by omega), gI_pIa (by omega), gI_pIa (by omega), gI_pIa (by omega), gI_pIa (by omega), gI_pIa (by omega), gI_pIa (by omega), gI_pIa (by omega), gI_pIa (by omega)]
              exact (u5 _ _ (by omega) (by omega) (by omega)).symm
            · unfold VS
              rw [u8', u10', u11', u12', u13']
              obtain ⟨hh, hh1, hh6, ehh⟩ := (hrZ r u7).2
              rw [ehh] at u8
              refine ⟨⟨x4, x4l, i4.symm.trans x4b⟩, fun _ => ⟨ll, r, p, hh, u6, u7, (nI_ltI (by omega) (by omega)).mp u8, hh6, rfl, rfl, rfl, ?_⟩⟩
              rw [← ehh]
              show gI (pI (pI (pI (pI (pI (pI (pI (pI (pI R' (jr + 7) (nn 2) v3') (jr + 8) (nn 2) v4') (jr + 9) (nn 2) v5') (jr + 10) (nn 2) (wsel R5 11)) (jr + 11) (nn 2) (nI ll)) (jr + 12) (nn 2) (nI r)) (jr + 13) (nn 2) (nI p)) jr 3 (gI R' jr 3 + 1)) jr 2 (nI (nn 2 + 1))) (jr + 5) _ = gI R6 (jr + 5) _
              rw [gI_pIa (by omega), gI_pIa (by omega), gI_pIa (by omega), gI_pIa (by omega), gI_pIa (by omega), gI_pIa (by omega), gI_pIa (by omega), gI_pIa (by omega), gI_pIa (by omega)]
              exact u5 _ _ (by omega) (by omega) (by omega)
          · rw [tot_up (by decide)]
            exact u3 |>.putr (by omega) (by omega) _ |>.putr (by omega) (by omega) _ |>.putr (by omega) (by omega) _ |>.putr (by omega) (by omega) _ |>.putr (by omega) (by omega) _ |>.putr (by omega) (by omega) _ |>.putr (by omega) (by omega) _ |>.putr (by omega) (by omega) _ |>.putr (by omega) (by omega) _
      · have qw : ¬ wsel R5 11 = 5 := fun z => qv (i6.trans z)
        rw [if_neg qv, if_neg qw, hJ R6 _ _ _ z6.ne5 hF6.2.2.2.2.2.1 hF6.2.2.2.2.2.2.2.1 j62, if_neg qw]
        have e8 := e6
        have ej := ej6
        refine ⟨_, _, rfl, rfl, k6, (kr6) |>.pI (by omega) _ _ |>.pI (by omega) _ _ |>.pI (by omega) _ _ |>.pI (by omega) _ _ |>.pI (by omega) _ _ |>.pI (by omega) _ _ |>.pI (by omega) _ _ |>.pI (by omega) _ _ |>.pI (by omega) _ _, Or.inl ⟨s6, up nn 2, by omega, (z6.put (by omega) _ _) |>.putr (by omega) _ _ |>.putr (by omega) _ _ |>.putr (by omega) _ _ |>.putr (by omega) _ _ |>.putr (by omega) _ _ |>.putr (by omega) _ _ |>.putr (by omega) _ _ |>.putr (by omega) _ _ |>.putr (by omega) _ _, ?_, ?_⟩⟩
        · have u0d : True := trivial
          have u7' : RD (pI (pI (pI (pI (pI (pI (pI (pI (pI R6 (jr + 7) (nn 2) v3') (jr + 8) (nn 2) v4') (jr + 9) (nn 2) v5') (jr + 10) (nn 2) (wsel R5 11)) (jr + 11) (nn 2) (-2)) (jr + 12) (nn 2) (-2)) (jr + 13) (nn 2) (-2)) jr 3 (gI R6 jr 3 + 0)) jr 2 (nI (nn 2 + 1))) jr 7 (nn 2) = v3' := by
            unfold RD
            rw [gI_pIa (by omega), gI_pIa (by omega), gI_pIa (by omega), gI_pIa (by omega), gI_pIa (by omega), gI_pIa (by omega), gI_pIa (by omega), gI_pIa (by omega), gI_pIs]
          have u8' : RD (pI (pI (pI (pI (pI (pI (pI (pI (pI R6 (jr + 7) (nn 2) v3') (jr + 8) (nn 2) v4') (jr + 9) (nn 2) v5') (jr + 10) (nn 2) (wsel R5 11)) (jr + 11) (nn 2) (-2)) (jr + 12) (nn 2) (-2)) (jr + 13) (nn 2) (-2)) jr 3 (gI R6 jr 3 + 0)) jr 2 (nI (nn 2 + 1))) jr 8 (nn 2) = v4' := by
            unfold RD
            rw [gI_pIa (by omega), gI_pIa (by omega), gI_pIa (by omega), gI_pIa (by omega), gI_pIa (by omega), gI_pIa (by omega), gI_pIa (by omega), gI_pIs]
          have u9' : RD (pI (pI (pI (pI (pI (pI (pI (pI (pI R6 (jr + 7) (nn 2) v3') (jr + 8) (nn 2) v4') (jr + 9) (nn 2) v5') (jr + 10) (nn 2) (wsel R5 11)) (jr + 11) (nn 2) (-2)) (jr + 12) (nn 2) (-2)) (jr + 13) (nn 2) (-2)) jr 3 (gI R6 jr 3 + 0)) jr 2 (nI (nn 2 + 1))) jr 9 (nn 2) = v5' := by
            unfold RD
            rw [gI_pIa (by omega), gI_pIa (by omega), gI_pIa (by omega), gI_pIa (by omega), gI_pIa (by omega), gI_pIa (by omega), gI_pIs]
          have u10' : RD (pI (pI (pI (pI (pI (pI (pI (pI (pI R6 (jr + 7) (nn 2) v3') (jr + 8) (nn 2) v4') (jr + 9) (nn 2) v5') (jr + 10) (nn 2) (wsel R5 11)) (jr + 11) (nn 2) (-2)) (jr + 12) (nn 2) (-2)) (jr + 13) (nn 2) (-2)) jr 3 (gI R6 jr 3 + 0)) jr 2 (nI (nn 2 + 1))) jr 10 (nn 2) = wsel R5 11 := by
            unfold RD
            rw [gI_pIa (by omega), gI_pIa (by omega), gI_pIa (by omega), gI_pIa (by omega), gI_pIa (by omega), gI_pIs]
          have u11' : RD (pI (pI (pI (pI (pI (pI (pI (pI (pI R6 (jr + 7) (nn 2) v3') (jr + 8) (nn 2) v4') (jr + 9) (nn 2) v5') (jr + 10) (nn 2) (wsel R5 11)) (jr + 11) (nn 2) (-2)) (jr + 12) (nn 2) (-2)) (jr + 13) (nn 2) (-2)) jr 3 (gI R6 jr 3 + 0)) jr 2 (nI (nn 2 + 1))) jr 11 (nn 2) = (-2) := by
            unfold RD
            rw [gI_pIa (by omega), gI_pIa (by omega), gI_pIa (by omega), gI_pIa (by omega), gI_pIs]
          have u12' : RD (pI (pI (pI (pI (pI (pI (pI (pI (pI R6 (jr + 7) (nn 2) v3') (jr + 8) (nn 2) v4') (jr + 9) (nn 2) v5') (jr + 10) (nn 2) (wsel R5 11)) (jr + 11) (nn 2) (-2)) (jr + 12) (nn 2) (-2)) (jr + 13) (nn 2) (-2)) jr 3 (gI R6 jr 3 + 0)) jr 2 (nI (nn 2 + 1))) jr 12 (nn 2) = (-2) := by
            unfold RD
            rw [gI_pIa (by omega), gI_pIa (by omega), gI_pIa (by omega), gI_pIs]
          have u13' : RD (pI (pI (pI (pI (pI (pI (pI (pI (pI R6 (jr + 7) (nn 2) v3') (jr + 8) (nn 2) v4') (jr + 9) (nn 2) v5') (jr + 10) (nn 2) (wsel R5 11)) (jr + 11) (nn 2) (-2)) (jr + 12) (nn 2) (-2)) (jr + 13) (nn 2) (-2)) jr 3 (gI R6 jr 3 + 0)) jr 2 (nI (nn 2 + 1))) jr 13 (nn 2) = (-2) := by
            unfold RD
            rw [gI_pIa (by omega), gI_pIa (by omega), gI_pIs]
          have w0 : gI (pI C6 (sp + (19 + nn 2)) 3 v6) (sp + (19 + nn 2)) 0 = v3 := (e8 _ _ (by omega)).trans (by rw [gI_pIk (by decide), gI_pIk (by decide), gI_pIk (by decide), gI_pIk (by decide), gI_pIk (by decide), gI_pIk (by decide), gI_pIs])
          have w1 : gI (pI C6 (sp + (19 + nn 2)) 3 v6) (sp + (19 + nn 2)) 1 = v4 := (e8 _ _ (by omega)).trans (by rw [gI_pIk (by decide), gI_pIk (by decide), gI_pIk (by decide), gI_pIk (by decide), gI_pIk (by decide), gI_pIs])
          have w2 : gI (pI C6 (sp + (19 + nn 2)) 3 v6) (sp + (19 + nn 2)) 2 = v5 := (e8 _ _ (by omega)).trans (by rw [gI_pIk (by decide), gI_pIk (by decide), gI_pIk (by decide), gI_pIk (by decide), gI_pIs])
          have w3 : gI (pI C6 (sp + (19 + nn 2)) 3 v6) (sp + (19 + nn 2)) 3 = v6 := (e8 _ _ (by omega)).trans (by rw [gI_pIs])
          have w4 : gI (pI C6 (sp + (19 + nn 2)) 3 v6) (sp + (19 + nn 2)) 4 = (-2) := (e8 _ _ (by omega)).trans (by rw [gI_pIk (by decide), gI_pIk (by decide), gI_pIk (by decide), gI_pIs])
          have w5 : gI (pI C6 (sp + (19 + nn 2)) 3 v6) (sp + (19 + nn 2)) 5 = (-2) := (e8 _ _ (by omega)).trans (by rw [gI_pIk (by decide), gI_pIk (by decide), gI_pIs])
          have w6 : gI (pI C6 (sp + (19 + nn 2)) 3 v6) (sp + (19 + nn 2)) 6 = (-2) := (e8 _ _ (by omega)).trans (by rw [gI_pIk (by decide), gI_pIs])
          refine hP.s2 hm (k6).1 (fun a j h1 h2 h3 => (e8 a j (by omega)).trans (by rw [gI_pIa (by omega), gI_pIa (by omega), gI_pIa (by omega), gI_pIa (by omega), gI_pIa (by omega), gI_pIa (by omega), gI_pIa (by omega), gI_pIa (by omega)])) ((e8 _ _ (by omega)).trans (by rw [gI_pIa (by omega), gI_pIa (by omega), gI_pIa (by omega), gI_pIa (by omega), gI_pIa (by omega), gI_pIa (by omega), gI_pIa (by omega), gI_pIs]))
            (fun j h => (e8 _ _ (by omega)).trans (by rw [gI_pIa (by omega), gI_pIa (by omega), gI_pIa (by omega), gI_pIa (by omega), gI_pIa (by omega), gI_pIa (by omega), gI_pIa (by omega), gI_pIk h])) (fun j h => (e8 _ _ (by omega)).trans (by rw [gI_pIa (by omega), gI_pIa (by omega), gI_pIa (by omega), gI_pIa (by omega), gI_pIa (by omega), gI_pIa (by omega), gI_pIa (by omega), gI_pIa (by omega)]))
            (fun c i h1 h2 h3 h4 h5 h6 h7 h8 h9 => by rw [gI_pIa (by omega), gI_pIa (by omega), gI_pIn (by omega), gI_pIn (by omega), gI_pIn (by omega), gI_pIn (by omega), gI_pIn (by omega), gI_pIn (by omega), gI_pIn (by omega)]; exact ej _ _ (by omega) (by omega) (by omega)) (gI_pIs _ _ _ _)
            (fun j h1 h2 h3 => by rw [gI_pIk h1, gI_pIk h3, gI_pIa (by omega), gI_pIa (by omega), gI_pIa (by omega), gI_pIa (by omega), gI_pIa (by omega), gI_pIa (by omega), gI_pIa (by omega)]; exact ej _ _ (by omega) (by omega) (by omega)) ?_ ?_ ?_
          · rw [e8 sp 8 (by omega), gI_pIa (by omega), gI_pIa (by omega), gI_pIa (by omega), gI_pIa (by omega), gI_pIa (by omega), gI_pIa (by omega), gI_pIa (by omega), gI_pIa (by omega), gI_pIk (show 3 ≠ 2 by decide), gI_pIs, ej jr 3 (by omega) (by omega) (by omega)]
            rw [hE, Int32.add_zero]
          · unfold ES
            rw [u7', u8', u9', u10', u11', u12', u13', w0, w1, w2, w3, w4, w5, w6]
            exact ⟨i3, i4, i5, i6, rfl, rfl, rfl, fun z => absurd z qw⟩
          · unfold VS
            rw [u8', u10']
            exact ⟨⟨x4, x4l, i4.symm.trans x4b⟩, fun z => absurd z qw⟩
        · rw [tot_up (by decide)]
          exact hM6 |>.putr (by omega) (by omega) _ |>.putr (by omega) (by omega) _ |>.putr (by omega) (by omega) _ |>.putr (by omega) (by omega) _ |>.putr (by omega) (by omega) _ |>.putr (by omega) (by omega) _ |>.putr (by omega) (by omega) _ |>.putr (by omega) (by omega) _ |>.putr (by omega) (by omega) _
    · have ref : (if wsel R5 11 = 5 then (f_X13_readStatue_J244 R6 118 v3' v4' v5' (wsel R5 11) (wsel R6 12)) else (f_X13_readStatue_J309 R6 118 v3' v4' v5' (wsel R5 11) (-2) (-2) (-2))) = some R6 := by
        have h5 := z6.1
        have J9 : ∀ a b c d e f g, f_X13_readStatue_J309 R6 118 a b c d e f g = some R6 := fun a b c d e f g => by
          unfold f_X13_readStatue_J309
          rw [if_pos h5]
        rw [J9, wsel_de z6]
        unfold f_X13_readStatue_J244 f_X13_readStatue_J257 f_X13_readStatue_J304
        rw [if_pos (show (-1 : Int32) = -1 from rfl), wrong_o h5, ob_s, goes_o h5, ob_s, needs_o h5 (by decide), ob_s, rknown_o h5 hF6.2.2.2.2.2.1 hF6.2.2.2.2.2.2.2.1 ((((nr2.go hj p3').go hj p4').go hj p5').go hj p6'), ob_s, if_pos h5, rpart_o h5 (by decide), ob_s, J9, ite_self]
      rw [ref]
      by_cases qv : v6 = 5
      · rw [if_pos qv]
        have ncX := (((((((((nc2.go p3).put (a := (sp + (19 + nn 2))) (by omega) 0 v3).go p4).put (a := (sp + (19 + nn 2))) (by omega) 1 v4).go p5).put (a := (sp + (19 + nn 2))) (by omega) 2 v5).put (a := (sp + (19 + nn 2))) (by omega) 4 (-2)).put (a := (sp + (19 + nn 2))) (by omega) 5 (-2)).put (a := (sp + (19 + nn 2))) (by omega) 6 (-2))
        rw [← hX] at ncX
        have eZ := e6.pI sp 8 (gI (pI C6 (sp + (19 + nn 2)) 3 v6) sp 8 + 1)
        have kZ := k6.pI (a := sp) (by omega) 8 (gI (pI C6 (sp + (19 + nn 2)) 3 v6) sp 8 + 1)
        have hcZ : gI (pI (pI C6 (sp + (19 + nn 2)) 3 v6) sp 8 (gI (pI C6 (sp + (19 + nn 2)) 3 v6) sp 8 + 1)) (sp + 8) 1 = nI (nn 1) := (eZ _ _ (by omega)).trans (by rw [gI_pIa (by omega), gI_pIa (by omega), gI_pIa (by omega), gI_pIa (by omega), gI_pIa (by omega), gI_pIa (by omega), gI_pIa (by omega), gI_pIa (by omega), gI_pIk (by decide)]; exact hP.cn.2.1)
        obtain ⟨C', t1, t2, t3⟩ := lying_de (i := nn 2) (hF6.congr (C' := (pI (pI C6 (sp + (19 + nn 2)) 3 v6) sp 8 (gI (pI C6 (sp + (19 + nn 2)) 3 v6) sp 8 + 1))) rfl rfl) ((z6.put (by omega) _ _).put (by omega) _ _) (hP.1.congr kZ.1) hs hcZ hP.nb.2.1 hm (((ncX.go p6).put (by omega) _ _).put (by omega) _ _) ((((nr2.go hj p3').go hj p4').go hj p5').go hj p6')
        rw [t1, ob_s]
        exact ⟨_, _, rfl, rfl, kZ.tr t2, kr6, Or.inr t3⟩
      · rw [if_neg qv]
        exact ⟨_, _, rfl, rfl, k6, kr6, Or.inr (z6.put (by omega) _ _)⟩
  · have hm2 : nn 2 = 10 := by omega
    obtain ⟨C1, R1, a1, a2, a3, a4, a5⟩ := p_fail hF (Or.inl hA) 5 (by decide)
    have hF1 := hF.congr a3.1 a4.1
    have ad : f_X0_add C sp 2 = some (-1, C) := add_n (k := 2) hP.1 hcn (by omega) (by decide) hm
    rw [ad, ob_s, if_pos rfl, if_pos (show (2 : Int32) < 7 by decide), a1, ob_s]
    exact ⟨C1, R1, rfl, statue_many hF.2.2.2.2.2.1 (by rw [hdn, hm2]; rfl) a2 a5.1 hF1.2.2.2.2.2.1 hF1.2.2.2.2.2.2.2.1 (hN.nr.go hj a4), a3.q.k sp, (a4.q jr).k, Or.inr a5⟩
