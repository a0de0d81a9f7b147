/-! THE LINES, on: where a statue lies -/
theorem ltail_de {C R : MM} {jr n sp i m : Nat} (hF : RF C R jr) (hD : DE C R n) (hI : IS C sp) (hs : 14 ≤ sp) (hc : gI C (sp + 8) 1 = nI m) (hm : m ≤ 3) (hi : i < 10) : ∃ C', ob (f_X2_choice C 4 14) (fun z6 => ob (f_X0_roadAt z6.2 sp (gI z6.2 (sp + (19 + i)) 5)) (fun z7 => oc z7 (some z6.2) (fun b7 => ob (f_X2_whole z6.2 4 0 ((gI z6.2 b7 1) - 1)) (fun z8 => ob (f_X3_slopeAt (pI z8.2 (sp + (19 + i)) 6 z8.1) b7 (gI (pI z8.2 (sp + (19 + i)) 6 z8.1) (sp + (19 + i)) 6)) (fun z9 => some (pI (pI z8.2 (sp + (19 + i)) 6 z8.1) (sp + (19 + i)) 7 z9)))))) = some C' ∧ KC C C' sp ∧ DE C' R n := by
  obtain ⟨C5, v5, a5, p5, d5⟩ := d_choice hF hD (show 14 < 57 by decide)
  have hF5 : RF C5 R jr := hF.congr p5.1 rfl
  have kc : KC C C5 sp := p5.q.k sp
  have hI5 : IS C5 sp := hI.congr kc.1
  have hc5 : gI C5 (sp + 8) 1 = nI m := (p5.e _ _ (by omega)).trans hc
  rw [a5, ob_s]
  dsimp only
  rcases roadAt_t (gI C5 (sp + (19 + i)) 5) hI5 hc5 hm with e | ⟨k, hk, -, e⟩
  · exact ⟨C5, by rw [e, ob_s]; rfl, kc, d5⟩
  · obtain ⟨C6, v6, a6, p6, d6⟩ := d_whole hF5 d5 0 (gI C5 (sp + (13 + 2 * k)) 1 - 1)
    have hg : gR (pI C6 (sp + (19 + i)) 6 v6) (sp + (13 + 2 * k)) 2 = some (sp + (14 + 2 * k)) := (hI5.congr p6.1).sl k (by omega)
    obtain ⟨v7, a7⟩ := slopeAt_t (gI (pI C6 (sp + (19 + i)) 6 v6) (sp + (19 + i)) 6) hg
    refine ⟨pI (pI C6 (sp + (19 + i)) 6 v6) (sp + (19 + i)) 7 v7, ?_, (((kc.tr (p6.q.k sp)).pI (a := sp + (19 + i)) (by omega) 6 v6).pI (a := sp + (19 + i)) (by omega) 7 v7), (d6.put (by omega) _ _).put (by omega) _ _⟩
    rw [e, ob_s, oc_x, a6, ob_s, a7, ob_s]
theorem lying_al {C R : MM} {jr n s sp i t : Nat} {nn : Nat → Nat} (hF : RF C R jr) (hA : AL C R n s) (hI : IS C sp) (hs : 14 ≤ sp ∧ sp + 52 ≤ 118) (hc : gI C (sp + 8) 1 = nI (nn 1)) (hm : nn 1 ≤ 3) (hi : i < 10) (hN : NM C R jr nn t) (hr : ∀ r, r < nn 1 → ER C sp (RD R jr) r ∧ VR (RD R jr) r) :
    ∃ C' R', f_X2_readLying C 4 sp (sp + (19 + i)) = some C' ∧ KC C C' sp ∧ KR R R' jr ∧ RF C' R' jr ∧
      ((DE C' R' n ∧ ∀ a b c d, f_X13_readStatue_J244 R 118 a b c d (wsel R 12) = some R') ∨
       (∃ s' l r p v7, s < s' ∧ AL C' R' n s' ∧ NM C' R' jr nn t ∧ E8 C' (pI (pI (pI (pI C (sp + (19 + i)) 4 (nI l)) (sp + (19 + i)) 5 (nI r)) (sp + (19 + i)) 6 (nI p)) (sp + (19 + i)) 7 v7) ∧ EJ R' R jr ∧ l < 3 ∧ r < nn 1 ∧ nI p < RD R jr 5 r ∧ p < 6 ∧ v7 = RD R jr 6 (6 * r + p) ∧
          ∀ a b c d, f_X13_readStatue_J244 R 118 a b c d (wsel R 12) = f_X13_readStatue_J309 R' 118 a b c d (nI l) (nI r) (nI p))) := by
  have hj : 123 < jr := hF.2.2.2.2.2.2.2.2
  obtain ⟨hs, hs2⟩ := hs
  have J9 : ∀ (X : MM) a b c d e f g, gI X 118 9 = 5 → f_X13_readStatue_J309 X 118 a b c d e f g = some X := fun X a b c d e f g h => by
    unfold f_X13_readStatue_J309
    rw [if_pos h]
  obtain ⟨C1, v1, T1, R1, a1, a2, a3, p1, p1', s1, z1, f1⟩ := p_choice hF (Or.inl hA) (show 12 < 57 by decide)
  have hF1 : RF (pI C1 (sp + (19 + i)) 4 v1) R1 jr := (hF.congr p1.1 p1'.1).congr rfl rfl
  obtain ⟨C2, v2, R2, b2, c2, p2, p2', s2, z2, f2⟩ := p_need hF1 (z1.put (by omega) 4 v1) (show 13 < 57 by decide) (by decide)
  have hF2 : RF C2 R2 jr := hF1.congr p2.1 p2'.1
  have hN2 : NM C2 R2 jr nn t := ((hN.go hj p1 p1').put (a := sp + (19 + i)) (by omega) 4 v1).go hj p2 p2'
  obtain ⟨K3, v3, v3', C3, R3, b3, h30, d3, c3, p3, p3', s3, z3, f3⟩ := p_known (c := 1) hF2 z2 hN2.nc hN2.nr (fun _ => hN2) (by decide) (b := sp + (19 + i)) (by omega) 5
  have b3' : f_X2_toldName C2 4 1 = some (v3, K3) := b3
  have c3' : f_X13_readKnown R2 118 1 = some (v3', R3) := c3
  have hF3 : RF C3 R3 jr := (hF2.congr (C' := pI C2 (sp + (19 + i)) 5 v3) rfl rfl).congr p3.1 p3'.1
  have hN3 : NM C3 R3 jr nn t := (hN2.put (a := sp + (19 + i)) (by omega) 5 v3).go hj p3 p3'
  have kc3 : KC C C3 sp := (((((p1.q.k sp).pI (a := sp + (19 + i)) (by omega) 4 v1).tr (p2.q.k sp))).pI (a := sp + (19 + i)) (by omega) 5 v3).tr (p3.q.k sp)
  have kr3 : KR R R3 jr := (((p1'.q jr).k).tr (p2'.q jr).k).tr (p3'.q jr).k
  have e83 : E8 C3 (pI (pI C (sp + (19 + i)) 4 v1) (sp + (19 + i)) 5 v3) := p3.e.tr ((p2.e.tr (p1.e.pI (sp + (19 + i)) 4 v1)).pI (sp + (19 + i)) 5 v3)
  have ej3 : EJ R3 R jr := (p3'.e hj).tr ((p2'.e hj).tr (p1'.e hj))
  have hI3 : IS C3 sp := hI.congr kc3.1
  have hc3 : gI C3 (sp + 8) 1 = nI (nn 1) := (e83 _ _ (by omega)).trans (by rw [gI_pIa (by omega), gI_pIa (by omega)]; exact hc)
  have hR0 : ∀ a b c d, f_X13_readStatue_J244 R 118 a b c d (wsel R 12) = (if (gI R3 118 9) = 5 then (f_X13_readStatue_J304 R3 118 a b c d (wsel R 12) v3' 0 0 14 118) else (oc (gR R3 118 4) (none) (fun b40 => oc (gR R3 b40 13) none (fun b41 => chk (v3' < 0 ∨ 3 ≤ ix v3') (f_X13_readStatue_J304 R3 118 a b c d (wsel R 12) v3' ((gI R3 b41 (ix v3')) - 1) 0 14 118))))) := by
    intro a b c d
    unfold f_X13_readStatue_J244
    rw [ite_ob, a2, ob_s]
    unfold f_X13_readStatue_J257
    rw [a3, ob_s, c2, ob_s, c3', ob_s]
  unfold f_X2_readLying
  rw [a1, ob_s, b2, ob_s, b3', ob_s, h30, oc_x, d3, ob_s]
  rcases z3 with z3 | z3
  · obtain ⟨g3, l3, i3, m, i3m, i3v⟩ := f3 z3
    obtain ⟨g2, l2, -⟩ := f2 g3
    obtain ⟨g1, l1, i1, i1n⟩ := f1 (z1.back (by omega) g2)
    obtain ⟨lw, lw3, elw⟩ := kindL_s i1n
    obtain ⟨⟨r1, r2, r3⟩, hh, hh1, hh6, ehh⟩ := hr m i3m
    obtain ⟨C4, v4, R4, b4, c4, p4, p4', s4, z4, f4⟩ := p_need hF3 (Or.inl z3) (show 14 < 57 by decide) (by decide)
    have hF4 : RF C4 R4 jr := hF3.congr p4.1 p4'.1
    have e84 := p4.e.tr e83
    have x5 : gI C4 (sp + (19 + i)) 5 = nI m := (e84 _ _ (by omega)).trans (by rw [gI_pIs]; exact i3v)
    have xh : gI C4 (sp + (13 + 2 * m)) 1 = RD R jr 5 m := (e84 _ _ (by omega)).trans (by rw [gI_pIa (by omega), gI_pIa (by omega)]; exact r2)
    have xr : gI R3 (jr + 5) m = RD R jr 5 m := ej3 _ _ (by omega) (by omega) (by omega)
    have hw4 : f_X0_roadAt C4 sp (nI m) = some (some (sp + (13 + 2 * m))) := roadAt_s (hI3.congr p4.1) (n := nn 1) ((p4.e _ _ (by omega)).trans hc3) hm i3m
    obtain ⟨C5, v5, v5', R5, b5, c5, p5, p5', s5, z5, f5⟩ := p_whole hF4 z4 (l := 0) (u := RD R jr 5 m - 1) (l' := 0) (u' := RD R jr 5 m - 1) (fun _ => ⟨rfl, rfl⟩)
    have hF5 : RF C5 R5 jr := hF4.congr p5.1 p5'.1
    have hg : gR (pI C5 (sp + (19 + i)) 6 v5) (sp + (13 + 2 * m)) 2 = some (sp + (14 + 2 * m)) := ((hI3.congr p4.1).congr p5.1).sl m (by omega)
    obtain ⟨v7, a7⟩ := slopeAt_t (gI (pI C5 (sp + (19 + i)) 6 v5) (sp + (19 + i)) 6) hg
    have ref : ∀ a b c d, f_X13_readStatue_J244 R 118 a b c d (wsel R 12) = f_X13_readStatue_J309 R5 118 a b c d (wsel R 12) v3' v5' := by
      intro a b c d
      rw [hR0, if_neg z3.ne5, hF3.2.2.2.2.2.1, oc_x, hF3.2.2.2.2.2.2.2.1.k13, oc_x, i3, i3v, chk_n (show m < 3 by omega) (by decide), ix_n (by omega), xr]
      unfold f_X13_readStatue_J304 f_X13_readPart
      rw [c4, ob_s, c5, ob_s, ob_s]
    have kc : KC C (pI (pI C5 (sp + (19 + i)) 6 v5) (sp + (19 + i)) 7 v7) sp := (((kc3.tr (p4.q.k sp)).tr (p5.q.k sp)).pI (a := sp + (19 + i)) (by omega) 6 v5).pI (a := sp + (19 + i)) (by omega) 7 v7
    have kr : KR R R5 jr := (kr3.tr (p4'.q jr).k).tr (p5'.q jr).k
    refine ⟨pI (pI C5 (sp + (19 + i)) 6 v5) (sp + (19 + i)) 7 v7, R5, ?_, kc, kr, (hF5.congr rfl rfl), ?_⟩
    · rw [b4, ob_s]
      dsimp only
      rw [x5, hw4, ob_s, oc_x, xh, b5, ob_s, a7, ob_s]
    · rcases z5 with z5 | z5
      · obtain ⟨g5, l5, i5, ⟨p, px, ep⟩, i5l, i5u⟩ := f5 z5
        obtain ⟨g4, l4, -⟩ := f4 g5
        have hp : p < hh := by
          rw [ep, ehh, show (1 : Int32) = nI 1 from rfl, pk_sub hh1] at i5u
          have := (nI_leI (by omega) (by omega)).mp i5u
          omega
        have e85 := ((p5.e.tr e84).pI (sp + (19 + i)) 6 v5).pI (sp + (19 + i)) 7 v7
        refine Or.inr ⟨s5, lw, m, p, v7, by omega, (z5.put (by omega) _ _).put (by omega) _ _, (((hN3.go hj p4 p4').go hj p5 p5').put (by omega) _ _).put (by omega) _ _, ?_, (p5'.e hj).tr ((p4'.e hj).tr ej3), lw3, i3m, ?_, by omega, ?_, fun a b c d => ?_⟩
        · rw [i1, elw, i3v, ep] at e85
          rw [ep]
          exact e85
        · rw [ehh]
          exact nI_lt hp (by omega)
        · have y7 : gI (pI C5 (sp + (19 + i)) 6 v5) (sp + (14 + 2 * m)) p = RD R jr 6 (6 * m + p) := (((p5.e.tr e84).pI (sp + (19 + i)) 6 v5) _ _ (by omega)).trans (by rw [gI_pIa (by omega), gI_pIa (by omega), gI_pIa (by omega)]; exact r3 p (by rw [ehh]; exact nI_lt hp (by omega)) (by omega))
          unfold f_X3_slopeAt at a7
          rw [hg, oc_x, gI_pIs, ep, entry_s (show p < 6 by omega) (by decide), ob_s] at a7
          rw [← y7, ep]
          exact (Option.some.inj a7).symm
        · rw [ref, elw, i3, i3v, ← i5, ep]
      · exact Or.inl ⟨(z5.put (by omega) _ _).put (by omega) _ _, fun a b c d => by rw [ref, J9 _ _ _ _ _ _ _ _ z5.1]⟩
  · obtain ⟨C', q1, q2, q3⟩ := ltail_de hF3 z3 hI3 hs hc3 hm hi
    refine ⟨C', R3, q1, kc3.tr q2, kr3, hF3.congr q2.1 rfl, Or.inl ⟨q3, fun a b c d => ?_⟩⟩
    rw [hR0, if_pos z3.1]
    unfold f_X13_readStatue_J304
    rw [rpart_o z3.1 (by decide), ob_s, J9 _ _ _ _ _ _ _ _ z3.1]

