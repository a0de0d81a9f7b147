/-! THE LINES, on: 'road' -/
/-- 'road' -/
theorem line_road {C R : MM} {jr sp n s : Nat} {nn : Nat → Nat} (hF : RF C R jr) (hA : AL C R n s) (hP : PI C R sp jr nn) (hN : NM C R jr nn (tot nn)) (hw : wsel R 0 = 1) : ∃ C' R', f_X2_readLine C 4 sp = some C' ∧ f_X13_readRoad R 118 = some R' ∧ LO C R C' R' sp jr n s := by
  have hj : 123 < jr := hF.2.2.2.2.2.2.2.2
  have hJ := hF.2.2.2.2.2.2.2.1
  obtain ⟨hs, hs2⟩ := hP.2.1
  have hw1 : wsel R 0 ≠ -1 := by rw [hw]; decide
  have hcn : gI C (sp + 8) 1 = nI (nn 1) := hP.cn.2.1
  have hdn : gI R jr 1 = nI (nn 1) := hP.dn.2.1
  have hm4 : nn 1 ≤ 3 := hP.nb.2.1
  unfold f_X2_readLine
  rw [hF.1, oc_x, hA.among (show 0 < 57 by decide), ob_s, hw, if_neg (show ¬ (1 : Int32) = -1 by decide)]
  rcases Nat.lt_or_ge (nn 1) 3 with hm | hm
  · obtain ⟨Ca, Ra, C2, R2, a1, a2, a3, a4, a5, a6, a7, hF2, q2, r2, nc2, nr2, s2, z2, f2⟩ := front (k := 1) hF hA hs hN (tot_lt hP.nb (k := 1) (by decide) hm) (by decide) hw1
    have ad : f_X0_add C sp 1 = some (nI (nn 1), pI C (sp + 8) 1 (nI (nn 1 + 1))) := add_s (k := 1) hP.1 hcn (by decide) hm
    have a6' : f_X2_tellName Ca 4 1 (nI (nn 1)) = some C2 := a6
    have a7' : f_X13_readFresh Ra 118 1 (nI (nn 1)) = some R2 := a7
    rw [ad, ob_s, if_neg (nI_m1 (by omega)), show gR (pI C (sp + 8) 1 (nI (nn 1 + 1))) 4 0 = some 2 from hF.1, oc_x, a1, ob_s, if_neg (show ¬ (7 : Int32) ≤ 1 by decide), a6', ob_s, if_neg (show ¬ (1 : Int32) = 0 by decide), if_pos rfl]
    have w2 : f_X0_roadAt C2 sp (nI (nn 1)) = some (some (sp + (13 + 2 * nn 1))) := roadAt_s (hP.1.congr q2.1) (n := nn 1 + 1) (by rw [q2.e _ _ (by omega), gI_pIs]) (by omega) (by omega)
    rw [w2, ob_s, oc_x]
    unfold f_X2_readRoad
    rw [oc_x]
    obtain ⟨C3, v3, v3', R3, b3, c3, p3, p3', s3, z3, f3⟩ := p_part (hF2.congr (C' := (pI C2 (sp + (13 + 2 * nn 1)) 1 0)) rfl rfl) (z2.put (a := (sp + (13 + 2 * nn 1))) (by omega) 1 0) (show 4 < 57 by decide) (by decide) (l := 0) (u := 9) (l' := 0) (u' := 9) (fun _ => ⟨rfl, rfl⟩)
    have hF3 := ((hF2.congr (C' := (pI C2 (sp + (13 + 2 * nn 1)) 1 0)) rfl rfl)).congr p3.1 p3'.1
    obtain ⟨C4, v4, R4, b4, c4, p4, p4', s4, z4, f4⟩ := p_need (hF3.congr (C' := (pI C3 (sp + (13 + 2 * nn 1)) 0 v3)) rfl rfl) (z3.put (by omega) 0 v3) (show 5 < 57 by decide) (by decide)
    have hF4 := ((hF3.congr (C' := (pI C3 (sp + (13 + 2 * nn 1)) 0 v3)) rfl rfl)).congr p4.1 p4'.1
    rw [b3, ob_s, b4, ob_s]
    dsimp only
    have hR0 : f_X13_readRoad R 118 = if gI R4 118 9 = 5 then (f_X13_readRoad_L57 FU R4 118 v3' 0 0) else (f_X13_readRoad_L57_1 FU R4 118 v3' 0 1) := by
      unfold f_X13_readRoad
      have bg : f_X13_begins R 118 (nI (nn 1)) 3 = ob (f_X13_goesOn R 118) (fun z => some z) := begins_s (c := 3) hm (by decide)
      rw [hF.2.2.2.2.2.1, oc_x, hdn, bg, a2, ob_s, ob_s, a4, oc_x, a5 1, hdn, a7', ob_s, c3, ob_s, c4, ob_s]
    rw [hR0]
    have e4 := (p4.e).tr (((p3.e).tr ((q2.e).pI (sp + (13 + 2 * nn 1)) 1 0)).pI (sp + (13 + 2 * nn 1)) 0 v3)
    have k4 : KC C C4 sp := ((((((KC.rf C sp).pI (a := sp + 8) (by omega) 1 (nI (nn 1 + 1))).tr (q2.k sp)).pI (a := (sp + (13 + 2 * nn 1))) (by omega) 1 0).tr (p3.q.k sp)).pI (a := (sp + (13 + 2 * nn 1))) (by omega) 0 v3).tr (p4.q.k sp)
    have ej4 : EJ R4 R jr := (p4'.e hj).tr ((p3'.e hj).tr (r2.e hj))
    have kr4 : KR R R4 jr := ((r2.k).tr (p3'.q jr).k).tr (p4'.q jr).k
    have hI4 : IS C4 sp := hP.1.congr k4.1
    have hd4 : gI C4 (sp + (13 + 2 * nn 1)) 1 = nI 0 := (e4 _ _ (by omega)).trans (by rw [gI_pIk (by decide), gI_pIs]; rfl)
    have hb4 : gI C4 (sp + (13 + 2 * nn 1)) 0 = v3 := (e4 _ _ (by omega)).trans (by rw [gI_pIs])
    have hr4 : gI R4 jr 1 = nI (nn 1) := (ej4 _ _ (by omega) (by omega) (by omega)).trans hdn
    rcases z4 with z4 | z4
    · rw [if_neg z4.ne5]
      obtain ⟨g4, l4, -⟩ := f4 z4
      obtain ⟨g3, l3, i3, -⟩ := f3 (z3.back (by omega) g4)
      obtain ⟨l2, hM⟩ := f2 (z2.back (by omega) g3)
      have hM4 := (((hM.put (a := (sp + (13 + 2 * nn 1))) (by omega) 1 0).go hj p3 p3').put (a := (sp + (13 + 2 * nn 1))) (by omega) 0 v3).go hj p4 p4'
      obtain ⟨C', R', t1, t2, t3, t4⟩ := road_al (n := n) v3' hs hm 6 0 s4 C4 R4 FU FU rfl (fu (by decide)) (fu (by decide)) hF4 z4 hI4 hd4 (fun p hp => absurd hp (by omega)) hr4
      have t1' : f_X2_readRoad_L34 FU C4 4 (sp + (13 + 2 * nn 1)) 1 0 = some C' := t1
      rw [t1']
      rcases t4 with ⟨D, t5⟩ | ⟨F5, ⟨o1, o2, o3, o4⟩, s', h, f, u1, u2, u3, u4, u5, u6, u7, u8⟩
      · have t5' : f_X13_readRoad_L57_1 FU R4 118 v3' 0 1 = some R' := t5
        rw [t5']
        exact ⟨C', R', rfl, rfl, k4.tr t2, kr4.tr t3, Or.inr D⟩
      · have u8' : f_X13_readRoad_L57_1 FU R4 118 v3' 0 1 = f_X13_readRoad_L57_1 f R' 118 v3' (nI h) 0 := u8
        obtain ⟨f', rfl⟩ := suc u7
        have x1 : gI R' jr 1 = nI (nn 1) := (o3 _ _ (by omega) (by omega) (by omega) (by omega)).trans hr4
        have y4 : ∀ (M : MM) (k : Nat) (v : Int32), gI (pI M (jr + 4) k v) jr 1 = gI M jr 1 := fun M k v => gI_pIa (by omega)
        have y5 : ∀ (M : MM) (k : Nat) (v : Int32), gI (pI M (jr + 5) k v) jr 1 = gI M jr 1 := fun M k v => gI_pIa (by omega)
        have fin : f_X13_readRoad_L57_1 (f' + 1) R' 118 v3' (nI h) 0 = some (pI (pI (pI R' (jr + 4) (nn 1) v3') (jr + 5) (nn 1) (nI h)) jr 1 (nI (nn 1 + 1))) := by
          rw [f_X13_readRoad_L57_1, if_pos rfl, if_neg u4.ne5]
          have JL := F5.2.2.2.2.2.2.2.1
          simp only [gR_I, F5.2.2.2.2.2.1, oc_x, JL.k12, JL.k13, x1, y4, y5, ix_n (show nn 1 < 2147483648 by omega), chk_m hm (show 3 < 2147483648 by decide), nI_1]
        rw [u8', fin]
        have kc := k4.tr t2
        refine ⟨_, _, rfl, rfl, kc, (((kr4.tr t3).pI (by omega) _ _).pI (by omega) _ _).pI (by omega) _ _, Or.inl ⟨s', up nn 1, by omega, ((u4.putr (by omega) _ _).putr (by omega) _ _).putr (by omega) _ _, ?_, ?_⟩⟩
        · have q4 : RD (pI (pI (pI R' (jr + 4) (nn 1) v3') (jr + 5) (nn 1) (nI h)) jr 1 (nI (nn 1 + 1))) jr 4 (nn 1) = v3' := by
            unfold RD
            rw [gI_pIa (by omega), gI_pIa (by omega), gI_pIs]
          have q5 : RD (pI (pI (pI R' (jr + 4) (nn 1) v3') (jr + 5) (nn 1) (nI h)) jr 1 (nI (nn 1 + 1))) jr 5 (nn 1) = nI h := by
            unfold RD
            rw [gI_pIa (by omega), gI_pIs]
          refine hP.s1 hm kc.1 (fun a j h1 h2 h3 => (o1 a j (by omega) (by omega) (by omega)).trans ((e4 a j (by omega)).trans (by rw [gI_pIa (by omega), gI_pIa (by omega), gI_pIa (by omega)]))) ((o1 _ _ (by omega) (by omega) (by omega)).trans ((e4 _ _ (by omega)).trans (by rw [gI_pIa (by omega), gI_pIa (by omega), gI_pIs])))
            (fun j h => (o1 _ _ (by omega) (by omega) (by omega)).trans ((e4 _ _ (by omega)).trans (by rw [gI_pIa (by omega), gI_pIa (by omega), gI_pIk h]))) (fun j => (o1 _ _ (by omega) (by omega) (by omega)).trans ((e4 _ _ (by omega)).trans (by rw [gI_pIa (by omega), gI_pIa (by omega), gI_pIa (by omega)])))
            (fun c i h1 h2 h3 h4 h5 => by rw [gI_pIa (by omega), gI_pIn (by omega), gI_pIn (by omega)]; exact (o3 _ _ (by omega) (by omega) (by omega) (by omega)).trans (ej4 _ _ (by omega) (by omega) (by omega))) (gI_pIs _ _ _ _)
            (fun j h1 h2 => by rw [gI_pIk h1, gI_pIa (by omega), gI_pIa (by omega)]; exact (o3 _ _ (by omega) (by omega) (by omega) (by omega)).trans (ej4 _ _ (by omega) (by omega) (by omega))) ?_ ?_
          · unfold ER
            rw [q4, q5, u5]
            refine ⟨o2.trans (hb4.trans i3), rfl, fun p h1 h2 => ?_⟩
            rw [u6 p ((nI_ltI (by omega) (by omega)).mp h1)]
            show _ = gI (pI (pI (pI R' (jr + 4) (nn 1) v3') (jr + 5) (nn 1) (nI h)) jr 1 (nI (nn 1 + 1))) (jr + 6) _
            rw [gI_pIa (by omega), gI_pIa (by omega), gI_pIa (by omega)]
          · unfold VR
            rw [q5]
            exact ⟨h, u2, u3, rfl⟩
        · rw [tot_up (by decide)]
          exact (((o4 _ _ hM4).putr (by omega) (by omega) _).putr (by omega) (by omega) _).putr (by omega) (by omega) _
    · rw [if_pos z4.1]
      obtain ⟨C', t1, t2, t3⟩ := road_de (n := n) hs hm 7 0 1 C4 FU rfl (fu (by decide)) hF4 z4 hI4 ⟨0, by decide, hd4⟩
      have t1' : f_X2_readRoad_L34 FU C4 4 (sp + (13 + 2 * nn 1)) 1 0 = some C' := t1
      rw [t1', show FU = (FU - 1) + 1 by decide, f_X13_readRoad_L57, if_pos rfl, if_pos z4.1]
      exact ⟨C', R4, rfl, rfl, k4.tr t2, kr4, Or.inr t3⟩
  · have hm2 : nn 1 = 3 := by omega
    obtain ⟨C1, R1, a1, a2, a3, a4, a5⟩ := p_fail hF (Or.inl hA) 5 (by decide)
    have hF1 := hF.congr a3.1 a4.1
    have ad : f_X0_add C sp 1 = some (-1, C) := add_n (k := 1) hP.1 hcn (by omega) (by decide) hm
    rw [ad, ob_s, if_pos rfl, if_pos (show (1 : Int32) < 7 by decide), a1, ob_s]
    exact ⟨C1, R1, rfl, road_many hF.2.2.2.2.2.1 (by rw [hdn, hm2]; rfl) a2 a5.1 hF1.2.2.2.2.2.1 hF1.2.2.2.2.2.2.2.1 (hN.nr.go hj a4), a3.q.k sp, (a4.q jr).k, Or.inr a5⟩
