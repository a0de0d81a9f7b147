/-! MOVES: one step, both sides -/
theorem put14 {C : MM} {ic : Nat} {D : DT} {n : Nat → Nat} (h : CI C ic D n) (hi : 14 ≤ ic) {a : Nat} (ha : a < 14) (k : Nat) (v : Int32) : CI (pI C a k v) ic D n := h.congr (fun a k h => gI_pIa (by omega)) rfl hi
def nx (sd : Nat) : Nat := (75 * sd + 74) % 65537
theorem nx_b (sd : Nat) : nx sd ≤ 65536 := by unfold nx; omega
theorem draw_c {M : MM} {a sd : Nat} (h : gI M a 0 = nI sd) (hs : sd ≤ 65536) : f_X1_draw M a = some (nI (nx sd), pI M a 0 (nI (nx sd))) := by
  unfold f_X1_draw nx
  have e : ((75 * (gI M a 0)) + 74) - ((75 * (gI M a 0)) + 74) / 65537 * 65537 = nI ((75 * sd + 74) % 65537) := by
    rw [h, show (75 : Int32) = nI 75 from rfl, pk_mul, show (74 : Int32) = nI 74 from rfl, nI_add, show (65537 : Int32) = nI 65537 from rfl, pk_rem (by omega) (by omega) (by omega)]
  rw [e, gI_pIs]
theorem drawn_r {M : MM} {sd m : Nat} (h : gI M 118 16 = nI sd) (hs : sd ≤ 65536) (m0 : 0 < m) (m1 : m ≤ 100) : f_X13_drawn M 118 (nI m) = some (nI (nx sd % m), pI M 118 16 (nI (nx sd))) := by
  unfold f_X13_drawn
  have e : (((75 * ((gI M 118 16).toInt64)) + 74) - ((75 * ((gI M 118 16).toInt64)) + 74) / 65537 * 65537).toInt32 = nI (nx sd) := by
    unfold nx
    rw [h, nI_l (by omega), show (75 : Int64) = lN 75 from rfl, lN_mul, show (74 : Int64) = lN 74 from rfl, lN_add, show (65537 : Int64) = lN 65537 from rfl, pk_lRem (by omega) (by omega) (by omega), lN_i]
  have hb := nx_b sd
  rw [chk_f (nI_ne0 m0 (by omega)), e, gI_pIs, pk_rem (by omega) m0 (by omega)]
theorem falls_c {M : MM} {a sd : Nat} {rk : Int32} (h : gI M a 0 = nI sd) (hs : sd ≤ 65536) (hr : ¬ rk ≤ 0) : f_X1_falls M a rk = some (if rk ≤ nI (nx sd % 100) then 0 else 1, pI M a 0 (nI (nx sd))) := by
  unfold f_X1_falls
  have hb := nx_b sd
  rw [if_neg hr, draw_c h hs, ob_s]
  show (if rk ≤ nI (nx sd) - nI (nx sd) / 100 * 100 then _ else _) = _
  rw [show (100 : Int32) = nI 100 from rfl, pk_rem (by omega) (by omega) (by omega)]
  split <;> rfl
def layS (k g ten : Nat) : Int32 := if tenS k g 0 ≤ nI ten then (if tenS k g 0 + tenS k g 1 ≤ nI ten then 2 else 1) else 0
theorem layS_3 (k g ten : Nat) : ∃ l, l < 3 ∧ layS k g ten = nI l := by
  unfold layS
  split
  · split
    · exact ⟨2, by omega, rfl⟩
    · exact ⟨1, by omega, rfl⟩
  · exact ⟨0, by omega, rfl⟩
theorem laid_c {M : MM} {a b sd kd : Nat} {s : Int32} (h : gI M a 0 = nI sd) (hs : sd ≤ 65536) (hb : b ≠ a) (hk : gI M b 0 = nI kd) (h4 : kd < 4) : f_X1_laid M a b s = some (layS kd (grd s) (nx sd % 10), pI M a 0 (nI (nx sd))) := by
  unfold f_X1_laid layS
  have hn := nx_b sd
  have hk' : gI (pI M a 0 (nI (nx sd))) b 0 = nI kd := by rw [gI_pIa hb]; exact hk
  rw [draw_c h hs, ob_s]
  show ob (f_X10_tenths (pI M a 0 (nI (nx sd))) b s 0) _ = _
  rw [show (0 : Int32) = nI 0 from rfl, tenths_c hk' h4 (by omega), ob_s]
  show (if tenS kd (grd s) 0 ≤ nI (nx sd) - nI (nx sd) / 10 * 10 then _ else _) = _
  rw [show (10 : Int32) = nI 10 from rfl, pk_rem (by omega) (by omega) (by omega)]
  split
  · show ob (f_X10_tenths (pI M a 0 (nI (nx sd))) b s 1) _ = _
    rw [show (1 : Int32) = nI 1 from rfl, tenths_c hk' h4 (by omega), ob_s]
    split <;> rfl
  · rfl
/-- a move that goes on, in the journey a -/
def JC (C R : MM) (a sd st w r pe pl : Nat) (mi Wd : Int32) : Prop := (gI C a 0 = nI sd ∧ gI C a 2 = 1 ∧ gI C a 3 = nI pe ∧ gI C a 4 = nI st ∧ gI C a 5 = nI w ∧ gI C a 6 = nI r ∧ gI C a 7 = nI pl ∧ gI C a 8 = mi ∧ gI C a 9 = Wd * nI pl ∧ gI C a 10 = -2) ∧
  gI R 118 16 = nI sd ∧ gI R 118 17 = nI st ∧ gI R 118 18 = nI w ∧ gI R 118 19 = nI r ∧ gI R 118 20 = nI pe ∧ gI R 118 22 = nI pl ∧ gI R 118 23 = mi ∧ gI R 118 24 = -2
/-- what a step leaves -/
def JP (C R C' R' : MM) (a h pl : Nat) (Wd : Int32) (t : Nat) : Prop := ∃ sd' pl' : Nat, ∃ mi' li : Int32, C'.2 = C.2 ∧ R'.2 = R.2 ∧ (∀ b k, b ≠ a ∨ k = 1 ∨ (3 ≤ k ∧ k ≤ 6) → gI C' b k = gI C b k) ∧ (∀ b k, b ≠ 118 ∨ (k ≠ 16 ∧ k ≠ 22 ∧ k ≠ 23 ∧ k ≠ 24) → gI R' b k = gI R b k) ∧
  (1 ≤ t ∧ t ≤ 5) ∧ sd' ≤ 65536 ∧ (gI C' a 0 = nI sd' ∧ gI C' a 2 = nI t ∧ gI C' a 7 = nI pl' ∧ gI C' a 8 = mi' ∧ gI C' a 9 = Wd * nI (if t = 3 then pl' + 1 else pl') ∧ gI C' a 10 = li) ∧ (gI R' 118 16 = nI sd' ∧ gI R' 118 22 = nI pl' ∧ gI R' 118 23 = mi' ∧ gI R' 118 24 = li) ∧
  ((t = 3 ∧ ∃ l, l < 3 ∧ li = nI l) ∨ (t ≠ 3 ∧ li = -2)) ∧ (t = 2 → pl' = h) ∧ (t ≠ 2 → pl' < h) ∧ (t = 1 → pl' = pl + 1)
theorem mul_suc (x : Int32) (p : Nat) : x * nI p + x = x * nI (p + 1) := by
  rw [← nI_1 p, Int32.mul_add, Int32.mul_one]
/-- the end of a step that went well -/
theorem tail_c {M : MM} {a b pl h : Nat} (hb : b ≠ a) (h7 : gI M a 7 = nI pl) (h1 : gI M b 1 = nI h) (hp : pl < h) (h6 : h ≤ 6) :
    (if (gI (pI M a 7 ((gI M a 7) + 1)) b 1) ≤ (gI (pI M a 7 ((gI M a 7) + 1)) a 7) then (some (gI (pI (pI M a 7 ((gI M a 7) + 1)) a 2 2) a 2, pI (pI M a 7 ((gI M a 7) + 1)) a 2 2)) else (some (gI (pI (pI M a 7 ((gI M a 7) + 1)) a 2 1) a 2, pI (pI M a 7 ((gI M a 7) + 1)) a 2 1))) = some (nI (if pl + 1 = h then 2 else 1), pI (pI M a 7 (nI (pl + 1))) a 2 (nI (if pl + 1 = h then 2 else 1))) := by
  rw [h7, nI_1 pl, gI_pIa hb, h1, gI_pIs, gI_pIs, gI_pIs]
  by_cases q : pl + 1 = h
  · rw [if_pos q, if_pos (nI_le (by omega) (by omega))]; rfl
  · rw [if_neg q, if_neg (nI_ge (by omega) (by omega))]; rfl
theorem tail_r {M : MM} {j pl h r : Nat} {D : DT} (hj : RI M j D) (hr : r < 3) (k19 : gI M 118 19 = nI r) (k22 : gI M 118 22 = nI pl) (hh : D 5 r = nI h) (hp : pl < h) (h6 : h ≤ 6) :
    (oc (gR (pI M 118 22 ((gI M 118 22) + 1)) 118 3) (none) (fun b19 => oc (gR (pI M 118 22 ((gI M 118 22) + 1)) b19 13) none (fun b20 => chk (gI (pI M 118 22 ((gI M 118 22) + 1)) 118 19 < 0 ∨ 3 ≤ ix (gI (pI M 118 22 ((gI M 118 22) + 1)) 118 19)) (if (gI (pI M 118 22 ((gI M 118 22) + 1)) 118 22) = (gI (pI M 118 22 ((gI M 118 22) + 1)) b20 (ix (gI (pI M 118 22 ((gI M 118 22) + 1)) 118 19))) then (some ((2 : Int32), pI M 118 22 ((gI M 118 22) + 1))) else (some (1, pI M 118 22 ((gI M 118 22) + 1))))))) = some (nI (if pl + 1 = h then 2 else 1), pI M 118 22 (nI (pl + 1))) := by
  have hj2 : RI (pI M 118 22 (nI (pl + 1))) j D := hj.put (by decide)
  rw [k22, nI_1 pl, hj2.j, oc_x, hj2.s.k13, oc_x, gI_pIk (show 19 ≠ 22 by decide), k19, chk_n hr (by decide), ix_n (by omega), hj2.d 5 r (by decide), hh, gI_pIs]
  by_cases q : pl + 1 = h
  · rw [if_pos q, if_pos (by rw [q])]; rfl
  · rw [if_neg q, if_neg (fun z => q ((nI_eq (by omega) (by omega)).mp z))]; rfl
theorem adv_p {C R : MM} {ic j a sd st w r pe pl h kd : Nat} {D : DT} {n : Nat → Nat} {mi : Int32} (hi : 14 ≤ ic) (hc : CI C ic D n) (hj : RI R j D) (ha : a = 12 ∨ a = 13) (hst : st < n 2) (hw : w < n 0) (hr : r < n 1) (hpe : 1 ≤ pe ∧ pe ≤ 200) (hsd : sd ≤ 65536) (hh : D 5 r = nI h) (h6 : h ≤ 6) (kd4 : kd < 4) (hkd : D 1 w = nI kd) (hpl : pl < h) (hJ : JC C R a sd st w r pe pl mi (stv 3 kd * D 7 st)) :
    ∃ t C' R', f_X1_advance C a ic = some (nI t, C') ∧ f_X13_steps R 118 = some (nI t, R') ∧ JP C R C' R' a h pl (stv 3 kd * D 7 st) t := by
  obtain ⟨⟨j0, j2, j3, j4, j5, j6, j7, j8, j9, j10⟩, k16, k17, k18, k19, k20, k22, k23, k24⟩ := hJ
  have ew := EWk hc hw
  have es := hc.ce.2.2.1 st hst
  have er := hc.ce.2.1 r hr
  have t10 : st < 10 := Nat.lt_of_lt_of_le hst hc.nb.2.2.1
  have r3 : r < 3 := Nat.lt_of_lt_of_le hr hc.nb.2.1
  obtain ⟨-, p, p1, p2, hp⟩ := hc.vd.1 w hw
  have ha14 : a < 14 := by omega
  have hq : ¬ nI pe ≤ 0 := nI_nle (by omega) (by omega)
  have hnx := nx_b sd
  have hnx2 := nx_b (nx sd)
  have s0 : f_X3_slopeAt C (ic + (13 + 2 * r)) (nI pl) = some (D 6 (6 * r + pl)) := slopeC hc hr hh hpl h6
  unfold f_X1_advance f_X13_steps
  rw [j4, hc.s hst, ob_s, oc_x, j5, hc.w hw, ob_s, oc_x, j6, hc.r hr, ob_s, oc_x, j7, s0, ob_s, carries_c, ob_s, ew.2.1, es.1, es.2.1, es.2.2.1]
  rw [hj.j, oc_x, k19, k22, slopeAt_r hj r3 (by omega), ob_s, k18, k17, canBy_r hj ew.1 t10, ob_s]
  generalize D 6 (6 * r + pl) = s
  by_cases hz : canS (D 1 w) (D 7 st) (D 8 st) (D 9 st) s = 0
  · rw [if_pos hz, if_pos hz, gI_pIs]
    refine ⟨4, _, _, rfl, rfl, sd, pl, mi, -2, rfl, rfl, fun b k hb => gI_pIn (by omega), fun b k _ => rfl, by omega, hsd, ?_, ⟨k16, k22, k23, k24⟩, Or.inr ⟨by omega, rfl⟩, by omega, fun _ => hpl, by omega⟩
    simp (disch := omega) only [gI_pIs, gI_pIn]
    exact ⟨j0, rfl, j7, j8, j9, j10⟩
  · rw [if_neg hz, if_neg hz, oc_x, hj.s.k15, oc_x, chk_n t10 (by decide), ix_n (show st < 2147483648 by omega), hj.d 7 st (by decide), hands_c (ew.2.1.trans hkd) kd4 (ew.2.2.2.trans hp) p1 p2, ob_s, needBy_r hj ew.1 hkd kd4 hp p1 p2, ob_s, j3, k20]
    by_cases hn : needS kd (nI p) (D 7 st) s ≤ nI pe
    · rw [if_pos hn, if_pos hn, duration_c (ew.2.1.trans hkd) kd4 (ew.2.2.2.trans hp) p1 p2 hq, ob_s, minutesBy_r hj ew.1 hkd kd4 hq, ob_s, j8, k23]
      generalize durS kd (needS kd (nI p) (D 7 st) s) (nI pe) = du
      have hc1 := put14 hc hi ha14 8 (mi + du)
      rw [woodFor_c ((EWk hc1 hw).2.1.trans hkd) kd4, ob_s, (hc1.ce.2.2.1 st hst).1, gI_pIk (show 9 ≠ 8 by decide), j9, mul_suc]
      have hc2 := put14 hc1 hi ha14 9 (stv 3 kd * D 7 st * nI (pl + 1))
      rw [risk_c ((EWk hc2 hw).2.1.trans hkd) kd4, ob_s, (hc2.ce.2.2.1 st hst).2.2.1]
      have hj1 : RI (pI R 118 23 (mi + du)) j D := hj.put (by decide)
      rw [gI_pIk (show 18 ≠ 23 by decide), k18, gI_pIk (show 17 ≠ 23 by decide), k17, chanceBy_r hj1 ew.1 t10 hkd kd4, ob_s]
      generalize riskS kd (D 9 st) s = rk
      have e0 : gI (pI (pI C a 8 (mi + du)) a 9 (stv 3 kd * D 7 st * nI (pl + 1))) a 0 = nI sd := by
        rw [gI_pIk (by decide), gI_pIk (by decide)]; exact j0
      have e7 : gI (pI (pI C a 8 (mi + du)) a 9 (stv 3 kd * D 7 st * nI (pl + 1))) a 7 = nI pl := by
        rw [gI_pIk (by decide), gI_pIk (by decide)]; exact j7
      have eb : ic + (13 + 2 * r) ≠ a := by omega
      have ebw : ic + (9 + w) ≠ a := by omega
      have e1 : gI (pI (pI C a 8 (mi + du)) a 9 (stv 3 kd * D 7 st * nI (pl + 1))) (ic + (13 + 2 * r)) 1 = nI h := by
        rw [gI_pIa eb, gI_pIa eb, er.2.1]; exact hh
      have f16 : gI (pI R 118 23 (mi + du)) 118 16 = nI sd := by rw [gI_pIk (by decide)]; exact k16
      have f19 : gI (pI R 118 23 (mi + du)) 118 19 = nI r := by rw [gI_pIk (by decide)]; exact k19
      have f22 : gI (pI R 118 23 (mi + du)) 118 22 = nI pl := by rw [gI_pIk (by decide)]; exact k22
      have htt : ∀ q : Nat, q = (if pl + 1 = h then 2 else 1) → (1 ≤ q ∧ q ≤ 5) ∧ q ≠ 3 ∧ (q = 2 → pl + 1 = h) ∧ (q ≠ 2 → pl + 1 < h) ∧ (if q = 3 then pl + 1 + 1 else pl + 1) = pl + 1 := by
        intro q hq
        by_cases z : pl + 1 = h
        · rw [if_pos z] at hq; subst hq; exact ⟨by omega, by omega, fun _ => z, by omega, by simp⟩
        · rw [if_neg z] at hq; subst hq; exact ⟨by omega, by omega, by omega, by omega, by simp⟩
      by_cases hk : rk ≤ 0
      · have hf : f_X1_falls (pI (pI C a 8 (mi + du)) a 9 (stv 3 kd * D 7 st * nI (pl + 1))) a rk = some (0, pI (pI C a 8 (mi + du)) a 9 (stv 3 kd * D 7 st * nI (pl + 1))) := by
          unfold f_X1_falls
          rw [if_pos hk]
        rw [hf, ob_s, if_pos rfl, tail_c eb e7 e1 hpl h6, if_pos hk, tail_r hj1 r3 f19 f22 hh hpl h6]
        obtain ⟨g1, g2, g3, g4, g5⟩ := htt _ rfl
        refine ⟨_, _, _, rfl, rfl, sd, pl + 1, mi + du, -2, rfl, rfl, fun b k hb => ?_, fun b k hb => ?_, g1, hsd, ?_, ?_, Or.inr ⟨g2, rfl⟩, g3, g4, fun _ => rfl⟩
        · simp (disch := omega) only [gI_pIn]
        · simp (disch := omega) only [gI_pIn]
        · rw [g5]
          simp (disch := omega) only [gI_pIs, gI_pIn]
          exact ⟨j0, trivial, trivial, trivial, trivial, j10⟩
        · simp (disch := omega) only [gI_pIs, gI_pIn]
          exact ⟨k16, trivial, trivial, k24⟩
      · rw [falls_c e0 hsd hk, ob_s, if_neg hk, show (100 : Int32) = nI 100 from rfl, drawn_r f16 hsd (by omega) (by omega), ob_s]
        dsimp only
        by_cases hfl : rk ≤ nI (nx sd % 100)
        · rw [if_pos hfl, if_pos rfl, if_pos hfl]
          have e7' : gI (pI (pI (pI C a 8 (mi + du)) a 9 (stv 3 kd * D 7 st * nI (pl + 1))) a 0 (nI (nx sd))) a 7 = nI pl := by rw [gI_pIk (by decide)]; exact e7
          have e1' : gI (pI (pI (pI C a 8 (mi + du)) a 9 (stv 3 kd * D 7 st * nI (pl + 1))) a 0 (nI (nx sd))) (ic + (13 + 2 * r)) 1 = nI h := by rw [gI_pIa eb]; exact e1
          have f19' : gI (pI (pI R 118 23 (mi + du)) 118 16 (nI (nx sd))) 118 19 = nI r := by rw [gI_pIk (by decide)]; exact f19
          have f22' : gI (pI (pI R 118 23 (mi + du)) 118 16 (nI (nx sd))) 118 22 = nI pl := by rw [gI_pIk (by decide)]; exact f22
          rw [tail_c eb e7' e1' hpl h6, tail_r (hj1.put (by decide)) r3 f19' f22' hh hpl h6]
          obtain ⟨g1, g2, g3, g4, g5⟩ := htt _ rfl
          refine ⟨_, _, _, rfl, rfl, nx sd, pl + 1, mi + du, -2, rfl, rfl, fun b k hb => ?_, fun b k hb => ?_, g1, hnx, ?_, ?_, Or.inr ⟨g2, rfl⟩, g3, g4, fun _ => rfl⟩
          · simp (disch := omega) only [gI_pIn]
          · simp (disch := omega) only [gI_pIn]
          · rw [g5]
            simp (disch := omega) only [gI_pIs, gI_pIn]
            exact ⟨trivial, trivial, trivial, trivial, trivial, j10⟩
          · simp (disch := omega) only [gI_pIs, gI_pIn]
            exact ⟨trivial, trivial, trivial, k24⟩
        · rw [if_neg hfl, if_neg (show ¬ (1 : Int32) = 0 by decide), if_neg hfl]
          have c0 : gI (pI (pI (pI (pI C a 8 (mi + du)) a 9 (stv 3 kd * D 7 st * nI (pl + 1))) a 0 (nI (nx sd))) a 2 3) a 0 = nI (nx sd) := by rw [gI_pIk (by decide), gI_pIs]
          have ck : gI (pI (pI (pI (pI C a 8 (mi + du)) a 9 (stv 3 kd * D 7 st * nI (pl + 1))) a 0 (nI (nx sd))) a 2 3) (ic + (9 + w)) 0 = nI kd := by rw [gI_pIa ebw, gI_pIa ebw, gI_pIa ebw, gI_pIa ebw, ew.2.1]; exact hkd
          have r16 : gI (pI (pI R 118 23 (mi + du)) 118 16 (nI (nx sd))) 118 16 = nI (nx sd) := gI_pIs _ _ _ _
          have hj3 : RI (pI (pI (pI R 118 23 (mi + du)) 118 16 (nI (nx sd))) 118 16 (nI (nx (nx sd)))) j D := (hj1.put (by decide)).put (by decide)
          have r18 : gI (pI (pI (pI R 118 23 (mi + du)) 118 16 (nI (nx sd))) 118 16 (nI (nx (nx sd)))) 118 18 = nI w := by rw [gI_pIk (by decide), gI_pIk (by decide), gI_pIk (by decide)]; exact k18
          rw [laid_c c0 hnx ebw ck kd4, ob_s, show (10 : Int32) = nI 10 from rfl, drawn_r r16 hnx (by omega) (by omega), ob_s]
          dsimp only
          rw [r18, show (0 : Int32) = nI 0 from rfl, tenths_r hj3 ew.1 hkd kd4 (by omega), ob_s, show (1 : Int32) = nI 1 from rfl, tenths_r hj3 ew.1 hkd kd4 (by omega), ob_s, gI_pIk (show 2 ≠ 10 by decide), gI_pIk (show 2 ≠ 0 by decide), gI_pIs]
          obtain ⟨l, l3, hl⟩ := layS_3 kd (grd s) (nx (nx sd) % 10)
          have el : (if tenS kd (grd s) 0 ≤ nI (nx (nx sd) % 10) then (if tenS kd (grd s) 0 + tenS kd (grd s) (1) ≤ nI (nx (nx sd) % 10) then some ((3 : Int32), pI (pI (pI (pI R 118 23 (mi + du)) 118 16 (nI (nx sd))) 118 16 (nI (nx (nx sd)))) 118 24 2) else some (3, pI (pI (pI (pI R 118 23 (mi + du)) 118 16 (nI (nx sd))) 118 16 (nI (nx (nx sd)))) 118 24 (nI 1))) else some (3, pI (pI (pI (pI R 118 23 (mi + du)) 118 16 (nI (nx sd))) 118 16 (nI (nx (nx sd)))) 118 24 (nI 0))) = some (3, pI (pI (pI (pI R 118 23 (mi + du)) 118 16 (nI (nx sd))) 118 16 (nI (nx (nx sd)))) 118 24 (layS kd (grd s) (nx (nx sd) % 10))) := by
            unfold layS
            split
            · split <;> rfl
            · rfl
          rw [el, hl]
          refine ⟨3, _, _, rfl, rfl, nx (nx sd), pl, mi + du, nI l, rfl, rfl, fun b k hb => ?_, fun b k hb => ?_, by omega, hnx2, ?_, ?_, Or.inl ⟨rfl, l, l3, rfl⟩, by omega, fun _ => hpl, by omega⟩
          · simp (disch := omega) only [gI_pIn]
          · simp (disch := omega) only [gI_pIn]
          · simp (disch := omega) only [gI_pIs, gI_pIn, if_true]
            exact ⟨trivial, rfl, j7, trivial, trivial, trivial⟩
          · simp (disch := omega) only [gI_pIs, gI_pIn]
            exact ⟨trivial, k22, trivial, trivial⟩
    · rw [if_neg hn, if_neg hn, gI_pIs]
      refine ⟨5, _, _, rfl, rfl, sd, pl, mi, -2, rfl, rfl, fun b k hb => gI_pIn (by omega), fun b k _ => rfl, by omega, hsd, ?_, ⟨k16, k22, k23, k24⟩, Or.inr ⟨by omega, rfl⟩, by omega, fun _ => hpl, by omega⟩
      simp (disch := omega) only [gI_pIs, gI_pIn]
      exact ⟨j0, rfl, j7, j8, j9, j10⟩
