/-! THE LINES, on: what a teller means, side by side -/
theorem pop_lt : ∀ m, m < 16 → pop m ≤ 4 := by decide +kernel
theorem tell_al {jr n sp b t : Nat} {nn : Nat → Nat} (hb : sp ≤ b ∧ b < sp + 52) (hs : 14 ≤ sp) (hn : nn 0 ≤ 4) : ∀ (d k m s : Nat) (C R : MM) (f1 f2 : Nat), k + d = 4 → d + 1 < f1 → d + 1 < f2 → RF C R jr → AL C R n s → NM C R jr nn t → gI C b 1 = nI m → m < 16 → pop m = k →
    ∃ C' R', KC C C' sp ∧ KR R R' jr ∧
      ((DE C' R' n ∧ f_X2_readTeller_L34 f1 C 4 b 1 (nI k) = some C' ∧ f_X13_readTeller_L59_1 f2 R 118 (nI m) 1 = some R') ∨
       (RF C' R' jr ∧ (∀ a j, 8 ≤ a → a ≠ b → gI C' a j = gI C a j) ∧ EJ R' R jr ∧ NM C' R' jr nn t ∧ ∃ s' m' f, s < s' ∧ AL C' R' n s' ∧ gI C' b 1 = nI m' ∧ 0 < f ∧ f_X2_readTeller_L34 f1 C 4 b 1 (nI k) = ob (f_X7_among C' 2 23) (fun z => if z = -1 then some (pI C' b 0 0) else f_X7_advance (pI C' b 0 1) 2) ∧ f_X13_readTeller_L59_1 f2 R 118 (nI m) 1 = f_X13_readTeller_L59_1 f R' 118 (nI m') 0)) := by
  intro d
  induction d using Nat.strongRecOn with
  | ind d ih =>
    intro k m s C R f1 f2 hk g1 g2 hF hA hN em hm hp
    obtain ⟨f1, rfl⟩ := suc g1
    obtain ⟨f2, rfl⟩ := suc g2
    have hj : 123 < jr := hF.2.2.2.2.2.2.2.2
    rw [f_X2_readTeller_L34, f_X13_readTeller_L59_1, if_neg (show ¬ (4 : Int32) < nI k from nI_nlt (a := 4) (by omega) (by decide)), if_neg (show ¬ (1 : Int32) = 0 by decide), if_neg (show ¬ (1 : Int32) = 0 by decide)]
    obtain ⟨C1, v, v', R1, a1, a2, p1, p1', o1⟩ := p_told (c := 0) hF (Or.inl hA) hN.nc hN.nr (fun _ => hN) (by decide)
    have a1' : f_X2_toldName C 4 0 = some (v, C1) := a1
    have a2' : f_X13_known R 118 0 = some (v', R1) := a2
    have hF1 := hF.congr p1.1 p1'.1
    unfold f_X2_readMeant
    rw [a1', ob_s, a2', ob_s]
    dsimp only
    -- stopped inside: the class goes on
    have stopped : ∀ (Ca Ra : MM), RF Ca Ra jr → DE Ca Ra n → NC Ca → NR Ra jr → KC C Ca sp → KR R Ra jr → ∀ (o : Option MM), o = some Ca → ∃ C', ob o (fun z24 => ob (f_X2_passes z24 4 44) (fun z25 => f_X2_readTeller_L34 f1 z25.2 4 b z25.1 (nI k + 1))) = some C' ∧ KC C C' sp ∧ DE C' Ra n := by
      intro Ca Ra FA DA nA rA kA kB o eo
      obtain ⟨C3, v3, a3, p3, d3⟩ := d_passes FA DA (x := 44) (Or.inr rfl)
      obtain ⟨C', b1, b2, b3⟩ := tell_de hb hs rA d (k + 1) v3 C3 f1 (by omega) (by omega) (FA.congr p3.1 rfl) d3 (nA.go p3)
      exact ⟨C', by rw [eo, ob_s, a3, ob_s, nI_1 k]; exact b1, (kA.tr (p3.q.k sp)).tr b2, b3⟩
    rcases o1 with ⟨-, e1, e2, ty, ev, w, hw, evw⟩ | ⟨D1, e0⟩
    · have e1s := e1.symm
      subst e1s
      have e2s := e2.symm
      subst e2s
      have w4 : w < 4 := by omega
      rw [ev, evw]
      have hme : f_X8_means C b (nI w) = some (if (nI m >>> (nI w &&& 31)) &&& 1 = 1 then 1 else 0) := by
        unfold f_X8_means
        rw [if_neg (nneg (by omega)), em]
        by_cases hq : (nI m >>> (nI w &&& 31)) &&& 1 = 1
        · rw [if_pos hq, if_pos hq]
        · rw [if_neg hq, if_neg hq]
      have had : ∀ X : MM, gI X b 1 = nI m → f_X8_add X b (nI w) = some (pI X b 1 (nI m ||| ((1 : Int32) <<< (nI w &&& 31)))) := fun X hX => by
        unfold f_X8_add
        rw [if_neg (nneg (by omega)), hX]
      rw [hme]
      by_cases hbit : (nI m >>> (nI w &&& 31)) &&& 1 = 1
      · rw [if_pos hbit, if_pos hbit]
        obtain ⟨Cf, Rf, c1, c2, c3, c4, c5⟩ := p_fail hF (Or.inl hA) 3 (by decide)
        have hFf := hF.congr c3.1 c4.1
        have ef : gI Cf b 1 = nI m := (c3.e _ _ (by omega)).trans em
        obtain ⟨Ca, d1, d2, d3⟩ := de_adv (hFf.congr (C' := pI Cf b 1 (nI m ||| ((1 : Int32) <<< (nI w &&& 31)))) rfl rfl) (c5.put (a := b) (by omega) 1 _)
        obtain ⟨C', t1, t2, t3⟩ := stopped Ca Rf ((hFf.congr (C' := pI Cf b 1 (nI m ||| ((1 : Int32) <<< (nI w &&& 31)))) rfl rfl).congr d2.1 rfl) d3 (((hN.nc.go c3).put (a := b) (by omega) _ _).go d2) (hN.nr.go hj c4) (((c3.q.k sp).pI hb _ _).tr (d2.q.k sp)) (c4.q jr).k (some Ca) rfl
        refine ⟨C', Rf, t2, (c4.q jr).k, Or.inl ⟨t3, ?_, ?_⟩⟩
        · rw [ob_s, if_neg (show ¬ (1 : Int32) = 0 by decide), c1, ob_s, had Cf ef, ob_s, show gR (pI Cf b 1 (nI m ||| ((1 : Int32) <<< (nI w &&& 31)))) 4 0 = some 2 from hFf.1, oc_x, d1]
          exact t1
        · rw [c2, ob_s, goes_o c5.1, ob_s, if_pos c5.1]
      · rw [if_neg hbit, if_neg hbit]
        obtain ⟨m2, q1, q2, q3⟩ : ∃ m2, (nI m ||| ((1 : Int32) <<< (nI w &&& 31))) = nI m2 ∧ m2 < 16 ∧ pop m2 = pop m + 1 := ⟨m + 2 ^ w, bit_add m hm w w4 hbit⟩
        have hk4 : k < 4 := by
          rcases Nat.lt_or_ge k 4 with z | z
          · exact z
          · have := pop_lt m hm
            exact absurd (bit_all m hm w w4 (by omega)) hbit
        have A2 : AL (pI C b 1 (nI m2)) R n s := hA.put (by omega) _ _
        have F2 : RF (pI C b 1 (nI m2)) R jr := hF.congr rfl rfl
        obtain ⟨C3, R3, d1, d2, p3, p3', d3⟩ := p_adv F2 (Or.inl A2) (fun _ => by rw [gI_pIa (by omega), ty]; decide)
        have F3 := F2.congr p3.1 p3'.1
        rcases d3 with ⟨-, s3, -, l3, A3⟩ | ⟨D, -⟩
        · have l3' : s < s3 := l3 (by rw [gI_pIa (by omega), ty]; decide)
          have k3 : KC C C3 sp := ((KC.rf C sp).pI hb 1 (nI m2)).tr (p3.q.k sp)
          have x3 : ∀ a j, 8 ≤ a → a ≠ b → gI C3 a j = gI C a j := fun a j h1 h2 => (p3.e a j h1).trans (gI_pIa h2)
          have m3 : gI C3 b 1 = nI m2 := (p3.e _ _ (by omega)).trans (gI_pIs _ _ _ _)
          have n3 : NM C3 R3 jr nn t := (hN.put (a := b) (by omega) _ _).go hj p3 p3'
          rw [ob_s, if_pos rfl, had C em, q1, ob_s, show gR (pI C b 1 (nI m2)) 4 0 = some 2 from hF.1, oc_x, d1, ob_s, ob_s, d2, ob_s, if_neg A3.ne5]
          obtain ⟨C4, v4, v4', R4, b1, b2, p4, p4', b3⟩ := p_sign F3 (Or.inl A3) (x := 44) (Or.inr rfl)
          rw [b1, ob_s, b2, ob_s, nI_1 k]
          dsimp only
          rcases b3 with ⟨-, e1, e2, s4, l4, A4⟩ | ⟨-, e1, e2, e3, e4⟩ | ⟨D, -⟩
          · rw [e1, e2]
            obtain ⟨C', R', t1, t2, t3⟩ := ih (d - 1) (by omega) (k + 1) (m2) s4 C4 R4 f1 f2 (by omega) (by omega) (by omega) (F3.congr p4.1 p4'.1) A4 (n3.go hj p4 p4') ((p4.e _ _ (by omega)).trans m3) q2 (by omega)
            refine ⟨C', R', (k3.tr (p4.q.k sp)).tr t1, ((p3'.q jr).k.tr (p4'.q jr).k).tr t2, ?_⟩
            rcases t3 with t3 | ⟨u1, u2, u3, u4, s', m', f, u5, u6⟩
            · exact Or.inl t3
            · exact Or.inr ⟨u1, fun a j h1 h2 => (u2 a j h1 h2).trans ((p4.e a j h1).trans (x3 a j h1 h2)), u3.tr ((p4'.e hj).tr (p3'.e hj)), u4, s', m', f, by omega, u6⟩
          · rw [e1, e2, e3, e4]
            obtain ⟨f1', ef1⟩ := suc (show 0 < f1 by omega)
            refine ⟨C3, R3, k3, (p3'.q jr).k, Or.inr ⟨F3, x3, p3'.e hj, n3, s3, m2, f2, l3', A3, m3, by omega, ?_, rfl⟩⟩
            rw [ef1, tl_end F3.1 (by omega) (Or.inr rfl)]
          · exact (D.no A3).elim
        · exact (D.no A2).elim
    · obtain ⟨Ca, t1, t2, t3, t4⟩ := meant_de hb hs hF1 D1 v
      obtain ⟨C', u1, u2, u3⟩ := stopped Ca R1 (hF1.congr t2.1 rfl) t3 (t4 (hN.nc.go p1)) (hN.nr.go hj p1') ((p1.q.k sp).tr t2) (p1'.q jr).k _ t1
      refine ⟨C', R1, u2, (p1'.q jr).k, Or.inl ⟨u3, u1, ?_⟩⟩
      rw [wrong_o D1.1, ob_s, goes_o D1.1, ob_s, if_pos D1.1, ite_self]

