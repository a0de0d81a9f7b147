/-! THE LINES, on: a road's slopes, side by side -/
theorem isSlope_r (R : MM) : f_X13_isSlope R 118 = some (if wsel R 6 = -1 then 0 else 1) := by
  unfold f_X13_isSlope
  rw [isWord_r R (show 40 < 57 by decide), isWord_r R (show 41 < 57 by decide), ob_s, ob_s]
  unfold wsel
  rw [W6]
  by_cases q : gI R 118 9 = 2
  · simp only [if_pos q, idx]
    by_cases q1 : cd 40 = gL R 118 15
    · simp only [if_pos q1]; rfl
    · by_cases q2 : cd 41 = gL R 118 15
      · simp only [if_neg q1, if_pos q2]; rfl
      · simp only [if_neg q1, if_neg q2]; rfl
  · simp only [if_neg q]; rfl
theorem road_ds {jr n sp i : Nat} {R : MM} (hs : 14 ≤ sp) (hi : i < 3) {d k f : Nat} (hk : k + 1 + d = 7) (hf : d < f) {C : MM} (hF : RF C R jr) (hD : DE C R n) (hI : IS C sp) {h : Nat} (h6 : h ≤ 6) (eh : gI C (sp + (13 + 2 * i)) 1 = nI h) (v : Int32) :
    ∃ C', ob (f_X3_add C (sp + (13 + 2 * i)) v) (fun z8 => ob (f_X2_passes z8 4 44) (fun z9 => f_X2_readRoad_L34 f z9.2 4 (sp + (13 + 2 * i)) z9.1 (nI k + 1))) = some C' ∧ KC C C' sp ∧ DE C' R n := by
  have ad := add3 v (hI.sl i hi) eh h6 (by omega)
  obtain ⟨C2, eC2⟩ : ∃ C2, C2 = (if h < 6 then pI (pI C (sp + (14 + 2 * i)) h v) (sp + (13 + 2 * i)) 1 (nI (h + 1)) else C) := ⟨_, rfl⟩
  rw [← eC2] at ad
  have k2 : KC C C2 sp ∧ DE C2 R n ∧ C2.2.2 = C.2.2 ∧ ∃ h', h' ≤ 6 ∧ gI C2 (sp + (13 + 2 * i)) 1 = nI h' := by
    rw [eC2]
    by_cases q : h < 6
    · rw [if_pos q]
      exact ⟨((KC.rf C sp).pI (by omega) _ _).pI (by omega) _ _, (hD.put (by omega) _ _).put (by omega) _ _, rfl, h + 1, by omega, gI_pIs _ _ _ _⟩
    · rw [if_neg q]
      exact ⟨KC.rf C sp, hD, rfl, h, h6, eh⟩
  obtain ⟨k2, d2, e2, h', h6', eh'⟩ := k2
  have hF2 : RF C2 R jr := hF.congr e2 rfl
  obtain ⟨C3, v3, a3, p3, d3⟩ := d_passes hF2 d2 (x := 44) (Or.inr rfl)
  obtain ⟨C', b1, b2, b3⟩ := road_de hs hi d (k + 1) v3 C3 f (by omega) hf (hF2.congr p3.1 rfl) d3 ((hI.congr k2.1).congr p3.1) ⟨h', h6', (p3.e _ _ (by omega)).trans eh'⟩
  refine ⟨C', ?_, (k2.tr (p3.q.k sp)).tr b2, b3⟩
  rw [ad, ob_s, a3, ob_s, nI_1 k]
  exact b1
/-- what a road's loop leaves -/
def RO (C R C' R' : MM) (sp jr i : Nat) : Prop := (∀ a j, 8 ≤ a → a ≠ sp + (13 + 2 * i) → a ≠ sp + (14 + 2 * i) → gI C' a j = gI C a j) ∧ gI C' (sp + (13 + 2 * i)) 0 = gI C (sp + (13 + 2 * i)) 0 ∧ (∀ a j, jr ≤ a → (a ≠ jr ∨ j ≠ 8) → a < jr + 29 → (a ≠ jr + 6 ∨ j < 6 * i) → gI R' a j = gI R a j) ∧ ∀ nn t, NM C R jr nn t → NM C' R' jr nn t
theorem road_al {jr n sp i : Nat} (hol : Int32) (hs : 14 ≤ sp) (hi : i < 3) : ∀ (d k s : Nat) (C R : MM) (f1 f2 : Nat), k + d = 6 → d + 1 < f1 → d + 1 < f2 → RF C R jr → AL C R n s → IS C sp → gI C (sp + (13 + 2 * i)) 1 = nI k → (∀ p, p < k → gI C (sp + (14 + 2 * i)) p = gI R (jr + 6) (6 * i + p)) → gI R jr 1 = nI i →
    ∃ C' R', f_X2_readRoad_L34 f1 C 4 (sp + (13 + 2 * i)) 1 (nI k) = some C' ∧ KC C C' sp ∧ KR R R' jr ∧
      ((DE C' R' n ∧ f_X13_readRoad_L57_1 f2 R 118 hol (nI k) 1 = some R') ∨
       (RF C' R' jr ∧ RO C R C' R' sp jr i ∧ ∃ s' h f, s < s' ∧ 1 ≤ h ∧ h ≤ 6 ∧ AL C' R' n s' ∧ gI C' (sp + (13 + 2 * i)) 1 = nI h ∧ (∀ p, p < h → gI C' (sp + (14 + 2 * i)) p = gI R' (jr + 6) (6 * i + p)) ∧ 0 < f ∧ f_X13_readRoad_L57_1 f2 R 118 hol (nI k) 1 = f_X13_readRoad_L57_1 f R' 118 hol (nI h) 0)) := by
  intro d
  induction d with
  | zero =>
    intro k s C R f1 f2 hk g1 g2 hF hA hI eh hsl hr
    obtain ⟨f1, rfl⟩ := suc g1
    obtain ⟨f2, rfl⟩ := suc g2
    have hk6 : k = 6 := by omega
    subst hk6
    rw [f_X2_readRoad_L34, f_X13_readRoad_L57_1, if_neg (show ¬ (6 : Int32) < nI 6 by decide), if_neg (show ¬ (1 : Int32) = 0 by decide), if_neg (show ¬ (1 : Int32) = 0 by decide), if_pos (show nI 6 = (6 : Int32) from rfl), if_pos (show nI 6 = (6 : Int32) from rfl), hF.1, oc_x, hA.among (show 6 < 57 by decide), ob_s, isSlope_r, ob_s]
    by_cases e : wsel R 6 = -1
    · rw [if_pos e, if_pos e, if_pos rfl]
      obtain ⟨C1, v1, v1', R1, a1, a2, p1, p1', s1, z1, q1⟩ := p_slope hF (Or.inl hA)
      have D1 : DE C1 R1 n := z1.elim (fun z => absurd e (q1 z).2.2.2) id
      obtain ⟨C', b1, b2, b3⟩ := road_ds hs hi (d := 0) (k := 6) (f := f1) rfl (by omega) (hF.congr p1.1 p1'.1) D1 (hI.congr p1.1) (Nat.le_refl 6) ((p1.e _ _ (by omega)).trans eh) v1
      refine ⟨C', R1, ?_, (p1.q.k sp).tr b2, (p1'.q jr).k, Or.inl ⟨b3, ?_⟩⟩
      · rw [a1, ob_s]; exact b1
      · rw [a2, ob_s, if_pos D1.1]
    · rw [if_neg e, if_neg e, if_neg (show ¬ (1 : Int32) = 0 by decide)]
      obtain ⟨C0, R0, c1, c2, c3, c4, c5⟩ := p_fail hF (Or.inl hA) 5 (by decide)
      have hF0 := hF.congr c3.1 c4.1
      obtain ⟨C1, v1, a1, p1, D1⟩ := d_slope hF0 c5
      obtain ⟨C', b1, b2, b3⟩ := road_ds hs hi (d := 0) (k := 6) (f := f1) rfl (by omega) (hF0.congr p1.1 rfl) D1 ((hI.congr c3.1).congr p1.1) (Nat.le_refl 6) ((p1.e _ _ (by omega)).trans ((c3.e _ _ (by omega)).trans eh)) v1
      refine ⟨C', R0, ?_, ((c3.q.k sp).tr (p1.q.k sp)).tr b2, (c4.q jr).k, Or.inl ⟨b3, ?_⟩⟩
      · rw [c1, ob_s, a1, ob_s]; exact b1
      · rw [c2, ob_s, rslope_o c5.1, ob_s, if_pos c5.1]
  | succ d ih =>
    intro k s C R f1 f2 hk g1 g2 hF hA hI eh hsl hr
    obtain ⟨f1, rfl⟩ := suc g1
    obtain ⟨f2, rfl⟩ := suc g2
    have hj : 123 < jr := hF.2.2.2.2.2.2.2.2
    have hk6 : k < 6 := by omega
    have n6 : ¬ nI k = (6 : Int32) := fun z => absurd ((nI_eq (b := 6) (by omega) (by decide)).mp z) (by omega)
    rw [f_X2_readRoad_L34, f_X13_readRoad_L57_1, if_neg (show ¬ (6 : Int32) < nI k from nI_nlt (a := 6) (by omega) (by decide)), if_neg (show ¬ (1 : Int32) = 0 by decide), if_neg (show ¬ (1 : Int32) = 0 by decide), if_neg n6, if_neg n6]
    obtain ⟨C1, v1, v1', R1, a1, a2, p1, p1', s1, z1, q1⟩ := p_slope hF (Or.inl hA)
    have hF1 := hF.congr p1.1 p1'.1
    have hI1 := hI.congr p1.1
    have eh1 : gI C1 (sp + (13 + 2 * i)) 1 = nI k := (p1.e _ _ (by omega)).trans eh
    rw [a1, ob_s, a2, ob_s]
    rcases z1 with z1 | z1
    · obtain ⟨-, l1, i1, -⟩ := q1 z1
      have hr1 : gI R1 jr 1 = nI i := (p1'.e hj _ _ (by omega) (by omega) (by omega)).trans hr
      have ad := add3 v1 (hI1.sl i hi) eh1 (by omega) (by omega)
      rw [if_pos hk6] at ad
      rw [ad, ob_s, if_neg z1.ne5, hF1.2.2.2.2.2.1, oc_x, hF1.2.2.2.2.2.2.2.1.k14, oc_x, oc_x, hr1, show (6 : Int32) * nI i + nI k = nI (6 * i + k) by rw [show (6 : Int32) = nI 6 from rfl, pk_mul, nI_add], chk_n (show 6 * i + k < 18 by omega) (by decide), ix_n (by omega), nI_1 k]
      have A2 : AL (pI (pI C1 (sp + (14 + 2 * i)) k v1) (sp + (13 + 2 * i)) 1 (nI (k + 1))) (pI R1 (jr + 6) (6 * i + k) v1') n s1 := ((z1.put (by omega) _ _).put (by omega) _ _).putr (by omega) _ _
      have hF2 : RF (pI (pI C1 (sp + (14 + 2 * i)) k v1) (sp + (13 + 2 * i)) 1 (nI (k + 1))) (pI R1 (jr + 6) (6 * i + k) v1') jr := hF1.congr rfl rfl
      have kc2 : KC C (pI (pI C1 (sp + (14 + 2 * i)) k v1) (sp + (13 + 2 * i)) 1 (nI (k + 1))) sp := ((p1.q.k sp).pI (by omega) _ _).pI (by omega) _ _
      have kr2 : KR R (pI R1 (jr + 6) (6 * i + k) v1') jr := (p1'.q jr).k.pI (by omega) _ _
      have ro2 : RO C R (pI (pI C1 (sp + (14 + 2 * i)) k v1) (sp + (13 + 2 * i)) 1 (nI (k + 1))) (pI R1 (jr + 6) (6 * i + k) v1') sp jr i := by
        refine ⟨fun a j h1 h2 h3 => ?_, ?_, fun a j h1 h2 h3 h4 => ?_, fun nn t hN => ?_⟩
        · rw [gI_pIa h2, gI_pIa h3]; exact p1.e _ _ h1
        · rw [gI_pIk (by decide), gI_pIa (by omega)]; exact p1.e _ _ (by omega)
        · rw [gI_pIn (by omega)]; exact p1'.e hj _ _ h1 h2 h3
        · exact (((hN.go hj p1 p1').put (by omega) _ _).put (by omega) _ _).putr (by omega) (by omega) _
      have eh2 : gI (pI (pI C1 (sp + (14 + 2 * i)) k v1) (sp + (13 + 2 * i)) 1 (nI (k + 1))) (sp + (13 + 2 * i)) 1 = nI (k + 1) := gI_pIs _ _ _ _
      have sl2 : ∀ p, p < k + 1 → gI (pI (pI C1 (sp + (14 + 2 * i)) k v1) (sp + (13 + 2 * i)) 1 (nI (k + 1))) (sp + (14 + 2 * i)) p = gI (pI R1 (jr + 6) (6 * i + k) v1') (jr + 6) (6 * i + p) := by
        intro p hp
        rw [gI_pIa (by omega)]
        by_cases q : p = k
        · rw [q, gI_pIs, gI_pIs]; exact i1
        · rw [gI_pIk q, gI_pIk (by omega), p1.e _ _ (by omega), p1'.e hj _ _ (by omega) (by omega) (by omega)]
          exact hsl p (by omega)
      have hI2 : IS (pI (pI C1 (sp + (14 + 2 * i)) k v1) (sp + (13 + 2 * i)) 1 (nI (k + 1))) sp := hI1.congr rfl
      have hr2 : gI (pI R1 (jr + 6) (6 * i + k) v1') jr 1 = nI i := by rw [gI_pIa (by omega)]; exact hr1
      generalize pI (pI C1 (sp + (14 + 2 * i)) k v1) (sp + (13 + 2 * i)) 1 (nI (k + 1)) = C2 at *
      generalize pI R1 (jr + 6) (6 * i + k) v1' = R2 at *
      obtain ⟨C3, v3, v3', R3, b1, b2, p3, p3', b3⟩ := p_sign hF2 (Or.inl A2) (x := 44) (Or.inr rfl)
      rw [b1, ob_s, b2, ob_s]
      dsimp only
      rcases b3 with ⟨-, e1, e2, s3, l3, A3⟩ | ⟨-, e1, e2, e3, e4⟩ | ⟨D, -⟩
      · rw [e1, e2]
        obtain ⟨C', R', c1, c2, c3, c4⟩ := ih (k + 1) s3 C3 R3 f1 f2 (by omega) (by omega) (by omega) (hF2.congr p3.1 p3'.1) A3 (hI2.congr p3.1) ((p3.e _ _ (by omega)).trans eh2) (fun p hp => by rw [p3.e _ _ (by omega), p3'.e hj _ _ (by omega) (by omega) (by omega)]; exact sl2 p hp) ((p3'.e hj _ _ (by omega) (by omega) (by omega)).trans hr2)
        refine ⟨C', R', c1, (kc2.tr (p3.q.k sp)).tr c2, (kr2.tr (p3'.q jr).k).tr c3, ?_⟩
        rcases c4 with ⟨c4, c5⟩ | ⟨c4, ⟨r1, r2, r3, r4⟩, s', h, f, c5, c6, c7, c8, c9, c10, c11, c12⟩
        · exact Or.inl ⟨c4, c5⟩
        · refine Or.inr ⟨c4, ⟨fun a j h1 h2 h3 => (r1 a j h1 h2 h3).trans ((p3.e _ _ h1).trans (ro2.1 a j h1 h2 h3)), r2.trans ((p3.e _ _ (by omega)).trans ro2.2.1), fun a j h1 h2 h3 h4 => (r3 a j h1 h2 h3 h4).trans ((p3'.e hj _ _ h1 h2 h3).trans (ro2.2.2.1 a j h1 h2 h3 h4)), fun nn t hN => r4 nn t ((ro2.2.2.2 nn t hN).go hj p3 p3')⟩, s', h, f, by omega, c6, c7, c8, c9, c10, c11, c12⟩
      · rw [e1, e2, e3, e4]
        obtain ⟨f1', ef1⟩ := suc (show 0 < f1 by omega)
        refine ⟨C2, R2, ?_, kc2, kr2, Or.inr ⟨hF2, ro2, s1, k + 1, f2, l1, by omega, by omega, A2, eh2, sl2, by omega, rfl⟩⟩
        rw [ef1, f_X2_readRoad_L34, if_pos rfl, ite_self]
      · exact (D.no A2).elim
    · obtain ⟨C', b1, b2, b3⟩ := road_ds hs hi (d := d + 1) (k := k) (f := f1) (by omega) (by omega) hF1 z1 hI1 (show k ≤ 6 by omega) eh1 v1
      refine ⟨C', R1, b1, (p1.q.k sp).tr b2, (p1'.q jr).k, Or.inl ⟨b3, ?_⟩⟩
      rw [if_pos z1.1]

