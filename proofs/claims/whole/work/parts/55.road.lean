/-! THE LINES, on: a road's slopes -/
theorem add3 {M : MM} {a r h : Nat} (x : Int32) (hr : gR M a 2 = some r) (hh : gI M a 1 = nI h) (h6 : h ≤ 6) (hra : r ≠ a) : f_X3_add M a x = some (if h < 6 then pI (pI M r h x) a 1 (nI (h + 1)) else M) := by
  unfold f_X3_add
  rw [hr, oc_x, hh]
  by_cases q : h < 6
  · rw [if_neg (show ¬ (6 : Int32) ≤ nI h from nI_ge (b := 6) q (by decide)), oc_x, chk_n q (by decide), ix_n (by omega), gI_pIa (fun z => hra z.symm), hh, nI_1 h, if_pos q]
  · rw [if_pos (show (6 : Int32) ≤ nI h from nI_le (a := 6) (by omega) (by omega)), if_neg q]
theorem d_passes {C R : MM} {jr n : Nat} (hF : RF C R jr) (hD : DE C R n) {x : Int32} (hx : x = 59 ∨ x = 44) : ∃ C' v, f_X2_passes C 4 x = some (v, C') ∧ PFc C C' ∧ DE C' R n := by
  obtain ⟨C', v, v', R', a1, a2, a3, a4, a5⟩ := p_sign (s := 0) hF (Or.inr hD) hx
  rcases a5 with ⟨z, -⟩ | ⟨z, -⟩ | ⟨-, d, -, e⟩
  · exact (hD.no z).elim
  · exact (hD.no z).elim
  · rw [e] at d
    exact ⟨C', v, a1, a3, d⟩
/-- a road's slopes, stopped: the class's loop goes on -/
theorem road_de {jr n sp i : Nat} {R : MM} (hs : 14 ≤ sp) (hi : i < 3) : ∀ (d k : Nat) (y : Int32) (C : MM) (f : Nat), k + d = 7 → d < f → RF C R jr → DE C R n → IS C sp → (∃ h, h ≤ 6 ∧ gI C (sp + (13 + 2 * i)) 1 = nI h) → ∃ C', f_X2_readRoad_L34 f C 4 (sp + (13 + 2 * i)) y (nI k) = some C' ∧ KC C C' sp ∧ DE C' R n := by
  intro d
  induction d with
  | zero =>
    intro k y C f hk hf hF hD hI hh
    obtain ⟨f, rfl⟩ := suc hf
    rw [f_X2_readRoad_L34, if_pos (show (6 : Int32) < nI k from nI_lt (a := 6) (by omega) (by omega))]
    exact ⟨C, rfl, KC.rf C sp, hD⟩
  | succ d ih =>
    intro k y C f hk hf hF hD hI hh
    obtain ⟨f, rfl⟩ := suc hf
    obtain ⟨h, h6, eh⟩ := hh
    obtain ⟨C1, v1, a1, p1, d1⟩ := d_slope hF hD
    have hF1 := hF.congr p1.1 rfl
    have eh1 : gI C1 (sp + (13 + 2 * i)) 1 = nI h := (p1.e _ _ (by omega)).trans eh
    have ad := add3 v1 ((hI.congr p1.1).sl i hi) eh1 h6 (by omega)
    obtain ⟨C2, eC2⟩ : ∃ C2, C2 = (if h < 6 then pI (pI C1 (sp + (14 + 2 * i)) h v1) (sp + (13 + 2 * i)) 1 (nI (h + 1)) else C1) := ⟨_, rfl⟩
    rw [← eC2] at ad
    have k2 : KC C C2 sp ∧ DE C2 R n ∧ C2.2.2 = C1.2.2 ∧ ∃ h', h' ≤ 6 ∧ gI C2 (sp + (13 + 2 * i)) 1 = nI h' := by
      rw [eC2]
      by_cases q : h < 6
      · rw [if_pos q]
        exact ⟨((p1.q.k sp).pI (by omega) _ _).pI (by omega) _ _, (d1.put (by omega) _ _).put (by omega) _ _, rfl, h + 1, by omega, gI_pIs _ _ _ _⟩
      · rw [if_neg q]
        exact ⟨p1.q.k sp, d1, rfl, h, h6, eh1⟩
    obtain ⟨k2, d2, e2, h', h6', eh'⟩ := k2
    have hF2 : RF C2 R jr := hF1.congr e2 rfl
    obtain ⟨C3, v3, a3, p3, d3⟩ := d_passes hF2 d2 (x := 44) (Or.inr rfl)
    obtain ⟨C', b1, b2, b3⟩ := ih (k + 1) v3 C3 f (by omega) (by omega) (hF2.congr p3.1 rfl) d3 ((hI.congr k2.1).congr p3.1) ⟨h', h6', (p3.e _ _ (by omega)).trans eh'⟩
    have step : ob (f_X2_readSlope C 4) (fun z7 => ob (f_X3_add z7.2 (sp + (13 + 2 * i)) z7.1) (fun z8 => ob (f_X2_passes z8 4 44) (fun z9 => f_X2_readRoad_L34 f z9.2 4 (sp + (13 + 2 * i)) z9.1 (nI k + 1)))) = some C' := by
      rw [a1, ob_s, ad, ob_s, a3, ob_s, nI_1 k]
      exact b1
    rw [f_X2_readRoad_L34, if_neg (show ¬ (6 : Int32) < nI k from nI_nlt (a := 6) (by omega) (by decide))]
    by_cases y0 : y = 0
    · rw [if_pos y0]
      exact ⟨C, rfl, KC.rf C sp, hD⟩
    · rw [if_neg y0]
      refine ⟨C', ?_, (k2.tr (p3.q.k sp)).tr b2, b3⟩
      rw [hF.1, oc_x, among_c C (show 6 < 57 by decide), ob_s, de_fail hD, ob_s, step, ite_self, ite_self]

