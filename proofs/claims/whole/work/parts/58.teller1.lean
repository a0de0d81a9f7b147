/-! THE LINES, on: what a teller means -/
def pop (m : Nat) : Nat := m % 2 + m / 2 % 2 + m / 4 % 2 + m / 8 % 2
theorem bit_add : ∀ m, m < 16 → ∀ w, w < 4 → ¬ (nI m >>> (nI w &&& 31)) &&& 1 = 1 → (nI m ||| ((1 : Int32) <<< (nI w &&& 31))) = nI (m + 2 ^ w) ∧ m + 2 ^ w < 16 ∧ pop (m + 2 ^ w) = pop m + 1 := by decide +kernel
theorem bit_all : ∀ m, m < 16 → ∀ w, w < 4 → pop m = 4 → (nI m >>> (nI w &&& 31)) &&& 1 = 1 := by decide +kernel
theorem tl_end {C : MM} {b k f : Nat} {y : Int32} (h0 : gR C 4 0 = some 2) (hk : k < 100) (h : 4 < k ∨ y = 0) : f_X2_readTeller_L34 (f + 1) C 4 b y (nI k) = ob (f_X7_among C 2 23) (fun z => if z = -1 then some (pI C b 0 0) else f_X7_advance (pI C b 0 1) 2) := by
  have e : ∀ x : Option MM, ob x (fun z => some z) = x := fun x => by cases x <;> rfl
  rw [f_X2_readTeller_L34]
  by_cases q : 4 < k
  · rw [if_pos (show (4 : Int32) < nI k from nI_lt (a := 4) q (by omega)), h0, oc_x]
    simp only [gI_pIs, if_pos, if_neg (show ¬ (1 : Int32) = 0 by decide), show gR (pI C b 0 0) 4 0 = some 2 from h0, show gR (pI C b 0 1) 4 0 = some 2 from h0, oc_x, e]
  · have y0 : y = 0 := h.resolve_left q
    rw [if_neg (show ¬ (4 : Int32) < nI k from nI_nlt (a := 4) (by omega) (by decide)), if_pos y0, h0, oc_x]
    simp only [gI_pIs, if_pos, if_neg (show ¬ (1 : Int32) = 0 by decide), show gR (pI C b 0 0) 4 0 = some 2 from h0, show gR (pI C b 0 1) 4 0 = some 2 from h0, oc_x, e]
theorem tend_de {C R : MM} {jr n sp b : Nat} (hb : sp ≤ b ∧ b < sp + 52) (hs : 14 ≤ sp) (hF : RF C R jr) (hD : DE C R n) : ∃ C', ob (f_X7_among C 2 23) (fun z => if z = -1 then some (pI C b 0 0) else f_X7_advance (pI C b 0 1) 2) = some C' ∧ KC C C' sp ∧ DE C' R n := by
  rw [among_c C (show 23 < 57 by decide), ob_s]
  obtain ⟨C1, a1, p1, d1⟩ := de_adv (hF.congr (C' := pI C b 0 1) rfl rfl) (hD.put (a := b) (by omega) 0 1)
  generalize (if gI C 2 4 = 1 then idx (wordsL (txt 23) 0) 0 (gL C 2 6) else -1) = x
  by_cases q : x = -1
  · rw [if_pos q]
    exact ⟨_, rfl, (KC.rf C sp).pI hb _ _, hD.put (by omega) _ _⟩
  · rw [if_neg q]
    exact ⟨C1, a1, ((KC.rf C sp).pI hb 0 1).tr (p1.q.k sp), d1⟩
theorem meant_de {C R : MM} {jr n sp b : Nat} (hb : sp ≤ b ∧ b < sp + 52) (hs : 14 ≤ sp) (hF : RF C R jr) (hD : DE C R n) (v : Int32) : ∃ C', ob (f_X8_means C b v) (fun z2 => if z2 = 0 then (ob (f_X8_add C b v) (fun z4 => oc (gR z4 4 0) none (fun b5 => ob (f_X7_advance z4 b5) (fun z6 => some z6)))) else (ob (f_X2_fail C 4 3) (fun z7 => ob (f_X8_add z7 b v) (fun z8 => oc (gR z8 4 0) none (fun b9 => ob (f_X7_advance z8 b9) (fun z10 => some z10)))))) = some C' ∧ KC C C' sp ∧ DE C' R n ∧ (NC C → NC C') := by
  obtain ⟨C2, e2, k2, d2, r2, n2⟩ : ∃ C2, f_X8_add C b v = some C2 ∧ KC C C2 sp ∧ DE C2 R n ∧ C2.2.2 = C.2.2 ∧ (NC C → NC C2) := by
    unfold f_X8_add
    split
    · exact ⟨C, rfl, KC.rf C sp, hD, rfl, id⟩
    · exact ⟨_, rfl, (KC.rf C sp).pI hb _ _, hD.put (by omega) _ _, rfl, fun z => z.put (by omega) _ _⟩
  obtain ⟨C3, a3, p3, d3⟩ := de_adv (hF.congr r2 rfl) d2
  have h4 : gR C2 4 0 = some 2 := (hF.congr r2 rfl).1
  obtain ⟨z, ez⟩ : ∃ z, f_X8_means C b v = some z := by
    unfold f_X8_means
    split
    · exact ⟨_, rfl⟩
    · split <;> exact ⟨_, rfl⟩
  rw [ez, ob_s, de_fail hD, ob_s, e2, ob_s, h4, oc_x, a3, ob_s, ite_self]
  exact ⟨C3, rfl, k2.tr (p3.q.k sp), d3, fun z => (n2 z).go p3⟩
theorem tell_de {jr n sp b : Nat} {R : MM} (hb : sp ≤ b ∧ b < sp + 52) (hs : 14 ≤ sp) (hR : NR R jr) : ∀ (d k : Nat) (y : Int32) (C : MM) (f : Nat), k + d = 5 → d < f → RF C R jr → DE C R n → NC C → ∃ C', f_X2_readTeller_L34 f C 4 b y (nI k) = some C' ∧ KC C C' sp ∧ DE C' R n := by
  intro d
  induction d with
  | zero =>
    intro k y C f hk hf hF hD hC
    obtain ⟨f, rfl⟩ := suc hf
    rw [tl_end hF.1 (by omega) (Or.inl (by omega))]
    exact tend_de hb hs hF hD
  | succ d ih =>
    intro k y C f hk hf hF hD hC
    obtain ⟨f, rfl⟩ := suc hf
    by_cases y0 : y = 0
    · rw [tl_end hF.1 (by omega) (Or.inr y0)]
      exact tend_de hb hs hF hD
    · obtain ⟨C1, v1, a1, p1, d1⟩ := d_told (c := 0) hF hD hC hR (by decide)
      have a1' : f_X2_toldName C 4 0 = some (v1, C1) := a1
      have hF1 := hF.congr p1.1 (rfl : R.2.2 = R.2.2)
      obtain ⟨C2, a2, k2, d2, n2⟩ := meant_de hb hs hF1 d1 v1
      have hF2 : RF C2 R jr := hF1.congr k2.1 rfl
      obtain ⟨C3, v3, a3, p3, d3⟩ := d_passes hF2 d2 (x := 44) (Or.inr rfl)
      have hC3 : NC C3 := (n2 (hC.go p1)).go p3
      obtain ⟨C', b1, b2, b3⟩ := ih (k + 1) v3 C3 f (by omega) (by omega) (hF2.congr p3.1 rfl) d3 hC3
      refine ⟨C', ?_, (((p1.q.k sp).tr k2).tr (p3.q.k sp)).tr b2, b3⟩
      rw [f_X2_readTeller_L34, if_neg (show ¬ (4 : Int32) < nI k from nI_nlt (a := 4) (by omega) (by decide)), if_neg y0]
      unfold f_X2_readMeant
      rw [a1', ob_s, a2, ob_s, a3, ob_s, nI_1 k]
      exact b1

