/-! A TEXT IS READ, from its beginning -/
theorem clear_l {sp : Nat} : ∀ (d k f : Nat) (C : MM), k + d = 10 → d < f → IS C sp → (∀ j, j < k → gI C (sp + 8) j = 0) →
    ∃ C', f_X0_clear_L2 f C sp (nI k) = some C' ∧ C'.2 = C.2 ∧ (∀ j, j < 10 → gI C' (sp + 8) j = 0) ∧ gI C' sp 8 = 0 ∧ ∀ a j, a ≠ sp + 8 → (a ≠ sp ∨ j ≠ 8) → gI C' a j = gI C a j := by
  intro d
  induction d with
  | zero =>
    intro k f C hk hf hI h
    obtain ⟨f, rfl⟩ := suc hf
    rw [f_X0_clear_L2, hI.w7, oc_x, if_pos (show (10 : Int32) ≤ nI k from nI_le (a := 10) (by omega) (by omega))]
    exact ⟨_, rfl, rfl, fun j hj => by rw [gI_pIa (by omega)]; exact h j (by omega), gI_pIs _ _ _ _, fun a j h1 h2 => gI_pIn (by omega)⟩
  | succ d ih =>
    intro k f C hk hf hI h
    obtain ⟨f, rfl⟩ := suc hf
    rw [f_X0_clear_L2, hI.w7, oc_x, if_neg (show ¬ (10 : Int32) ≤ nI k from nI_ge (b := 10) (by omega) (by decide)), oc_x, chk_n (show k < 10 by omega) (by decide), ix_n (show k < 2147483648 by omega), nI_1 k]
    obtain ⟨C', a1, a2, a3, a4, a5⟩ := ih (k + 1) f (pI C (sp + 8) k 0) (by omega) (by omega) (hI.congr rfl) (fun j hj => by
      by_cases q : j = k
      · rw [q, gI_pIs]
      · rw [gI_pIk q]
        exact h j (by omega))
    exact ⟨C', a1, a2, a3, a4, fun a j h1 h2 => (a5 a j h1 h2).trans (gI_pIa h1)⟩
theorem clear_c {C : MM} {sp : Nat} (hI : IS C sp) : ∃ C', f_X0_clear C sp = some C' ∧ C'.2 = C.2 ∧ (∀ j, j < 10 → gI C' (sp + 8) j = 0) ∧ gI C' sp 8 = 0 ∧ ∀ a j, a ≠ sp + 8 → (a ≠ sp ∨ j ≠ 8) → gI C' a j = gI C a j :=
  clear_l 10 0 FU C rfl (fu (by decide)) hI (fun j hj => absurd hj (by omega))
theorem JS.pR {M : MM} {j a k : Nat} {v : Option Nat} (h : JS M j) (ha : j ≠ a) : JS (pR M a k v) j := by
  unfold JS at *
  simp (disch := omega) only [gR_pRn]
  exact h
/-- the reference's memory as a text begins -/
def beg (R : MM) (x : Int32) (o : Nat) : MM := pI (pR (f_X12_init (zM (pI (pI (pI (pI (pI R 118 0 0) 118 7 x) 118 6 0) 118 8 0) 118 13 0) o) o) 118 4 (some o)) 118 9 0
theorem beg_I {R : MM} {x : Int32} {o a k : Nat} (h : a < o) (hk : a ≠ 118 ∨ (k ≠ 0 ∧ k ≠ 6 ∧ k ≠ 7 ∧ k ≠ 8 ∧ k ≠ 9 ∧ k ≠ 13)) : gI (beg R x o) a k = gI R a k := by
  unfold beg
  rw [gI_pIn (by omega), gI_pR, mk12_I h, gI_pIn (by omega), gI_pIn (by omega), gI_pIn (by omega), gI_pIn (by omega), gI_pIn (by omega)]
theorem beg_v {R : MM} {x : Int32} {o : Nat} (h : 118 < o) : gI (beg R x o) 118 6 = 0 ∧ gI (beg R x o) 118 7 = x ∧ gI (beg R x o) 118 8 = 0 ∧ gI (beg R x o) 118 9 = 0 ∧ gI (beg R x o) 118 13 = 0 := by
  unfold beg
  refine ⟨?_, ?_, ?_, ?_, ?_⟩
  · rw [gI_pIk (by decide), gI_pR, mk12_I h, gI_pIk (by decide), gI_pIk (by decide), gI_pIs]
  · rw [gI_pIk (by decide), gI_pR, mk12_I h, gI_pIk (by decide), gI_pIk (by decide), gI_pIk (by decide), gI_pIs]
  · rw [gI_pIk (by decide), gI_pR, mk12_I h, gI_pIk (by decide), gI_pIs]
  · rw [gI_pIs]
  · rw [gI_pIk (by decide), gI_pR, mk12_I h, gI_pIs]
theorem beg_n {R : MM} {x : Int32} {o c k : Nat} (h : 118 < o) (hc : c < 32) : gI (beg R x o) (o + c) k = if c = 0 ∧ (k = 27 ∨ k = 30 ∨ k = 32) then -1 else 0 := by
  unfold beg
  rw [gI_pIa (by omega), gI_pR, mk12_i _ _ _ _ hc]
theorem beg_R {R : MM} {x : Int32} {o a k : Nat} (h : a < o) (hk : a ≠ 118 ∨ k ≠ 4) : gR (beg R x o) a k = gR R a k := by
  unfold beg
  rw [gR_pI, gR_pRn (by omega), mk12_R h]
  rfl
theorem beg_4 (R : MM) (x : Int32) (o : Nat) : gR (beg R x o) 118 4 = some o := by
  unfold beg
  rw [gR_pI, gR_pRs]
theorem beg_js {R : MM} {x : Int32} {o : Nat} (h : 118 < o) : JS (beg R x o) o := by
  unfold beg
  exact ((mk12_js _ o).pR (by omega)).congr rfl
/-- a text is read -/
theorem isl_read {C R : MM} {jo sc ic sp n t o : Nat} (hS : ST C jo sc ic sp) (h5 : gR R 118 5 = some 119) (hn : n ≤ t) (ht : t ≤ 900) (hb : ∀ k, k < t → gI C 3 k = gI R 119 k ∧ ∃ z : Int32, gI C 3 k = z.toInt8.toInt32) (ho : 123 < o) :
    ∃ C' R4 R' v, f_X2_readIsland C 4 (nI n) sp = some (v, C') ∧ f_X13_goesOn (beg R (nI n) o) 118 = some R4 ∧ f_X13_readIsland R4 118 = some R' ∧ C'.2.2 = C.2.2 ∧
      (∀ a k, a ≠ 2 → a ≠ 4 → a ≠ 6 → a ≠ 7 → (a < sp ∨ sp + 52 ≤ a) → gI C' a k = gI C a k) ∧
      R'.2.2 = (beg R (nI n) o).2.2 ∧ (∀ a k, a < o → (a ≠ 118 ∨ k = 1 ∨ k = 2 ∨ 14 < k) → gI R' a k = gI R a k) ∧ gI R' 118 6 = 0 ∧
      ((v = 1 ∧ gI C' 4 5 = 0 ∧ gI R' 118 13 = 0 ∧ ∃ nn, PI C' R' sp o nn ∧ 1 ≤ nn 0 ∧ 1 ≤ nn 1 ∧ 1 ≤ nn 2) ∨ (v = 0 ∧ DE C' R' n)) := by
  have hi := ic14 hS
  have hic := hS.icg
  unfold f_X2_readIsland
  obtain ⟨C1, hC1⟩ : ∃ C1, C1 = pI (pI (pI C 4 5 0) 4 6 (-1)) 4 4 0 := ⟨_, rfl⟩
  rw [← hC1]
  have r1 : C1.2 = C.2 := by rw [hC1]; rfl
  have i1 : ∀ a k, a ≠ 4 → gI C1 a k = gI C a k := fun a k h => by rw [hC1, gI_pIa h, gI_pIa h, gI_pIa h]
  have i45 : gI C1 4 5 = 0 := by rw [hC1, gI_pIk (by decide), gI_pIk (by decide), gI_pIs]
  have i44 : gI C1 4 4 = 0 := by rw [hC1, gI_pIs]
  have hI1 : IS C1 sp := hS.isS.congr (by rw [r1])
  obtain ⟨C2, a1, a2, a3, a4, a5⟩ := clear_c hI1
  have r2 : C2.2 = C.2 := a2.trans r1
  have g2 : ∀ a k, gR C2 a k = gR C a k := fun a k => by unfold gR; rw [r2]
  rw [a1, ob_s, g2, hS.r0, oc_x]
  unfold f_X7_begin
  rw [g2, hS.t0, oc_x, if_neg (show ¬ (900 : Int32) < nI n from nI_nlt (a := 900) (by omega) (by decide))]
  obtain ⟨C3, hC3⟩ : ∃ C3, C3 = pI (pI C2 2 2 (nI n)) 2 3 0 := ⟨_, rfl⟩
  rw [← hC3]
  have r3 : C3.2 = C.2 := by rw [hC3]; exact r2
  have g3 : ∀ a k, gR C3 a k = gR C a k := fun a k => by unfold gR; rw [r3]
  have i3 : ∀ a k, a ≠ 2 → gI C3 a k = gI C2 a k := fun a k h => by rw [hC3, gI_pIa h, gI_pIa h]
  have bytes : ∀ k, gI C3 3 k = gI C 3 k := fun k => (i3 3 k (by decide)).trans ((a5 3 k (by omega) (by omega)).trans (i1 3 k (by decide)))
  obtain ⟨v6, v7, v8, v9, v13⟩ := beg_v (R := R) (x := nI n) (o := o) (by omega)
  have hB : BY C3 (beg R (nI n) o) n := ⟨by omega, by rw [g3]; exact hS.t0, by rw [beg_R (by omega) (by omega)]; exact h5, by rw [hC3, gI_pIk (by decide), gI_pIs], v7, fun k hk => ⟨by rw [bytes, beg_I (by omega) (by omega)]; exact (hb k (by omega)).1, by rw [bytes]; exact (hb k (by omega)).2⟩⟩
  obtain ⟨C4, R4, s, p, c1, c2, c3, c4, c5, c6, c7, c8, c9, c10, c11, c12, c13⟩ := goes (p := 0) hB (Nat.zero_le n) (by rw [hC3, gI_pIs]; rfl) (by rw [v8]; rfl) (by rw [v9]; decide)
  rw [c1, ob_s, ob_s]
  have r4 : C4.2.2 = C.2.2 := c3.1.trans (by rw [r3])
  have i4 : ∀ a k, a ≠ 2 → gI C4 a k = gI C2 a k := fun a k h => (c3.2.1 a k (by omega)).trans (i3 a k h)
  have A4 : AL C4 R4 n s := ⟨by rw [i4 4 5 (by decide), a5 4 5 (by omega) (by omega)]; exact i45, by rw [c4.2.1 118 13 (by omega)]; exact v13, hB.go c3 c4, ⟨p, c6, c7, c8, c9, c13⟩, c10, c11, c12⟩
  have F4 : RF C4 R4 o := by
    have gc : ∀ a k, gR C4 a k = gR C a k := fun a k => by unfold gR; rw [r4]
    have gr : ∀ a k, gR R4 a k = gR (beg R (nI n) o) a k := fun a k => by unfold gR; rw [c4.1]
    exact ⟨by rw [gc]; exact hS.r0, by rw [gc]; exact hS.r1, by rw [gc]; exact hS.r2, by rw [gc]; exact hS.r3, by rw [gc]; exact hS.t0, by rw [gr]; exact beg_4 _ _ _, by rw [gr, beg_R (by omega) (by omega)]; exact h5, (beg_js (by omega)).congr c4.1, by omega⟩
  have n4 : ∀ c k, c < 32 → gI R4 (o + c) k = if c = 0 ∧ (k = 27 ∨ k = 30 ∨ k = 32) then -1 else 0 := fun c k hc => (c4.2.1 _ k (by omega)).trans (beg_n (by omega) hc)
  have n4o : ∀ k, gI R4 o k = if k = 27 ∨ k = 30 ∨ k = 32 then -1 else 0 := fun k => by
    have := n4 0 k (by decide)
    rw [Nat.add_zero] at this
    rw [this]
    by_cases q : k = 27 ∨ k = 30 ∨ k = 32
    · rw [if_pos q, if_pos ⟨rfl, q⟩]
    · rw [if_neg q, if_neg (fun z => q z.2)]
  have z8 : ∀ j, j < 10 → gI C4 (sp + 8) j = 0 := fun j hj => (i4 _ _ (by omega)).trans (a3 j hj)
  have P4 : PI C4 R4 sp o (fun _ => 0) := by
    refine ⟨hI1.congr (r4.trans (by rw [r1])), by omega, ⟨by decide, by decide, by decide, by decide, by decide, by decide, by decide⟩, ⟨fun i hi => absurd hi (Nat.not_lt_zero i), fun i hi => absurd hi (Nat.not_lt_zero i), fun i hi => absurd hi (Nat.not_lt_zero i), fun i hi => absurd hi (Nat.not_lt_zero i), fun i hi => absurd hi (Nat.not_lt_zero i)⟩, ⟨fun i hi => absurd hi (Nat.not_lt_zero i), fun i hi => absurd hi (Nat.not_lt_zero i), fun i hi => absurd hi (Nat.not_lt_zero i), fun i hi => absurd hi (Nat.not_lt_zero i), fun i hi => absurd hi (Nat.not_lt_zero i), fun i hi => absurd hi (Nat.not_lt_zero i), fun i hi => absurd hi (Nat.not_lt_zero i)⟩,
      ⟨z8 0 (by decide), z8 1 (by decide), z8 2 (by decide), z8 3 (by decide), z8 4 (by decide), z8 5 (by decide), z8 6 (by decide)⟩, ?_, ?_⟩
    · have zo : ∀ j, RD R4 o 0 j = gI R4 o j := fun _ => rfl
      unfold EF
      simp only [zo, n4o]
      exact ⟨(i4 _ _ (by omega)).trans a4, Or.inl ⟨z8 7 (by decide), rfl⟩, Or.inl ⟨z8 8 (by decide), rfl⟩, Or.inl ⟨z8 9 (by decide), rfl⟩⟩
    · have zo : ∀ j, RD R4 o 0 j = gI R4 o j := fun _ => rfl
      unfold DN
      simp only [zo, n4o]
      exact ⟨rfl, rfl, rfl, rfl, rfl, rfl, rfl⟩
  have N4 : NM C4 R4 o (fun _ => 0) (tot (fun _ => 0)) := ⟨by decide, by rw [i4 4 4 (by decide), a5 4 4 (by omega) (by omega)]; exact i44, by rw [n4o]; rfl, fun i hi => absurd hi (Nat.not_lt_zero i)⟩
  obtain ⟨C', R', v, d1, d2, d3, d4, d5⟩ := isl_loop (n := n) (n + 1) s 0 C4 R4 (fun _ => 0) FU FU (by omega) (Nat.zero_le s) (fu (by omega)) (fu (by omega)) F4 A4 P4 N4
  refine ⟨C', R4, R', v, d1, c2, d2, d3.1.trans r4, fun a k h1 h2 h3 h4 h6 => (d3.2.1 a k (by omega) (by omega) h3 h4 h6).trans ((i4 a k h1).trans ((a5 a k (by omega) (by omega)).trans (i1 a k h2))), d4.1.trans c4.1, fun a k h1 h2 => (d4.2.1 a k (by omega) h1).trans ((c4.2.1 a k (by omega)).trans (beg_I h1 (by omega))), (d4.2.1 118 6 (by omega) (by omega)).trans ((c4.2.1 118 6 (by omega)).trans v6), ?_⟩
  rcases d5 with ⟨e1, s', nn, e2, e3, e4⟩ | e
  · exact Or.inl ⟨e1, e2.1, e2.2.1, nn, e3, e4⟩
  · exact Or.inr e
