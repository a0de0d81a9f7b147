/-! THE ISLAND IN PROGRESS -/
def RD (R : MM) (jr : Nat) : DT := fun c i => gI R (jr + c) i
def up (nn : Nat → Nat) (k : Nat) : Nat → Nat := fun c => if c = k then nn k + 1 else nn c
def PI (C R : MM) (sp jr : Nat) (nn : Nat → Nat) : Prop := IS C sp ∧ (14 ≤ sp ∧ sp + 52 ≤ 118) ∧ NB nn ∧ VD (RD R jr) nn ∧ CE C sp (RD R jr) nn ∧ CN C sp nn ∧ EF C sp (RD R jr) ∧ DN (RD R jr) nn
theorem PI.s0 {C R C' R' : MM} {sp jr : Nat} {nn : Nat → Nat} (h : PI C R sp jr nn) (hcap : nn 0 < 4) (e0 : C'.2.2 = C.2.2)
    (c1 : ∀ a j, sp + 9 ≤ a → a < sp + 52 → ¬ (sp + (9 + nn 0) ≤ a ∧ a < sp + (9 + nn 0) + 1) → gI C' a j = gI C a j)
    (c2 : gI C' (sp + 8) 0 = nI (nn 0 + 1)) (c3 : ∀ j, j ≠ 0 → gI C' (sp + 8) j = gI C (sp + 8) j) (c4 : ∀ j, gI C' sp j = gI C sp j)
    (r1 : ∀ c i, 1 ≤ c → c < 29 → (c = 1 → i ≠ nn 0) → (c = 2 → i ≠ nn 0) → (c = 3 → i ≠ nn 0) → gI R' (jr + c) i = gI R (jr + c) i)
    (r2 : gI R' jr 0 = nI (nn 0 + 1)) (r3 : ∀ j, j ≠ 0 → j ≠ 8 → gI R' jr j = gI R jr j)
    (o1 : EW C' sp (RD R' jr) (nn 0)) (o2 : VW (RD R' jr) (nn 0)) : PI C' R' sp jr (up nn 0) := by
  obtain ⟨hI, hs, hN, ⟨v0, v1, v2, v3, v4⟩, ⟨g0, g1, g2, g3, g4, g5, g6⟩, ⟨k0, k1, k2, k3, k4, k5, k6⟩, hE, hD⟩ := h
  obtain ⟨b0, b1, b2, b3, b4, b5, b6⟩ := hN
  obtain ⟨d0, d1, d2, d3, d4, d5, d6⟩ := hD
  have x1 : ∀ i, i < nn 0 → RD R' jr 1 i = RD R jr 1 i := fun i hi => r1 1 i (by decide) (by decide) (by omega) (by omega) (by omega)
  have x2 : ∀ i, i < nn 0 → RD R' jr 2 i = RD R jr 2 i := fun i hi => r1 2 i (by decide) (by decide) (by omega) (by omega) (by omega)
  have x3 : ∀ i, i < nn 0 → RD R' jr 3 i = RD R jr 3 i := fun i hi => r1 3 i (by decide) (by decide) (by omega) (by omega) (by omega)
  have x4 : ∀ i, i < nn 1 → RD R' jr 4 i = RD R jr 4 i := fun i hi => r1 4 i (by decide) (by decide) (by omega) (by omega) (by omega)
  have x5 : ∀ i, i < nn 1 → RD R' jr 5 i = RD R jr 5 i := fun i hi => r1 5 i (by decide) (by decide) (by omega) (by omega) (by omega)
  have x7 : ∀ i, i < nn 2 → RD R' jr 7 i = RD R jr 7 i := fun i hi => r1 7 i (by decide) (by decide) (by omega) (by omega) (by omega)
  have x8 : ∀ i, i < nn 2 → RD R' jr 8 i = RD R jr 8 i := fun i hi => r1 8 i (by decide) (by decide) (by omega) (by omega) (by omega)
  have x9 : ∀ i, i < nn 2 → RD R' jr 9 i = RD R jr 9 i := fun i hi => r1 9 i (by decide) (by decide) (by omega) (by omega) (by omega)
  have x10 : ∀ i, i < nn 2 → RD R' jr 10 i = RD R jr 10 i := fun i hi => r1 10 i (by decide) (by decide) (by omega) (by omega) (by omega)
  have x11 : ∀ i, i < nn 2 → RD R' jr 11 i = RD R jr 11 i := fun i hi => r1 11 i (by decide) (by decide) (by omega) (by omega) (by omega)
  have x12 : ∀ i, i < nn 2 → RD R' jr 12 i = RD R jr 12 i := fun i hi => r1 12 i (by decide) (by decide) (by omega) (by omega) (by omega)
  have x13 : ∀ i, i < nn 2 → RD R' jr 13 i = RD R jr 13 i := fun i hi => r1 13 i (by decide) (by decide) (by omega) (by omega) (by omega)
  have x14 : ∀ i, i < nn 3 → RD R' jr 14 i = RD R jr 14 i := fun i hi => r1 14 i (by decide) (by decide) (by omega) (by omega) (by omega)
  have x15 : ∀ i, i < nn 3 → RD R' jr 15 i = RD R jr 15 i := fun i hi => r1 15 i (by decide) (by decide) (by omega) (by omega) (by omega)
  have x16 : ∀ i, i < nn 3 → RD R' jr 16 i = RD R jr 16 i := fun i hi => r1 16 i (by decide) (by decide) (by omega) (by omega) (by omega)
  have x17 : ∀ i, i < nn 3 → RD R' jr 17 i = RD R jr 17 i := fun i hi => r1 17 i (by decide) (by decide) (by omega) (by omega) (by omega)
  have x18 : ∀ i, i < nn 3 → RD R' jr 18 i = RD R jr 18 i := fun i hi => r1 18 i (by decide) (by decide) (by omega) (by omega) (by omega)
  have x19 : ∀ i, i < nn 4 → RD R' jr 19 i = RD R jr 19 i := fun i hi => r1 19 i (by decide) (by decide) (by omega) (by omega) (by omega)
  have x20 : ∀ i, i < nn 4 → RD R' jr 20 i = RD R jr 20 i := fun i hi => r1 20 i (by decide) (by decide) (by omega) (by omega) (by omega)
  have x21 : ∀ i, i < nn 4 → RD R' jr 21 i = RD R jr 21 i := fun i hi => r1 21 i (by decide) (by decide) (by omega) (by omega) (by omega)
  have x22 : ∀ i, i < nn 4 → RD R' jr 22 i = RD R jr 22 i := fun i hi => r1 22 i (by decide) (by decide) (by omega) (by omega) (by omega)
  have x23 : ∀ i, i < nn 5 → RD R' jr 23 i = RD R jr 23 i := fun i hi => r1 23 i (by decide) (by decide) (by omega) (by omega) (by omega)
  have x28 : ∀ i, i < nn 5 → RD R' jr 28 i = RD R jr 28 i := fun i hi => r1 28 i (by decide) (by decide) (by omega) (by omega) (by omega)
  have x24 : ∀ i, i < nn 6 → RD R' jr 24 i = RD R jr 24 i := fun i hi => r1 24 i (by decide) (by decide) (by omega) (by omega) (by omega)
  have x25 : ∀ i, i < nn 6 → RD R' jr 25 i = RD R jr 25 i := fun i hi => r1 25 i (by decide) (by decide) (by omega) (by omega) (by omega)
  have x26 : ∀ i, i < nn 6 → RD R' jr 26 i = RD R jr 26 i := fun i hi => r1 26 i (by decide) (by decide) (by omega) (by omega) (by omega)
  have x27 : ∀ i, i < nn 6 → RD R' jr 27 i = RD R jr 27 i := fun i hi => r1 27 i (by decide) (by decide) (by omega) (by omega) (by omega)
  have x6 : ∀ i p, i < nn 1 → p < 6 → RD R' jr 6 (6 * i + p) = RD R jr 6 (6 * i + p) := fun i p hi hp => r1 6 (6 * i + p) (by decide) (by decide) (by omega) (by omega) (by omega)
  have y0 : ∀ i j, i < nn 0 → gI C' (sp + (9 + i)) j = gI C (sp + (9 + i)) j := fun i j hi => c1 _ j (by omega) (by omega) (by omega)
  have y1 : ∀ i j, i < nn 1 → gI C' (sp + (13 + 2 * i)) j = gI C (sp + (13 + 2 * i)) j := fun i j hi => c1 _ j (by omega) (by omega) (by omega)
  have y2 : ∀ i j, i < nn 2 → gI C' (sp + (19 + i)) j = gI C (sp + (19 + i)) j := fun i j hi => c1 _ j (by omega) (by omega) (by omega)
  have y3 : ∀ i j, i < nn 3 → gI C' (sp + (29 + i)) j = gI C (sp + (29 + i)) j := fun i j hi => c1 _ j (by omega) (by omega) (by omega)
  have y4 : ∀ i j, i < nn 4 → gI C' (sp + (34 + 2 * i)) j = gI C (sp + (34 + 2 * i)) j := fun i j hi => c1 _ j (by omega) (by omega) (by omega)
  have y5 : ∀ i j, i < nn 5 → gI C' (sp + (44 + i)) j = gI C (sp + (44 + i)) j := fun i j hi => c1 _ j (by omega) (by omega) (by omega)
  have y6 : ∀ i j, i < nn 6 → gI C' (sp + (47 + i)) j = gI C (sp + (47 + i)) j := fun i j hi => c1 _ j (by omega) (by omega) (by omega)
  have y1s : ∀ i j, i < nn 1 → gI C' (sp + (14 + 2 * i)) j = gI C (sp + (14 + 2 * i)) j := fun i j hi => c1 _ j (by omega) (by omega) (by omega)
  have up_ne : ∀ c, c ≠ 0 → up nn 0 c = nn c := fun c hc => if_neg hc
  have up_eq : up nn 0 0 = nn 0 + 1 := if_pos rfl
  have O0 : ∀ i, i < nn 0 → EW C' sp (RD R' jr) i ∧ VW (RD R' jr) i := fun i hi => by
    unfold EW VW
    simp only [y0 i _ hi, x1 i hi, x2 i hi, x3 i hi]
    exact ⟨g0 i hi, v0 i hi⟩
  have O1 : ∀ i, i < nn 1 → ER C' sp (RD R' jr) i ∧ VR (RD R' jr) i := fun i hi => by
    unfold ER VR
    simp only [y1 i _ hi, y1s i _ hi, x4 i hi, x5 i hi]
    exact ⟨⟨(g1 i hi).1, (g1 i hi).2.1, fun p q1 q2 => by rw [x6 i p hi q2]; exact (g1 i hi).2.2 p q1 q2⟩, v1 i hi⟩
  have O2 : ∀ i, i < nn 2 → ES C' sp (RD R' jr) i ∧ VS (RD R' jr) (nn 1) i := fun i hi => by
    unfold ES VS
    simp only [y2 i _ hi, x7 i hi, x8 i hi, x9 i hi, x10 i hi, x11 i hi, x12 i hi, x13 i hi]
    obtain ⟨e1, e2, e3, e4, e5, e6, e7, e8⟩ := g2 i hi
    obtain ⟨f1, f2⟩ := v2 i hi
    refine ⟨⟨e1, e2, e3, e4, e5, e6, e7, fun z r p z1 z2 z3 z4 => ?_⟩, f1, fun z => ?_⟩
    · obtain ⟨l, r', p', hh, q1, q2, q3, q4, q5, q6, q7, q8⟩ := f2 z
      have er : r = r' := (nI_eq (by omega) (by omega)).mp (z1.symm.trans q6)
      rw [x6 r p (by omega) z4]
      exact e8 z r p z1 z2 z3 z4
    · obtain ⟨l, r, p, hh, q1, q2, q3, q4, q5, q6, q7, q8⟩ := f2 z
      exact ⟨l, r, p, hh, q1, q2, q3, q4, q5, q6, q7, (x5 r q2).trans q8⟩
  have O3 : ∀ i, i < nn 3 → ET C' sp (RD R' jr) i ∧ VT (RD R' jr) (nn 0) i := fun i hi => by
    unfold ET VT
    simp only [y3 i _ hi, x14 i hi, x15 i hi, x16 i hi, x17 i hi, x18 i hi]
    exact ⟨g3 i hi, v3 i hi⟩
  have O4 : ∀ i, i < nn 4 → EY C' sp (RD R' jr) i ∧ VY (RD R' jr) i := fun i hi => by
    unfold EY VY
    simp only [y4 i _ hi, x19 i hi, x20 i hi, x21 i hi, x22 i hi]
    exact ⟨g4 i hi, v4 i hi⟩
  have O5 : ∀ i, i < nn 5 → EL C' sp (RD R' jr) i := fun i hi => by
    unfold EL
    simp only [y5 i _ hi, x23 i hi, x28 i hi]
    exact g5 i hi
  have O6 : ∀ i, i < nn 6 → EX C' sp (RD R' jr) i := fun i hi => by
    unfold EX
    simp only [y6 i _ hi, x24 i hi, x25 i hi, x26 i hi, x27 i hi]
    exact g6 i hi
  refine ⟨hI.congr e0, hs, ?_, ⟨?_, ?_, ?_, ?_, ?_⟩, ⟨?_, ?_, ?_, ?_, ?_, ?_, ?_⟩, ?_, ?_, ?_⟩
  · unfold NB
    rw [up_eq, up_ne 1 (by decide), up_ne 2 (by decide), up_ne 3 (by decide), up_ne 4 (by decide), up_ne 5 (by decide), up_ne 6 (by decide)]
    omega
  · exact fun i hi => by
      rcases Nat.lt_or_ge i (nn 0) with z | z
      · exact (O0 i z).2
      · have e : i = nn 0 := by rw [up_eq] at hi; omega
        rw [e]
        exact o2
  · exact fun i hi => (O1 i (by rw [up_ne 1 (by decide)] at hi; exact hi)).2
  · rw [up_ne 1 (by decide)]
    exact fun i hi => (O2 i (by rw [up_ne 2 (by decide)] at hi; exact hi)).2
  · exact fun i hi => by
      obtain ⟨⟨a, f1, f2⟩, f3⟩ := (O3 i (by rw [up_ne 3 (by decide)] at hi; exact hi)).2
      exact ⟨⟨a, by rw [up_eq]; omega, f2⟩, f3⟩
  · exact fun i hi => (O4 i (by rw [up_ne 4 (by decide)] at hi; exact hi)).2
  · exact fun i hi => by
      rcases Nat.lt_or_ge i (nn 0) with z | z
      · exact (O0 i z).1
      · have e : i = nn 0 := by rw [up_eq] at hi; omega
        rw [e]
        exact o1
  · exact fun i hi => (O1 i (by rw [up_ne 1 (by decide)] at hi; exact hi)).1
  · exact fun i hi => (O2 i (by rw [up_ne 2 (by decide)] at hi; exact hi)).1
  · exact fun i hi => (O3 i (by rw [up_ne 3 (by decide)] at hi; exact hi)).1
  · exact fun i hi => (O4 i (by rw [up_ne 4 (by decide)] at hi; exact hi)).1
  · exact fun i hi => O5 i (by rw [up_ne 5 (by decide)] at hi; exact hi)
  · exact fun i hi => O6 i (by rw [up_ne 6 (by decide)] at hi; exact hi)
  · unfold CN
    rw [up_eq, up_ne 1 (by decide), up_ne 2 (by decide), up_ne 3 (by decide), up_ne 4 (by decide), up_ne 5 (by decide), up_ne 6 (by decide)]
    exact ⟨c2, (c3 1 (by decide)).trans k1, (c3 2 (by decide)).trans k2, (c3 3 (by decide)).trans k3, (c3 4 (by decide)).trans k4, (c3 5 (by decide)).trans k5, (c3 6 (by decide)).trans k6⟩
  · have z0 : ∀ j, RD R' jr 0 j = gI R' jr j := fun _ => rfl
    have z1 : ∀ j, RD R jr 0 j = gI R jr j := fun _ => rfl
    unfold EF at hE ⊢
    simp only [z0, z1] at hE ⊢
    rw [c4 8, c4 9, c4 10, c4 11, c4 12, c4 13, c4 14, c4 15, c4 16, c3 7 (by decide), c3 8 (by decide), c3 9 (by decide), r3 3 (by decide) (by decide), r3 27 (by decide) (by decide), r3 28 (by decide) (by decide), r3 29 (by decide) (by decide), r3 30 (by decide) (by decide), r3 31 (by decide) (by decide), r3 32 (by decide) (by decide), r3 33 (by decide) (by decide), r3 34 (by decide) (by decide)]
    exact hE
  · unfold DN
    rw [up_eq, up_ne 1 (by decide), up_ne 2 (by decide), up_ne 3 (by decide), up_ne 4 (by decide), up_ne 5 (by decide), up_ne 6 (by decide)]
    exact ⟨r2, (r3 1 (by decide) (by decide)).trans d1, (r3 2 (by decide) (by decide)).trans d2, (r3 4 (by decide) (by decide)).trans d3, (r3 5 (by decide) (by decide)).trans d4, (r3 6 (by decide) (by decide)).trans d5, (r3 7 (by decide) (by decide)).trans d6⟩
theorem PI.s1 {C R C' R' : MM} {sp jr : Nat} {nn : Nat → Nat} (h : PI C R sp jr nn) (hcap : nn 1 < 3) (e0 : C'.2.2 = C.2.2)
    (c1 : ∀ a j, sp + 9 ≤ a → a < sp + 52 → ¬ (sp + (13 + 2 * nn 1) ≤ a ∧ a < sp + (13 + 2 * nn 1) + 2) → gI C' a j = gI C a j)
    (c2 : gI C' (sp + 8) 1 = nI (nn 1 + 1)) (c3 : ∀ j, j ≠ 1 → gI C' (sp + 8) j = gI C (sp + 8) j) (c4 : ∀ j, gI C' sp j = gI C sp j)
    (r1 : ∀ c i, 1 ≤ c → c < 29 → (c = 4 → i ≠ nn 1) → (c = 5 → i ≠ nn 1) → (c = 6 → i < 6 * nn 1) → gI R' (jr + c) i = gI R (jr + c) i)
    (r2 : gI R' jr 1 = nI (nn 1 + 1)) (r3 : ∀ j, j ≠ 1 → j ≠ 8 → gI R' jr j = gI R jr j)
    (o1 : ER C' sp (RD R' jr) (nn 1)) (o2 : VR (RD R' jr) (nn 1)) : PI C' R' sp jr (up nn 1) := by
  obtain ⟨hI, hs, hN, ⟨v0, v1, v2, v3, v4⟩, ⟨g0, g1, g2, g3, g4, g5, g6⟩, ⟨k0, k1, k2, k3, k4, k5, k6⟩, hE, hD⟩ := h
  obtain ⟨b0, b1, b2, b3, b4, b5, b6⟩ := hN
  obtain ⟨d0, d1, d2, d3, d4, d5, d6⟩ := hD
  have x1 : ∀ i, i < nn 0 → RD R' jr 1 i = RD R jr 1 i := fun i hi => r1 1 i (by decide) (by decide) (by omega) (by omega) (by omega)
  have x2 : ∀ i, i < nn 0 → RD R' jr 2 i = RD R jr 2 i := fun i hi => r1 2 i (by decide) (by decide) (by omega) (by omega) (by omega)
  have x3 : ∀ i, i < nn 0 → RD R' jr 3 i = RD R jr 3 i := fun i hi => r1 3 i (by decide) (by decide) (by omega) (by omega) (by omega)
  have x4 : ∀ i, i < nn 1 → RD R' jr 4 i = RD R jr 4 i := fun i hi => r1 4 i (by decide) (by decide) (by omega) (by omega) (by omega)
  have x5 : ∀ i, i < nn 1 → RD R' jr 5 i = RD R jr 5 i := fun i hi => r1 5 i (by decide) (by decide) (by omega) (by omega) (by omega)
  have x7 : ∀ i, i < nn 2 → RD R' jr 7 i = RD R jr 7 i := fun i hi => r1 7 i (by decide) (by decide) (by omega) (by omega) (by omega)
  have x8 : ∀ i, i < nn 2 → RD R' jr 8 i = RD R jr 8 i := fun i hi => r1 8 i (by decide) (by decide) (by omega) (by omega) (by omega)
  have x9 : ∀ i, i < nn 2 → RD R' jr 9 i = RD R jr 9 i := fun i hi => r1 9 i (by decide) (by decide) (by omega) (by omega) (by omega)
  have x10 : ∀ i, i < nn 2 → RD R' jr 10 i = RD R jr 10 i := fun i hi => r1 10 i (by decide) (by decide) (by omega) (by omega) (by omega)
  have x11 : ∀ i, i < nn 2 → RD R' jr 11 i = RD R jr 11 i := fun i hi => r1 11 i (by decide) (by decide) (by omega) (by omega) (by omega)
  have x12 : ∀ i, i < nn 2 → RD R' jr 12 i = RD R jr 12 i := fun i hi => r1 12 i (by decide) (by decide) (by omega) (by omega) (by omega)
  have x13 : ∀ i, i < nn 2 → RD R' jr 13 i = RD R jr 13 i := fun i hi => r1 13 i (by decide) (by decide) (by omega) (by omega) (by omega)
  have x14 : ∀ i, i < nn 3 → RD R' jr 14 i = RD R jr 14 i := fun i hi => r1 14 i (by decide) (by decide) (by omega) (by omega) (by omega)
  have x15 : ∀ i, i < nn 3 → RD R' jr 15 i = RD R jr 15 i := fun i hi => r1 15 i (by decide) (by decide) (by omega) (by omega) (by omega)
  have x16 : ∀ i, i < nn 3 → RD R' jr 16 i = RD R jr 16 i := fun i hi => r1 16 i (by decide) (by decide) (by omega) (by omega) (by omega)
  have x17 : ∀ i, i < nn 3 → RD R' jr 17 i = RD R jr 17 i := fun i hi => r1 17 i (by decide) (by decide) (by omega) (by omega) (by omega)
  have x18 : ∀ i, i < nn 3 → RD R' jr 18 i = RD R jr 18 i := fun i hi => r1 18 i (by decide) (by decide) (by omega) (by omega) (by omega)
  have x19 : ∀ i, i < nn 4 → RD R' jr 19 i = RD R jr 19 i := fun i hi => r1 19 i (by decide) (by decide) (by omega) (by omega) (by omega)
  have x20 : ∀ i, i < nn 4 → RD R' jr 20 i = RD R jr 20 i := fun i hi => r1 20 i (by decide) (by decide) (by omega) (by omega) (by omega)
  have x21 : ∀ i, i < nn 4 → RD R' jr 21 i = RD R jr 21 i := fun i hi => r1 21 i (by decide) (by decide) (by omega) (by omega) (by omega)
  have x22 : ∀ i, i < nn 4 → RD R' jr 22 i = RD R jr 22 i := fun i hi => r1 22 i (by decide) (by decide) (by omega) (by omega) (by omega)
  have x23 : ∀ i, i < nn 5 → RD R' jr 23 i = RD R jr 23 i := fun i hi => r1 23 i (by decide) (by decide) (by omega) (by omega) (by omega)
  have x28 : ∀ i, i < nn 5 → RD R' jr 28 i = RD R jr 28 i := fun i hi => r1 28 i (by decide) (by decide) (by omega) (by omega) (by omega)
  have x24 : ∀ i, i < nn 6 → RD R' jr 24 i = RD R jr 24 i := fun i hi => r1 24 i (by decide) (by decide) (by omega) (by omega) (by omega)
  have x25 : ∀ i, i < nn 6 → RD R' jr 25 i = RD R jr 25 i := fun i hi => r1 25 i (by decide) (by decide) (by omega) (by omega) (by omega)
  have x26 : ∀ i, i < nn 6 → RD R' jr 26 i = RD R jr 26 i := fun i hi => r1 26 i (by decide) (by decide) (by omega) (by omega) (by omega)
  have x27 : ∀ i, i < nn 6 → RD R' jr 27 i = RD R jr 27 i := fun i hi => r1 27 i (by decide) (by decide) (by omega) (by omega) (by omega)
  have x6 : ∀ i p, i < nn 1 → p < 6 → RD R' jr 6 (6 * i + p) = RD R jr 6 (6 * i + p) := fun i p hi hp => r1 6 (6 * i + p) (by decide) (by decide) (by omega) (by omega) (by omega)
  have y0 : ∀ i j, i < nn 0 → gI C' (sp + (9 + i)) j = gI C (sp + (9 + i)) j := fun i j hi => c1 _ j (by omega) (by omega) (by omega)
  have y1 : ∀ i j, i < nn 1 → gI C' (sp + (13 + 2 * i)) j = gI C (sp + (13 + 2 * i)) j := fun i j hi => c1 _ j (by omega) (by omega) (by omega)
  have y2 : ∀ i j, i < nn 2 → gI C' (sp + (19 + i)) j = gI C (sp + (19 + i)) j := fun i j hi => c1 _ j (by omega) (by omega) (by omega)
  have y3 : ∀ i j, i < nn 3 → gI C' (sp + (29 + i)) j = gI C (sp + (29 + i)) j := fun i j hi => c1 _ j (by omega) (by omega) (by omega)
  have y4 : ∀ i j, i < nn 4 → gI C' (sp + (34 + 2 * i)) j = gI C (sp + (34 + 2 * i)) j := fun i j hi => c1 _ j (by omega) (by omega) (by omega)
  have y5 : ∀ i j, i < nn 5 → gI C' (sp + (44 + i)) j = gI C (sp + (44 + i)) j := fun i j hi => c1 _ j (by omega) (by omega) (by omega)
  have y6 : ∀ i j, i < nn 6 → gI C' (sp + (47 + i)) j = gI C (sp + (47 + i)) j := fun i j hi => c1 _ j (by omega) (by omega) (by omega)
  have y1s : ∀ i j, i < nn 1 → gI C' (sp + (14 + 2 * i)) j = gI C (sp + (14 + 2 * i)) j := fun i j hi => c1 _ j (by omega) (by omega) (by omega)
  have up_ne : ∀ c, c ≠ 1 → up nn 1 c = nn c := fun c hc => if_neg hc
  have up_eq : up nn 1 1 = nn 1 + 1 := if_pos rfl
  have O0 : ∀ i, i < nn 0 → EW C' sp (RD R' jr) i ∧ VW (RD R' jr) i := fun i hi => by
    unfold EW VW
    simp only [y0 i _ hi, x1 i hi, x2 i hi, x3 i hi]
    exact ⟨g0 i hi, v0 i hi⟩
  have O1 : ∀ i, i < nn 1 → ER C' sp (RD R' jr) i ∧ VR (RD R' jr) i := fun i hi => by
    unfold ER VR
    simp only [y1 i _ hi, y1s i _ hi, x4 i hi, x5 i hi]
    exact ⟨⟨(g1 i hi).1, (g1 i hi).2.1, fun p q1 q2 => by rw [x6 i p hi q2]; exact (g1 i hi).2.2 p q1 q2⟩, v1 i hi⟩
  have O2 : ∀ i, i < nn 2 → ES C' sp (RD R' jr) i ∧ VS (RD R' jr) (nn 1) i := fun i hi => by
    unfold ES VS
    simp only [y2 i _ hi, x7 i hi, x8 i hi, x9 i hi, x10 i hi, x11 i hi, x12 i hi, x13 i hi]
    obtain ⟨e1, e2, e3, e4, e5, e6, e7, e8⟩ := g2 i hi
    obtain ⟨f1, f2⟩ := v2 i hi
    refine ⟨⟨e1, e2, e3, e4, e5, e6, e7, fun z r p z1 z2 z3 z4 => ?_⟩, f1, fun z => ?_⟩
    · obtain ⟨l, r', p', hh, q1, q2, q3, q4, q5, q6, q7, q8⟩ := f2 z
      have er : r = r' := (nI_eq (by omega) (by omega)).mp (z1.symm.trans q6)
      rw [x6 r p (by omega) z4]
      exact e8 z r p z1 z2 z3 z4
    · obtain ⟨l, r, p, hh, q1, q2, q3, q4, q5, q6, q7, q8⟩ := f2 z
      exact ⟨l, r, p, hh, q1, q2, q3, q4, q5, q6, q7, (x5 r q2).trans q8⟩
  have O3 : ∀ i, i < nn 3 → ET C' sp (RD R' jr) i ∧ VT (RD R' jr) (nn 0) i := fun i hi => by
    unfold ET VT
    simp only [y3 i _ hi, x14 i hi, x15 i hi, x16 i hi, x17 i hi, x18 i hi]
    exact ⟨g3 i hi, v3 i hi⟩
  have O4 : ∀ i, i < nn 4 → EY C' sp (RD R' jr) i ∧ VY (RD R' jr) i := fun i hi => by
    unfold EY VY
    simp only [y4 i _ hi, x19 i hi, x20 i hi, x21 i hi, x22 i hi]
    exact ⟨g4 i hi, v4 i hi⟩
  have O5 : ∀ i, i < nn 5 → EL C' sp (RD R' jr) i := fun i hi => by
    unfold EL
    simp only [y5 i _ hi, x23 i hi, x28 i hi]
    exact g5 i hi
  have O6 : ∀ i, i < nn 6 → EX C' sp (RD R' jr) i := fun i hi => by
    unfold EX
    simp only [y6 i _ hi, x24 i hi, x25 i hi, x26 i hi, x27 i hi]
    exact g6 i hi
  refine ⟨hI.congr e0, hs, ?_, ⟨?_, ?_, ?_, ?_, ?_⟩, ⟨?_, ?_, ?_, ?_, ?_, ?_, ?_⟩, ?_, ?_, ?_⟩
  · unfold NB
    rw [up_ne 0 (by decide), up_eq, up_ne 2 (by decide), up_ne 3 (by decide), up_ne 4 (by decide), up_ne 5 (by decide), up_ne 6 (by decide)]
    omega
  · exact fun i hi => (O0 i (by rw [up_ne 0 (by decide)] at hi; exact hi)).2
  · exact fun i hi => by
      rcases Nat.lt_or_ge i (nn 1) with z | z
      · exact (O1 i z).2
      · have e : i = nn 1 := by rw [up_eq] at hi; omega
        rw [e]
        exact o2
  · exact fun i hi => by
      obtain ⟨f1, f2⟩ := (O2 i (by rw [up_ne 2 (by decide)] at hi; exact hi)).2
      refine ⟨f1, fun z => ?_⟩
      obtain ⟨l, r, p, hh, q1, q2, q3⟩ := f2 z
      exact ⟨l, r, p, hh, q1, by rw [up_eq]; omega, q3⟩
  · rw [up_ne 0 (by decide)]
    exact fun i hi => (O3 i (by rw [up_ne 3 (by decide)] at hi; exact hi)).2
  · exact fun i hi => (O4 i (by rw [up_ne 4 (by decide)] at hi; exact hi)).2
  · exact fun i hi => (O0 i (by rw [up_ne 0 (by decide)] at hi; exact hi)).1
  · exact fun i hi => by
      rcases Nat.lt_or_ge i (nn 1) with z | z
      · exact (O1 i z).1
      · have e : i = nn 1 := by rw [up_eq] at hi; omega
        rw [e]
        exact o1
  · exact fun i hi => (O2 i (by rw [up_ne 2 (by decide)] at hi; exact hi)).1
  · exact fun i hi => (O3 i (by rw [up_ne 3 (by decide)] at hi; exact hi)).1
  · exact fun i hi => (O4 i (by rw [up_ne 4 (by decide)] at hi; exact hi)).1
  · exact fun i hi => O5 i (by rw [up_ne 5 (by decide)] at hi; exact hi)
  · exact fun i hi => O6 i (by rw [up_ne 6 (by decide)] at hi; exact hi)
  · unfold CN
    rw [up_ne 0 (by decide), up_eq, up_ne 2 (by decide), up_ne 3 (by decide), up_ne 4 (by decide), up_ne 5 (by decide), up_ne 6 (by decide)]
    exact ⟨(c3 0 (by decide)).trans k0, c2, (c3 2 (by decide)).trans k2, (c3 3 (by decide)).trans k3, (c3 4 (by decide)).trans k4, (c3 5 (by decide)).trans k5, (c3 6 (by decide)).trans k6⟩
  · have z0 : ∀ j, RD R' jr 0 j = gI R' jr j := fun _ => rfl
    have z1 : ∀ j, RD R jr 0 j = gI R jr j := fun _ => rfl
    unfold EF at hE ⊢
    simp only [z0, z1] at hE ⊢
    rw [c4 8, c4 9, c4 10, c4 11, c4 12, c4 13, c4 14, c4 15, c4 16, c3 7 (by decide), c3 8 (by decide), c3 9 (by decide), r3 3 (by decide) (by decide), r3 27 (by decide) (by decide), r3 28 (by decide) (by decide), r3 29 (by decide) (by decide), r3 30 (by decide) (by decide), r3 31 (by decide) (by decide), r3 32 (by decide) (by decide), r3 33 (by decide) (by decide), r3 34 (by decide) (by decide)]
    exact hE
  · unfold DN
    rw [up_ne 0 (by decide), up_eq, up_ne 2 (by decide), up_ne 3 (by decide), up_ne 4 (by decide), up_ne 5 (by decide), up_ne 6 (by decide)]
    exact ⟨(r3 0 (by decide) (by decide)).trans d0, r2, (r3 2 (by decide) (by decide)).trans d2, (r3 4 (by decide) (by decide)).trans d3, (r3 5 (by decide) (by decide)).trans d4, (r3 6 (by decide) (by decide)).trans d5, (r3 7 (by decide) (by decide)).trans d6⟩
theorem PI.s2 {C R C' R' : MM} {sp jr : Nat} {nn : Nat → Nat} (h : PI C R sp jr nn) (hcap : nn 2 < 10) (e0 : C'.2.2 = C.2.2)
    (c1 : ∀ a j, sp + 9 ≤ a → a < sp + 52 → ¬ (sp + (19 + nn 2) ≤ a ∧ a < sp + (19 + nn 2) + 1) → gI C' a j = gI C a j)
    (c2 : gI C' (sp + 8) 2 = nI (nn 2 + 1)) (c3 : ∀ j, j ≠ 2 → gI C' (sp + 8) j = gI C (sp + 8) j) (c4 : ∀ j, j ≠ 8 → gI C' sp j = gI C sp j)
    (r1 : ∀ c i, 1 ≤ c → c < 29 → (c = 7 → i ≠ nn 2) → (c = 8 → i ≠ nn 2) → (c = 9 → i ≠ nn 2) → (c = 10 → i ≠ nn 2) → (c = 11 → i ≠ nn 2) → (c = 12 → i ≠ nn 2) → (c = 13 → i ≠ nn 2) → gI R' (jr + c) i = gI R (jr + c) i)
    (r2 : gI R' jr 2 = nI (nn 2 + 1)) (r3 : ∀ j, j ≠ 2 → j ≠ 8 → j ≠ 3 → gI R' jr j = gI R jr j) (l : gI C' sp 8 = gI R' jr 3)
    (o1 : ES C' sp (RD R' jr) (nn 2)) (o2 : VS (RD R' jr) (nn 1) (nn 2)) : PI C' R' sp jr (up nn 2) := by
  obtain ⟨hI, hs, hN, ⟨v0, v1, v2, v3, v4⟩, ⟨g0, g1, g2, g3, g4, g5, g6⟩, ⟨k0, k1, k2, k3, k4, k5, k6⟩, hE, hD⟩ := h
  obtain ⟨b0, b1, b2, b3, b4, b5, b6⟩ := hN
  obtain ⟨d0, d1, d2, d3, d4, d5, d6⟩ := hD
  have x1 : ∀ i, i < nn 0 → RD R' jr 1 i = RD R jr 1 i := fun i hi => r1 1 i (by decide) (by decide) (by omega) (by omega) (by omega) (by omega) (by omega) (by omega) (by omega)
  have x2 : ∀ i, i < nn 0 → RD R' jr 2 i = RD R jr 2 i := fun i hi => r1 2 i (by decide) (by decide) (by omega) (by omega) (by omega) (by omega) (by omega) (by omega) (by omega)
  have x3 : ∀ i, i < nn 0 → RD R' jr 3 i = RD R jr 3 i := fun i hi => r1 3 i (by decide) (by decide) (by omega) (by omega) (by omega) (by omega) (by omega) (by omega) (by omega)
  have x4 : ∀ i, i < nn 1 → RD R' jr 4 i = RD R jr 4 i := fun i hi => r1 4 i (by decide) (by decide) (by omega) (by omega) (by omega) (by omega) (by omega) (by omega) (by omega)
  have x5 : ∀ i, i < nn 1 → RD R' jr 5 i = RD R jr 5 i := fun i hi => r1 5 i (by decide) (by decide) (by omega) (by omega) (by omega) (by omega) (by omega) (by omega) (by omega)
  have x7 : ∀ i, i < nn 2 → RD R' jr 7 i = RD R jr 7 i := fun i hi => r1 7 i (by decide) (by decide) (by omega) (by omega) (by omega) (by omega) (by omega) (by omega) (by omega)
  have x8 : ∀ i, i < nn 2 → RD R' jr 8 i = RD R jr 8 i := fun i hi => r1 8 i (by decide) (by decide) (by omega) (by omega) (by omega) (by omega) (by omega) (by omega) (by omega)
  have x9 : ∀ i, i < nn 2 → RD R' jr 9 i = RD R jr 9 i := fun i hi => r1 9 i (by decide) (by decide) (by omega) (by omega) (by omega) (by omega) (by omega) (by omega) (by omega)
  have x10 : ∀ i, i < nn 2 → RD R' jr 10 i = RD R jr 10 i := fun i hi => r1 10 i (by decide) (by decide) (by omega) (by omega) (by omega) (by omega) (by omega) (by omega) (by omega)
  have x11 : ∀ i, i < nn 2 → RD R' jr 11 i = RD R jr 11 i := fun i hi => r1 11 i (by decide) (by decide) (by omega) (by omega) (by omega) (by omega) (by omega) (by omega) (by omega)
  have x12 : ∀ i, i < nn 2 → RD R' jr 12 i = RD R jr 12 i := fun i hi => r1 12 i (by decide) (by decide) (by omega) (by omega) (by omega) (by omega) (by omega) (by omega) (by omega)
  have x13 : ∀ i, i < nn 2 → RD R' jr 13 i = RD R jr 13 i := fun i hi => r1 13 i (by decide) (by decide) (by omega) (by omega) (by omega) (by omega) (by omega) (by omega) (by omega)
  have x14 : ∀ i, i < nn 3 → RD R' jr 14 i = RD R jr 14 i := fun i hi => r1 14 i (by decide) (by decide) (by omega) (by omega) (by omega) (by omega) (by omega) (by omega) (by omega)
  have x15 : ∀ i, i < nn 3 → RD R' jr 15 i = RD R jr 15 i := fun i hi => r1 15 i (by decide) (by decide) (by omega) (by omega) (by omega) (by omega) (by omega) (by omega) (by omega)
  have x16 : ∀ i, i < nn 3 → RD R' jr 16 i = RD R jr 16 i := fun i hi => r1 16 i (by decide) (by decide) (by omega) (by omega) (by omega) (by omega) (by omega) (by omega) (by omega)
  have x17 : ∀ i, i < nn 3 → RD R' jr 17 i = RD R jr 17 i := fun i hi => r1 17 i (by decide) (by decide) (by omega) (by omega) (by omega) (by omega) (by omega) (by omega) (by omega)
  have x18 : ∀ i, i < nn 3 → RD R' jr 18 i = RD R jr 18 i := fun i hi => r1 18 i (by decide) (by decide) (by omega) (by omega) (by omega) (by omega) (by omega) (by omega) (by omega)
  have x19 : ∀ i, i < nn 4 → RD R' jr 19 i = RD R jr 19 i := fun i hi => r1 19 i (by decide) (by decide) (by omega) (by omega) (by omega) (by omega) (by omega) (by omega) (by omega)
  have x20 : ∀ i, i < nn 4 → RD R' jr 20 i = RD R jr 20 i := fun i hi => r1 20 i (by decide) (by decide) (by omega) (by omega) (by omega) (by omega) (by omega) (by omega) (by omega)
  have x21 : ∀ i, i < nn 4 → RD R' jr 21 i = RD R jr 21 i := fun i hi => r1 21 i (by decide) (by decide) (by omega) (by omega) (by omega) (by omega) (by omega) (by omega) (by omega)
  have x22 : ∀ i, i < nn 4 → RD R' jr 22 i = RD R jr 22 i := fun i hi => r1 22 i (by decide) (by decide) (by omega) (by omega) (by omega) (by omega) (by omega) (by omega) (by omega)
  have x23 : ∀ i, i < nn 5 → RD R' jr 23 i = RD R jr 23 i := fun i hi => r1 23 i (by decide) (by decide) (by omega) (by omega) (by omega) (by omega) (by omega) (by omega) (by omega)
  have x28 : ∀ i, i < nn 5 → RD R' jr 28 i = RD R jr 28 i := fun i hi => r1 28 i (by decide) (by decide) (by omega) (by omega) (by omega) (by omega) (by omega) (by omega) (by omega)
  have x24 : ∀ i, i < nn 6 → RD R' jr 24 i = RD R jr 24 i := fun i hi => r1 24 i (by decide) (by decide) (by omega) (by omega) (by omega) (by omega) (by omega) (by omega) (by omega)
  have x25 : ∀ i, i < nn 6 → RD R' jr 25 i = RD R jr 25 i := fun i hi => r1 25 i (by decide) (by decide) (by omega) (by omega) (by omega) (by omega) (by omega) (by omega) (by omega)
  have x26 : ∀ i, i < nn 6 → RD R' jr 26 i = RD R jr 26 i := fun i hi => r1 26 i (by decide) (by decide) (by omega) (by omega) (by omega) (by omega) (by omega) (by omega) (by omega)
  have x27 : ∀ i, i < nn 6 → RD R' jr 27 i = RD R jr 27 i := fun i hi => r1 27 i (by decide) (by decide) (by omega) (by omega) (by omega) (by omega) (by omega) (by omega) (by omega)
  have x6 : ∀ i p, i < nn 1 → p < 6 → RD R' jr 6 (6 * i + p) = RD R jr 6 (6 * i + p) := fun i p hi hp => r1 6 (6 * i + p) (by decide) (by decide) (by omega) (by omega) (by omega) (by omega) (by omega) (by omega) (by omega)
  have y0 : ∀ i j, i < nn 0 → gI C' (sp + (9 + i)) j = gI C (sp + (9 + i)) j := fun i j hi => c1 _ j (by omega) (by omega) (by omega)
  have y1 : ∀ i j, i < nn 1 → gI C' (sp + (13 + 2 * i)) j = gI C (sp + (13 + 2 * i)) j := fun i j hi => c1 _ j (by omega) (by omega) (by omega)
  have y2 : ∀ i j, i < nn 2 → gI C' (sp + (19 + i)) j = gI C (sp + (19 + i)) j := fun i j hi => c1 _ j (by omega) (by omega) (by omega)
  have y3 : ∀ i j, i < nn 3 → gI C' (sp + (29 + i)) j = gI C (sp + (29 + i)) j := fun i j hi => c1 _ j (by omega) (by omega) (by omega)
  have y4 : ∀ i j, i < nn 4 → gI C' (sp + (34 + 2 * i)) j = gI C (sp + (34 + 2 * i)) j := fun i j hi => c1 _ j (by omega) (by omega) (by omega)
  have y5 : ∀ i j, i < nn 5 → gI C' (sp + (44 + i)) j = gI C (sp + (44 + i)) j := fun i j hi => c1 _ j (by omega) (by omega) (by omega)
  have y6 : ∀ i j, i < nn 6 → gI C' (sp + (47 + i)) j = gI C (sp + (47 + i)) j := fun i j hi => c1 _ j (by omega) (by omega) (by omega)
  have y1s : ∀ i j, i < nn 1 → gI C' (sp + (14 + 2 * i)) j = gI C (sp + (14 + 2 * i)) j := fun i j hi => c1 _ j (by omega) (by omega) (by omega)
  have up_ne : ∀ c, c ≠ 2 → up nn 2 c = nn c := fun c hc => if_neg hc
  have up_eq : up nn 2 2 = nn 2 + 1 := if_pos rfl
  have O0 : ∀ i, i < nn 0 → EW C' sp (RD R' jr) i ∧ VW (RD R' jr) i := fun i hi => by
    unfold EW VW
    simp only [y0 i _ hi, x1 i hi, x2 i hi, x3 i hi]
    exact ⟨g0 i hi, v0 i hi⟩
  have O1 : ∀ i, i < nn 1 → ER C' sp (RD R' jr) i ∧ VR (RD R' jr) i := fun i hi => by
    unfold ER VR
    simp only [y1 i _ hi, y1s i _ hi, x4 i hi, x5 i hi]
    exact ⟨⟨(g1 i hi).1, (g1 i hi).2.1, fun p q1 q2 => by rw [x6 i p hi q2]; exact (g1 i hi).2.2 p q1 q2⟩, v1 i hi⟩
  have O2 : ∀ i, i < nn 2 → ES C' sp (RD R' jr) i ∧ VS (RD R' jr) (nn 1) i := fun i hi => by
    unfold ES VS
    simp only [y2 i _ hi, x7 i hi, x8 i hi, x9 i hi, x10 i hi, x11 i hi, x12 i hi, x13 i hi]
    obtain ⟨e1, e2, e3, e4, e5, e6, e7, e8⟩ := g2 i hi
    obtain ⟨f1, f2⟩ := v2 i hi
    refine ⟨⟨e1, e2, e3, e4, e5, e6, e7, fun z r p z1 z2 z3 z4 => ?_⟩, f1, fun z => ?_⟩
    · obtain ⟨l, r', p', hh, q1, q2, q3, q4, q5, q6, q7, q8⟩ := f2 z
      have er : r = r' := (nI_eq (by omega) (by omega)).mp (z1.symm.trans q6)
      rw [x6 r p (by omega) z4]
      exact e8 z r p z1 z2 z3 z4
    · obtain ⟨l, r, p, hh, q1, q2, q3, q4, q5, q6, q7, q8⟩ := f2 z
      exact ⟨l, r, p, hh, q1, q2, q3, q4, q5, q6, q7, (x5 r q2).trans q8⟩
  have O3 : ∀ i, i < nn 3 → ET C' sp (RD R' jr) i ∧ VT (RD R' jr) (nn 0) i := fun i hi => by
    unfold ET VT
    simp only [y3 i _ hi, x14 i hi, x15 i hi, x16 i hi, x17 i hi, x18 i hi]
    exact ⟨g3 i hi, v3 i hi⟩
  have O4 : ∀ i, i < nn 4 → EY C' sp (RD R' jr) i ∧ VY (RD R' jr) i := fun i hi => by
    unfold EY VY
    simp only [y4 i _ hi, x19 i hi, x20 i hi, x21 i hi, x22 i hi]
    exact ⟨g4 i hi, v4 i hi⟩
  have O5 : ∀ i, i < nn 5 → EL C' sp (RD R' jr) i := fun i hi => by
    unfold EL
    simp only [y5 i _ hi, x23 i hi, x28 i hi]
    exact g5 i hi
  have O6 : ∀ i, i < nn 6 → EX C' sp (RD R' jr) i := fun i hi => by
    unfold EX
    simp only [y6 i _ hi, x24 i hi, x25 i hi, x26 i hi, x27 i hi]
    exact g6 i hi
  refine ⟨hI.congr e0, hs, ?_, ⟨?_, ?_, ?_, ?_, ?_⟩, ⟨?_, ?_, ?_, ?_, ?_, ?_, ?_⟩, ?_, ?_, ?_⟩
  · unfold NB
    rw [up_ne 0 (by decide), up_ne 1 (by decide), up_eq, up_ne 3 (by decide), up_ne 4 (by decide), up_ne 5 (by decide), up_ne 6 (by decide)]
    omega
  · exact fun i hi => (O0 i (by rw [up_ne 0 (by decide)] at hi; exact hi)).2
  · exact fun i hi => (O1 i (by rw [up_ne 1 (by decide)] at hi; exact hi)).2
  · rw [up_ne 1 (by decide)]
    exact fun i hi => by
      rcases Nat.lt_or_ge i (nn 2) with z | z
      · exact (O2 i z).2
      · have e : i = nn 2 := by rw [up_eq] at hi; omega
        rw [e]
        exact o2
  · rw [up_ne 0 (by decide)]
    exact fun i hi => (O3 i (by rw [up_ne 3 (by decide)] at hi; exact hi)).2
  · exact fun i hi => (O4 i (by rw [up_ne 4 (by decide)] at hi; exact hi)).2
  · exact fun i hi => (O0 i (by rw [up_ne 0 (by decide)] at hi; exact hi)).1
  · exact fun i hi => (O1 i (by rw [up_ne 1 (by decide)] at hi; exact hi)).1
  · exact fun i hi => by
      rcases Nat.lt_or_ge i (nn 2) with z | z
      · exact (O2 i z).1
      · have e : i = nn 2 := by rw [up_eq] at hi; omega
        rw [e]
        exact o1
  · exact fun i hi => (O3 i (by rw [up_ne 3 (by decide)] at hi; exact hi)).1
  · exact fun i hi => (O4 i (by rw [up_ne 4 (by decide)] at hi; exact hi)).1
  · exact fun i hi => O5 i (by rw [up_ne 5 (by decide)] at hi; exact hi)
  · exact fun i hi => O6 i (by rw [up_ne 6 (by decide)] at hi; exact hi)
  · unfold CN
    rw [up_ne 0 (by decide), up_ne 1 (by decide), up_eq, up_ne 3 (by decide), up_ne 4 (by decide), up_ne 5 (by decide), up_ne 6 (by decide)]
    exact ⟨(c3 0 (by decide)).trans k0, (c3 1 (by decide)).trans k1, c2, (c3 3 (by decide)).trans k3, (c3 4 (by decide)).trans k4, (c3 5 (by decide)).trans k5, (c3 6 (by decide)).trans k6⟩
  · have z0 : ∀ j, RD R' jr 0 j = gI R' jr j := fun _ => rfl
    have z1 : ∀ j, RD R jr 0 j = gI R jr j := fun _ => rfl
    unfold EF at hE ⊢
    simp only [z0, z1] at hE ⊢
    rw [c4 9 (by decide), c4 10 (by decide), c4 11 (by decide), c4 12 (by decide), c4 13 (by decide), c4 14 (by decide), c4 15 (by decide), c4 16 (by decide), c3 7 (by decide), c3 8 (by decide), c3 9 (by decide), r3 27 (by decide) (by decide) (by decide), r3 28 (by decide) (by decide) (by decide), r3 29 (by decide) (by decide) (by decide), r3 30 (by decide) (by decide) (by decide), r3 31 (by decide) (by decide) (by decide), r3 32 (by decide) (by decide) (by decide), r3 33 (by decide) (by decide) (by decide), r3 34 (by decide) (by decide) (by decide)]
    exact ⟨l, hE.2⟩
  · unfold DN
    rw [up_ne 0 (by decide), up_ne 1 (by decide), up_eq, up_ne 3 (by decide), up_ne 4 (by decide), up_ne 5 (by decide), up_ne 6 (by decide)]
    exact ⟨(r3 0 (by decide) (by decide) (by decide)).trans d0, (r3 1 (by decide) (by decide) (by decide)).trans d1, r2, (r3 4 (by decide) (by decide) (by decide)).trans d3, (r3 5 (by decide) (by decide) (by decide)).trans d4, (r3 6 (by decide) (by decide) (by decide)).trans d5, (r3 7 (by decide) (by decide) (by decide)).trans d6⟩
theorem PI.s3 {C R C' R' : MM} {sp jr : Nat} {nn : Nat → Nat} (h : PI C R sp jr nn) (hcap : nn 3 < 5) (e0 : C'.2.2 = C.2.2)
    (c1 : ∀ a j, sp + 9 ≤ a → a < sp + 52 → ¬ (sp + (29 + nn 3) ≤ a ∧ a < sp + (29 + nn 3) + 1) → gI C' a j = gI C a j)
    (c2 : gI C' (sp + 8) 3 = nI (nn 3 + 1)) (c3 : ∀ j, j ≠ 3 → gI C' (sp + 8) j = gI C (sp + 8) j) (c4 : ∀ j, gI C' sp j = gI C sp j)
    (r1 : ∀ c i, 1 ≤ c → c < 29 → (c = 14 → i ≠ nn 3) → (c = 15 → i ≠ nn 3) → (c = 16 → i ≠ nn 3) → (c = 17 → i ≠ nn 3) → (c = 18 → i ≠ nn 3) → gI R' (jr + c) i = gI R (jr + c) i)
    (r2 : gI R' jr 4 = nI (nn 3 + 1)) (r3 : ∀ j, j ≠ 4 → j ≠ 8 → gI R' jr j = gI R jr j)
    (o1 : ET C' sp (RD R' jr) (nn 3)) (o2 : VT (RD R' jr) (nn 0) (nn 3)) : PI C' R' sp jr (up nn 3) := by
  obtain ⟨hI, hs, hN, ⟨v0, v1, v2, v3, v4⟩, ⟨g0, g1, g2, g3, g4, g5, g6⟩, ⟨k0, k1, k2, k3, k4, k5, k6⟩, hE, hD⟩ := h
  obtain ⟨b0, b1, b2, b3, b4, b5, b6⟩ := hN
  obtain ⟨d0, d1, d2, d3, d4, d5, d6⟩ := hD
  have x1 : ∀ i, i < nn 0 → RD R' jr 1 i = RD R jr 1 i := fun i hi => r1 1 i (by decide) (by decide) (by omega) (by omega) (by omega) (by omega) (by omega)
  have x2 : ∀ i, i < nn 0 → RD R' jr 2 i = RD R jr 2 i := fun i hi => r1 2 i (by decide) (by decide) (by omega) (by omega) (by omega) (by omega) (by omega)
  have x3 : ∀ i, i < nn 0 → RD R' jr 3 i = RD R jr 3 i := fun i hi => r1 3 i (by decide) (by decide) (by omega) (by omega) (by omega) (by omega) (by omega)
  have x4 : ∀ i, i < nn 1 → RD R' jr 4 i = RD R jr 4 i := fun i hi => r1 4 i (by decide) (by decide) (by omega) (by omega) (by omega) (by omega) (by omega)
  have x5 : ∀ i, i < nn 1 → RD R' jr 5 i = RD R jr 5 i := fun i hi => r1 5 i (by decide) (by decide) (by omega) (by omega) (by omega) (by omega) (by omega)
  have x7 : ∀ i, i < nn 2 → RD R' jr 7 i = RD R jr 7 i := fun i hi => r1 7 i (by decide) (by decide) (by omega) (by omega) (by omega) (by omega) (by omega)
  have x8 : ∀ i, i < nn 2 → RD R' jr 8 i = RD R jr 8 i := fun i hi => r1 8 i (by decide) (by decide) (by omega) (by omega) (by omega) (by omega) (by omega)
  have x9 : ∀ i, i < nn 2 → RD R' jr 9 i = RD R jr 9 i := fun i hi => r1 9 i (by decide) (by decide) (by omega) (by omega) (by omega) (by omega) (by omega)
  have x10 : ∀ i, i < nn 2 → RD R' jr 10 i = RD R jr 10 i := fun i hi => r1 10 i (by decide) (by decide) (by omega) (by omega) (by omega) (by omega) (by omega)
  have x11 : ∀ i, i < nn 2 → RD R' jr 11 i = RD R jr 11 i := fun i hi => r1 11 i (by decide) (by decide) (by omega) (by omega) (by omega) (by omega) (by omega)
  have x12 : ∀ i, i < nn 2 → RD R' jr 12 i = RD R jr 12 i := fun i hi => r1 12 i (by decide) (by decide) (by omega) (by omega) (by omega) (by omega) (by omega)
  have x13 : ∀ i, i < nn 2 → RD R' jr 13 i = RD R jr 13 i := fun i hi => r1 13 i (by decide) (by decide) (by omega) (by omega) (by omega) (by omega) (by omega)
  have x14 : ∀ i, i < nn 3 → RD R' jr 14 i = RD R jr 14 i := fun i hi => r1 14 i (by decide) (by decide) (by omega) (by omega) (by omega) (by omega) (by omega)
  have x15 : ∀ i, i < nn 3 → RD R' jr 15 i = RD R jr 15 i := fun i hi => r1 15 i (by decide) (by decide) (by omega) (by omega) (by omega) (by omega) (by omega)
  have x16 : ∀ i, i < nn 3 → RD R' jr 16 i = RD R jr 16 i := fun i hi => r1 16 i (by decide) (by decide) (by omega) (by omega) (by omega) (by omega) (by omega)
  have x17 : ∀ i, i < nn 3 → RD R' jr 17 i = RD R jr 17 i := fun i hi => r1 17 i (by decide) (by decide) (by omega) (by omega) (by omega) (by omega) (by omega)
  have x18 : ∀ i, i < nn 3 → RD R' jr 18 i = RD R jr 18 i := fun i hi => r1 18 i (by decide) (by decide) (by omega) (by omega) (by omega) (by omega) (by omega)
  have x19 : ∀ i, i < nn 4 → RD R' jr 19 i = RD R jr 19 i := fun i hi => r1 19 i (by decide) (by decide) (by omega) (by omega) (by omega) (by omega) (by omega)
  have x20 : ∀ i, i < nn 4 → RD R' jr 20 i = RD R jr 20 i := fun i hi => r1 20 i (by decide) (by decide) (by omega) (by omega) (by omega) (by omega) (by omega)
  have x21 : ∀ i, i < nn 4 → RD R' jr 21 i = RD R jr 21 i := fun i hi => r1 21 i (by decide) (by decide) (by omega) (by omega) (by omega) (by omega) (by omega)
  have x22 : ∀ i, i < nn 4 → RD R' jr 22 i = RD R jr 22 i := fun i hi => r1 22 i (by decide) (by decide) (by omega) (by omega) (by omega) (by omega) (by omega)
  have x23 : ∀ i, i < nn 5 → RD R' jr 23 i = RD R jr 23 i := fun i hi => r1 23 i (by decide) (by decide) (by omega) (by omega) (by omega) (by omega) (by omega)
  have x28 : ∀ i, i < nn 5 → RD R' jr 28 i = RD R jr 28 i := fun i hi => r1 28 i (by decide) (by decide) (by omega) (by omega) (by omega) (by omega) (by omega)
  have x24 : ∀ i, i < nn 6 → RD R' jr 24 i = RD R jr 24 i := fun i hi => r1 24 i (by decide) (by decide) (by omega) (by omega) (by omega) (by omega) (by omega)
  have x25 : ∀ i, i < nn 6 → RD R' jr 25 i = RD R jr 25 i := fun i hi => r1 25 i (by decide) (by decide) (by omega) (by omega) (by omega) (by omega) (by omega)
  have x26 : ∀ i, i < nn 6 → RD R' jr 26 i = RD R jr 26 i := fun i hi => r1 26 i (by decide) (by decide) (by omega) (by omega) (by omega) (by omega) (by omega)
  have x27 : ∀ i, i < nn 6 → RD R' jr 27 i = RD R jr 27 i := fun i hi => r1 27 i (by decide) (by decide) (by omega) (by omega) (by omega) (by omega) (by omega)
  have x6 : ∀ i p, i < nn 1 → p < 6 → RD R' jr 6 (6 * i + p) = RD R jr 6 (6 * i + p) := fun i p hi hp => r1 6 (6 * i + p) (by decide) (by decide) (by omega) (by omega) (by omega) (by omega) (by omega)
  have y0 : ∀ i j, i < nn 0 → gI C' (sp + (9 + i)) j = gI C (sp + (9 + i)) j := fun i j hi => c1 _ j (by omega) (by omega) (by omega)
  have y1 : ∀ i j, i < nn 1 → gI C' (sp + (13 + 2 * i)) j = gI C (sp + (13 + 2 * i)) j := fun i j hi => c1 _ j (by omega) (by omega) (by omega)
  have y2 : ∀ i j, i < nn 2 → gI C' (sp + (19 + i)) j = gI C (sp + (19 + i)) j := fun i j hi => c1 _ j (by omega) (by omega) (by omega)
  have y3 : ∀ i j, i < nn 3 → gI C' (sp + (29 + i)) j = gI C (sp + (29 + i)) j := fun i j hi => c1 _ j (by omega) (by omega) (by omega)
  have y4 : ∀ i j, i < nn 4 → gI C' (sp + (34 + 2 * i)) j = gI C (sp + (34 + 2 * i)) j := fun i j hi => c1 _ j (by omega) (by omega) (by omega)
  have y5 : ∀ i j, i < nn 5 → gI C' (sp + (44 + i)) j = gI C (sp + (44 + i)) j := fun i j hi => c1 _ j (by omega) (by omega) (by omega)
  have y6 : ∀ i j, i < nn 6 → gI C' (sp + (47 + i)) j = gI C (sp + (47 + i)) j := fun i j hi => c1 _ j (by omega) (by omega) (by omega)
  have y1s : ∀ i j, i < nn 1 → gI C' (sp + (14 + 2 * i)) j = gI C (sp + (14 + 2 * i)) j := fun i j hi => c1 _ j (by omega) (by omega) (by omega)
  have up_ne : ∀ c, c ≠ 3 → up nn 3 c = nn c := fun c hc => if_neg hc
  have up_eq : up nn 3 3 = nn 3 + 1 := if_pos rfl
  have O0 : ∀ i, i < nn 0 → EW C' sp (RD R' jr) i ∧ VW (RD R' jr) i := fun i hi => by
    unfold EW VW
    simp only [y0 i _ hi, x1 i hi, x2 i hi, x3 i hi]
    exact ⟨g0 i hi, v0 i hi⟩
  have O1 : ∀ i, i < nn 1 → ER C' sp (RD R' jr) i ∧ VR (RD R' jr) i := fun i hi => by
    unfold ER VR
    simp only [y1 i _ hi, y1s i _ hi, x4 i hi, x5 i hi]
    exact ⟨⟨(g1 i hi).1, (g1 i hi).2.1, fun p q1 q2 => by rw [x6 i p hi q2]; exact (g1 i hi).2.2 p q1 q2⟩, v1 i hi⟩
  have O2 : ∀ i, i < nn 2 → ES C' sp (RD R' jr) i ∧ VS (RD R' jr) (nn 1) i := fun i hi => by
    unfold ES VS
    simp only [y2 i _ hi, x7 i hi, x8 i hi, x9 i hi, x10 i hi, x11 i hi, x12 i hi, x13 i hi]
    obtain ⟨e1, e2, e3, e4, e5, e6, e7, e8⟩ := g2 i hi
    obtain ⟨f1, f2⟩ := v2 i hi
    refine ⟨⟨e1, e2, e3, e4, e5, e6, e7, fun z r p z1 z2 z3 z4 => ?_⟩, f1, fun z => ?_⟩
    · obtain ⟨l, r', p', hh, q1, q2, q3, q4, q5, q6, q7, q8⟩ := f2 z
      have er : r = r' := (nI_eq (by omega) (by omega)).mp (z1.symm.trans q6)
      rw [x6 r p (by omega) z4]
      exact e8 z r p z1 z2 z3 z4
    · obtain ⟨l, r, p, hh, q1, q2, q3, q4, q5, q6, q7, q8⟩ := f2 z
      exact ⟨l, r, p, hh, q1, q2, q3, q4, q5, q6, q7, (x5 r q2).trans q8⟩
  have O3 : ∀ i, i < nn 3 → ET C' sp (RD R' jr) i ∧ VT (RD R' jr) (nn 0) i := fun i hi => by
    unfold ET VT
    simp only [y3 i _ hi, x14 i hi, x15 i hi, x16 i hi, x17 i hi, x18 i hi]
    exact ⟨g3 i hi, v3 i hi⟩
  have O4 : ∀ i, i < nn 4 → EY C' sp (RD R' jr) i ∧ VY (RD R' jr) i := fun i hi => by
    unfold EY VY
    simp only [y4 i _ hi, x19 i hi, x20 i hi, x21 i hi, x22 i hi]
    exact ⟨g4 i hi, v4 i hi⟩
  have O5 : ∀ i, i < nn 5 → EL C' sp (RD R' jr) i := fun i hi => by
    unfold EL
    simp only [y5 i _ hi, x23 i hi, x28 i hi]
    exact g5 i hi
  have O6 : ∀ i, i < nn 6 → EX C' sp (RD R' jr) i := fun i hi => by
    unfold EX
    simp only [y6 i _ hi, x24 i hi, x25 i hi, x26 i hi, x27 i hi]
    exact g6 i hi
  refine ⟨hI.congr e0, hs, ?_, ⟨?_, ?_, ?_, ?_, ?_⟩, ⟨?_, ?_, ?_, ?_, ?_, ?_, ?_⟩, ?_, ?_, ?_⟩
  · unfold NB
    rw [up_ne 0 (by decide), up_ne 1 (by decide), up_ne 2 (by decide), up_eq, up_ne 4 (by decide), up_ne 5 (by decide), up_ne 6 (by decide)]
    omega
  · exact fun i hi => (O0 i (by rw [up_ne 0 (by decide)] at hi; exact hi)).2
  · exact fun i hi => (O1 i (by rw [up_ne 1 (by decide)] at hi; exact hi)).2
  · rw [up_ne 1 (by decide)]
    exact fun i hi => (O2 i (by rw [up_ne 2 (by decide)] at hi; exact hi)).2
  · rw [up_ne 0 (by decide)]
    exact fun i hi => by
      rcases Nat.lt_or_ge i (nn 3) with z | z
      · exact (O3 i z).2
      · have e : i = nn 3 := by rw [up_eq] at hi; omega
        rw [e]
        exact o2
  · exact fun i hi => (O4 i (by rw [up_ne 4 (by decide)] at hi; exact hi)).2
  · exact fun i hi => (O0 i (by rw [up_ne 0 (by decide)] at hi; exact hi)).1
  · exact fun i hi => (O1 i (by rw [up_ne 1 (by decide)] at hi; exact hi)).1
  · exact fun i hi => (O2 i (by rw [up_ne 2 (by decide)] at hi; exact hi)).1
  · exact fun i hi => by
      rcases Nat.lt_or_ge i (nn 3) with z | z
      · exact (O3 i z).1
      · have e : i = nn 3 := by rw [up_eq] at hi; omega
        rw [e]
        exact o1
  · exact fun i hi => (O4 i (by rw [up_ne 4 (by decide)] at hi; exact hi)).1
  · exact fun i hi => O5 i (by rw [up_ne 5 (by decide)] at hi; exact hi)
  · exact fun i hi => O6 i (by rw [up_ne 6 (by decide)] at hi; exact hi)
  · unfold CN
    rw [up_ne 0 (by decide), up_ne 1 (by decide), up_ne 2 (by decide), up_eq, up_ne 4 (by decide), up_ne 5 (by decide), up_ne 6 (by decide)]
    exact ⟨(c3 0 (by decide)).trans k0, (c3 1 (by decide)).trans k1, (c3 2 (by decide)).trans k2, c2, (c3 4 (by decide)).trans k4, (c3 5 (by decide)).trans k5, (c3 6 (by decide)).trans k6⟩
  · have z0 : ∀ j, RD R' jr 0 j = gI R' jr j := fun _ => rfl
    have z1 : ∀ j, RD R jr 0 j = gI R jr j := fun _ => rfl
    unfold EF at hE ⊢
    simp only [z0, z1] at hE ⊢
    rw [c4 8, c4 9, c4 10, c4 11, c4 12, c4 13, c4 14, c4 15, c4 16, c3 7 (by decide), c3 8 (by decide), c3 9 (by decide), r3 3 (by decide) (by decide), r3 27 (by decide) (by decide), r3 28 (by decide) (by decide), r3 29 (by decide) (by decide), r3 30 (by decide) (by decide), r3 31 (by decide) (by decide), r3 32 (by decide) (by decide), r3 33 (by decide) (by decide), r3 34 (by decide) (by decide)]
    exact hE
  · unfold DN
    rw [up_ne 0 (by decide), up_ne 1 (by decide), up_ne 2 (by decide), up_eq, up_ne 4 (by decide), up_ne 5 (by decide), up_ne 6 (by decide)]
    exact ⟨(r3 0 (by decide) (by decide)).trans d0, (r3 1 (by decide) (by decide)).trans d1, (r3 2 (by decide) (by decide)).trans d2, r2, (r3 5 (by decide) (by decide)).trans d4, (r3 6 (by decide) (by decide)).trans d5, (r3 7 (by decide) (by decide)).trans d6⟩
theorem PI.s4 {C R C' R' : MM} {sp jr : Nat} {nn : Nat → Nat} (h : PI C R sp jr nn) (hcap : nn 4 < 5) (e0 : C'.2.2 = C.2.2)
    (c1 : ∀ a j, sp + 9 ≤ a → a < sp + 52 → ¬ (sp + (34 + 2 * nn 4) ≤ a ∧ a < sp + (34 + 2 * nn 4) + 2) → gI C' a j = gI C a j)
    (c2 : gI C' (sp + 8) 4 = nI (nn 4 + 1)) (c3 : ∀ j, j ≠ 4 → gI C' (sp + 8) j = gI C (sp + 8) j) (c4 : ∀ j, gI C' sp j = gI C sp j)
    (r1 : ∀ c i, 1 ≤ c → c < 29 → (c = 19 → i ≠ nn 4) → (c = 20 → i ≠ nn 4) → (c = 21 → i ≠ nn 4) → (c = 22 → i ≠ nn 4) → gI R' (jr + c) i = gI R (jr + c) i)
    (r2 : gI R' jr 5 = nI (nn 4 + 1)) (r3 : ∀ j, j ≠ 5 → j ≠ 8 → gI R' jr j = gI R jr j)
    (o1 : EY C' sp (RD R' jr) (nn 4)) (o2 : VY (RD R' jr) (nn 4)) : PI C' R' sp jr (up nn 4) := by
  obtain ⟨hI, hs, hN, ⟨v0, v1, v2, v3, v4⟩, ⟨g0, g1, g2, g3, g4, g5, g6⟩, ⟨k0, k1, k2, k3, k4, k5, k6⟩, hE, hD⟩ := h
  obtain ⟨b0, b1, b2, b3, b4, b5, b6⟩ := hN
  obtain ⟨d0, d1, d2, d3, d4, d5, d6⟩ := hD
  have x1 : ∀ i, i < nn 0 → RD R' jr 1 i = RD R jr 1 i := fun i hi => r1 1 i (by decide) (by decide) (by omega) (by omega) (by omega) (by omega)
  have x2 : ∀ i, i < nn 0 → RD R' jr 2 i = RD R jr 2 i := fun i hi => r1 2 i (by decide) (by decide) (by omega) (by omega) (by omega) (by omega)
  have x3 : ∀ i, i < nn 0 → RD R' jr 3 i = RD R jr 3 i := fun i hi => r1 3 i (by decide) (by decide) (by omega) (by omega) (by omega) (by omega)
  have x4 : ∀ i, i < nn 1 → RD R' jr 4 i = RD R jr 4 i := fun i hi => r1 4 i (by decide) (by decide) (by omega) (by omega) (by omega) (by omega)
  have x5 : ∀ i, i < nn 1 → RD R' jr 5 i = RD R jr 5 i := fun i hi => r1 5 i (by decide) (by decide) (by omega) (by omega) (by omega) (by omega)
  have x7 : ∀ i, i < nn 2 → RD R' jr 7 i = RD R jr 7 i := fun i hi => r1 7 i (by decide) (by decide) (by omega) (by omega) (by omega) (by omega)
  have x8 : ∀ i, i < nn 2 → RD R' jr 8 i = RD R jr 8 i := fun i hi => r1 8 i (by decide) (by decide) (by omega) (by omega) (by omega) (by omega)
  have x9 : ∀ i, i < nn 2 → RD R' jr 9 i = RD R jr 9 i := fun i hi => r1 9 i (by decide) (by decide) (by omega) (by omega) (by omega) (by omega)
  have x10 : ∀ i, i < nn 2 → RD R' jr 10 i = RD R jr 10 i := fun i hi => r1 10 i (by decide) (by decide) (by omega) (by omega) (by omega) (by omega)
  have x11 : ∀ i, i < nn 2 → RD R' jr 11 i = RD R jr 11 i := fun i hi => r1 11 i (by decide) (by decide) (by omega) (by omega) (by omega) (by omega)
  have x12 : ∀ i, i < nn 2 → RD R' jr 12 i = RD R jr 12 i := fun i hi => r1 12 i (by decide) (by decide) (by omega) (by omega) (by omega) (by omega)
  have x13 : ∀ i, i < nn 2 → RD R' jr 13 i = RD R jr 13 i := fun i hi => r1 13 i (by decide) (by decide) (by omega) (by omega) (by omega) (by omega)
  have x14 : ∀ i, i < nn 3 → RD R' jr 14 i = RD R jr 14 i := fun i hi => r1 14 i (by decide) (by decide) (by omega) (by omega) (by omega) (by omega)
  have x15 : ∀ i, i < nn 3 → RD R' jr 15 i = RD R jr 15 i := fun i hi => r1 15 i (by decide) (by decide) (by omega) (by omega) (by omega) (by omega)
  have x16 : ∀ i, i < nn 3 → RD R' jr 16 i = RD R jr 16 i := fun i hi => r1 16 i (by decide) (by decide) (by omega) (by omega) (by omega) (by omega)
  have x17 : ∀ i, i < nn 3 → RD R' jr 17 i = RD R jr 17 i := fun i hi => r1 17 i (by decide) (by decide) (by omega) (by omega) (by omega) (by omega)
  have x18 : ∀ i, i < nn 3 → RD R' jr 18 i = RD R jr 18 i := fun i hi => r1 18 i (by decide) (by decide) (by omega) (by omega) (by omega) (by omega)
  have x19 : ∀ i, i < nn 4 → RD R' jr 19 i = RD R jr 19 i := fun i hi => r1 19 i (by decide) (by decide) (by omega) (by omega) (by omega) (by omega)
  have x20 : ∀ i, i < nn 4 → RD R' jr 20 i = RD R jr 20 i := fun i hi => r1 20 i (by decide) (by decide) (by omega) (by omega) (by omega) (by omega)
  have x21 : ∀ i, i < nn 4 → RD R' jr 21 i = RD R jr 21 i := fun i hi => r1 21 i (by decide) (by decide) (by omega) (by omega) (by omega) (by omega)
  have x22 : ∀ i, i < nn 4 → RD R' jr 22 i = RD R jr 22 i := fun i hi => r1 22 i (by decide) (by decide) (by omega) (by omega) (by omega) (by omega)
  have x23 : ∀ i, i < nn 5 → RD R' jr 23 i = RD R jr 23 i := fun i hi => r1 23 i (by decide) (by decide) (by omega) (by omega) (by omega) (by omega)
  have x28 : ∀ i, i < nn 5 → RD R' jr 28 i = RD R jr 28 i := fun i hi => r1 28 i (by decide) (by decide) (by omega) (by omega) (by omega) (by omega)
  have x24 : ∀ i, i < nn 6 → RD R' jr 24 i = RD R jr 24 i := fun i hi => r1 24 i (by decide) (by decide) (by omega) (by omega) (by omega) (by omega)
  have x25 : ∀ i, i < nn 6 → RD R' jr 25 i = RD R jr 25 i := fun i hi => r1 25 i (by decide) (by decide) (by omega) (by omega) (by omega) (by omega)
  have x26 : ∀ i, i < nn 6 → RD R' jr 26 i = RD R jr 26 i := fun i hi => r1 26 i (by decide) (by decide) (by omega) (by omega) (by omega) (by omega)
  have x27 : ∀ i, i < nn 6 → RD R' jr 27 i = RD R jr 27 i := fun i hi => r1 27 i (by decide) (by decide) (by omega) (by omega) (by omega) (by omega)
  have x6 : ∀ i p, i < nn 1 → p < 6 → RD R' jr 6 (6 * i + p) = RD R jr 6 (6 * i + p) := fun i p hi hp => r1 6 (6 * i + p) (by decide) (by decide) (by omega) (by omega) (by omega) (by omega)
  have y0 : ∀ i j, i < nn 0 → gI C' (sp + (9 + i)) j = gI C (sp + (9 + i)) j := fun i j hi => c1 _ j (by omega) (by omega) (by omega)
  have y1 : ∀ i j, i < nn 1 → gI C' (sp + (13 + 2 * i)) j = gI C (sp + (13 + 2 * i)) j := fun i j hi => c1 _ j (by omega) (by omega) (by omega)
  have y2 : ∀ i j, i < nn 2 → gI C' (sp + (19 + i)) j = gI C (sp + (19 + i)) j := fun i j hi => c1 _ j (by omega) (by omega) (by omega)
  have y3 : ∀ i j, i < nn 3 → gI C' (sp + (29 + i)) j = gI C (sp + (29 + i)) j := fun i j hi => c1 _ j (by omega) (by omega) (by omega)
  have y4 : ∀ i j, i < nn 4 → gI C' (sp + (34 + 2 * i)) j = gI C (sp + (34 + 2 * i)) j := fun i j hi => c1 _ j (by omega) (by omega) (by omega)
  have y5 : ∀ i j, i < nn 5 → gI C' (sp + (44 + i)) j = gI C (sp + (44 + i)) j := fun i j hi => c1 _ j (by omega) (by omega) (by omega)
  have y6 : ∀ i j, i < nn 6 → gI C' (sp + (47 + i)) j = gI C (sp + (47 + i)) j := fun i j hi => c1 _ j (by omega) (by omega) (by omega)
  have y1s : ∀ i j, i < nn 1 → gI C' (sp + (14 + 2 * i)) j = gI C (sp + (14 + 2 * i)) j := fun i j hi => c1 _ j (by omega) (by omega) (by omega)
  have up_ne : ∀ c, c ≠ 4 → up nn 4 c = nn c := fun c hc => if_neg hc
  have up_eq : up nn 4 4 = nn 4 + 1 := if_pos rfl
  have O0 : ∀ i, i < nn 0 → EW C' sp (RD R' jr) i ∧ VW (RD R' jr) i := fun i hi => by
    unfold EW VW
    simp only [y0 i _ hi, x1 i hi, x2 i hi, x3 i hi]
    exact ⟨g0 i hi, v0 i hi⟩
  have O1 : ∀ i, i < nn 1 → ER C' sp (RD R' jr) i ∧ VR (RD R' jr) i := fun i hi => by
    unfold ER VR
    simp only [y1 i _ hi, y1s i _ hi, x4 i hi, x5 i hi]
    exact ⟨⟨(g1 i hi).1, (g1 i hi).2.1, fun p q1 q2 => by rw [x6 i p hi q2]; exact (g1 i hi).2.2 p q1 q2⟩, v1 i hi⟩
  have O2 : ∀ i, i < nn 2 → ES C' sp (RD R' jr) i ∧ VS (RD R' jr) (nn 1) i := fun i hi => by
    unfold ES VS
    simp only [y2 i _ hi, x7 i hi, x8 i hi, x9 i hi, x10 i hi, x11 i hi, x12 i hi, x13 i hi]
    obtain ⟨e1, e2, e3, e4, e5, e6, e7, e8⟩ := g2 i hi
    obtain ⟨f1, f2⟩ := v2 i hi
    refine ⟨⟨e1, e2, e3, e4, e5, e6, e7, fun z r p z1 z2 z3 z4 => ?_⟩, f1, fun z => ?_⟩
    · obtain ⟨l, r', p', hh, q1, q2, q3, q4, q5, q6, q7, q8⟩ := f2 z
      have er : r = r' := (nI_eq (by omega) (by omega)).mp (z1.symm.trans q6)
      rw [x6 r p (by omega) z4]
      exact e8 z r p z1 z2 z3 z4
    · obtain ⟨l, r, p, hh, q1, q2, q3, q4, q5, q6, q7, q8⟩ := f2 z
      exact ⟨l, r, p, hh, q1, q2, q3, q4, q5, q6, q7, (x5 r q2).trans q8⟩
  have O3 : ∀ i, i < nn 3 → ET C' sp (RD R' jr) i ∧ VT (RD R' jr) (nn 0) i := fun i hi => by
    unfold ET VT
    simp only [y3 i _ hi, x14 i hi, x15 i hi, x16 i hi, x17 i hi, x18 i hi]
    exact ⟨g3 i hi, v3 i hi⟩
  have O4 : ∀ i, i < nn 4 → EY C' sp (RD R' jr) i ∧ VY (RD R' jr) i := fun i hi => by
    unfold EY VY
    simp only [y4 i _ hi, x19 i hi, x20 i hi, x21 i hi, x22 i hi]
    exact ⟨g4 i hi, v4 i hi⟩
  have O5 : ∀ i, i < nn 5 → EL C' sp (RD R' jr) i := fun i hi => by
    unfold EL
    simp only [y5 i _ hi, x23 i hi, x28 i hi]
    exact g5 i hi
  have O6 : ∀ i, i < nn 6 → EX C' sp (RD R' jr) i := fun i hi => by
    unfold EX
    simp only [y6 i _ hi, x24 i hi, x25 i hi, x26 i hi, x27 i hi]
    exact g6 i hi
  refine ⟨hI.congr e0, hs, ?_, ⟨?_, ?_, ?_, ?_, ?_⟩, ⟨?_, ?_, ?_, ?_, ?_, ?_, ?_⟩, ?_, ?_, ?_⟩
  · unfold NB
    rw [up_ne 0 (by decide), up_ne 1 (by decide), up_ne 2 (by decide), up_ne 3 (by decide), up_eq, up_ne 5 (by decide), up_ne 6 (by decide)]
    omega
  · exact fun i hi => (O0 i (by rw [up_ne 0 (by decide)] at hi; exact hi)).2
  · exact fun i hi => (O1 i (by rw [up_ne 1 (by decide)] at hi; exact hi)).2
  · rw [up_ne 1 (by decide)]
    exact fun i hi => (O2 i (by rw [up_ne 2 (by decide)] at hi; exact hi)).2
  · rw [up_ne 0 (by decide)]
    exact fun i hi => (O3 i (by rw [up_ne 3 (by decide)] at hi; exact hi)).2
  · exact fun i hi => by
      rcases Nat.lt_or_ge i (nn 4) with z | z
      · exact (O4 i z).2
      · have e : i = nn 4 := by rw [up_eq] at hi; omega
        rw [e]
        exact o2
  · exact fun i hi => (O0 i (by rw [up_ne 0 (by decide)] at hi; exact hi)).1
  · exact fun i hi => (O1 i (by rw [up_ne 1 (by decide)] at hi; exact hi)).1
  · exact fun i hi => (O2 i (by rw [up_ne 2 (by decide)] at hi; exact hi)).1
  · exact fun i hi => (O3 i (by rw [up_ne 3 (by decide)] at hi; exact hi)).1
  · exact fun i hi => by
      rcases Nat.lt_or_ge i (nn 4) with z | z
      · exact (O4 i z).1
      · have e : i = nn 4 := by rw [up_eq] at hi; omega
        rw [e]
        exact o1
  · exact fun i hi => O5 i (by rw [up_ne 5 (by decide)] at hi; exact hi)
  · exact fun i hi => O6 i (by rw [up_ne 6 (by decide)] at hi; exact hi)
  · unfold CN
    rw [up_ne 0 (by decide), up_ne 1 (by decide), up_ne 2 (by decide), up_ne 3 (by decide), up_eq, up_ne 5 (by decide), up_ne 6 (by decide)]
    exact ⟨(c3 0 (by decide)).trans k0, (c3 1 (by decide)).trans k1, (c3 2 (by decide)).trans k2, (c3 3 (by decide)).trans k3, c2, (c3 5 (by decide)).trans k5, (c3 6 (by decide)).trans k6⟩
  · have z0 : ∀ j, RD R' jr 0 j = gI R' jr j := fun _ => rfl
    have z1 : ∀ j, RD R jr 0 j = gI R jr j := fun _ => rfl
    unfold EF at hE ⊢
    simp only [z0, z1] at hE ⊢
    rw [c4 8, c4 9, c4 10, c4 11, c4 12, c4 13, c4 14, c4 15, c4 16, c3 7 (by decide), c3 8 (by decide), c3 9 (by decide), r3 3 (by decide) (by decide), r3 27 (by decide) (by decide), r3 28 (by decide) (by decide), r3 29 (by decide) (by decide), r3 30 (by decide) (by decide), r3 31 (by decide) (by decide), r3 32 (by decide) (by decide), r3 33 (by decide) (by decide), r3 34 (by decide) (by decide)]
    exact hE
  · unfold DN
    rw [up_ne 0 (by decide), up_ne 1 (by decide), up_ne 2 (by decide), up_ne 3 (by decide), up_eq, up_ne 5 (by decide), up_ne 6 (by decide)]
    exact ⟨(r3 0 (by decide) (by decide)).trans d0, (r3 1 (by decide) (by decide)).trans d1, (r3 2 (by decide) (by decide)).trans d2, (r3 4 (by decide) (by decide)).trans d3, r2, (r3 6 (by decide) (by decide)).trans d5, (r3 7 (by decide) (by decide)).trans d6⟩
theorem PI.s5 {C R C' R' : MM} {sp jr : Nat} {nn : Nat → Nat} (h : PI C R sp jr nn) (hcap : nn 5 < 3) (e0 : C'.2.2 = C.2.2)
    (c1 : ∀ a j, sp + 9 ≤ a → a < sp + 52 → ¬ (sp + (44 + nn 5) ≤ a ∧ a < sp + (44 + nn 5) + 1) → gI C' a j = gI C a j)
    (c2 : gI C' (sp + 8) 5 = nI (nn 5 + 1)) (c3 : ∀ j, j ≠ 5 → gI C' (sp + 8) j = gI C (sp + 8) j) (c4 : ∀ j, gI C' sp j = gI C sp j)
    (r1 : ∀ c i, 1 ≤ c → c < 29 → (c = 23 → i ≠ nn 5) → (c = 28 → i ≠ nn 5) → gI R' (jr + c) i = gI R (jr + c) i)
    (r2 : gI R' jr 6 = nI (nn 5 + 1)) (r3 : ∀ j, j ≠ 6 → j ≠ 8 → gI R' jr j = gI R jr j)
    (o1 : EL C' sp (RD R' jr) (nn 5))  : PI C' R' sp jr (up nn 5) := by
  obtain ⟨hI, hs, hN, ⟨v0, v1, v2, v3, v4⟩, ⟨g0, g1, g2, g3, g4, g5, g6⟩, ⟨k0, k1, k2, k3, k4, k5, k6⟩, hE, hD⟩ := h
  obtain ⟨b0, b1, b2, b3, b4, b5, b6⟩ := hN
  obtain ⟨d0, d1, d2, d3, d4, d5, d6⟩ := hD
  have x1 : ∀ i, i < nn 0 → RD R' jr 1 i = RD R jr 1 i := fun i hi => r1 1 i (by decide) (by decide) (by omega) (by omega)
  have x2 : ∀ i, i < nn 0 → RD R' jr 2 i = RD R jr 2 i := fun i hi => r1 2 i (by decide) (by decide) (by omega) (by omega)
  have x3 : ∀ i, i < nn 0 → RD R' jr 3 i = RD R jr 3 i := fun i hi => r1 3 i (by decide) (by decide) (by omega) (by omega)
  have x4 : ∀ i, i < nn 1 → RD R' jr 4 i = RD R jr 4 i := fun i hi => r1 4 i (by decide) (by decide) (by omega) (by omega)
  have x5 : ∀ i, i < nn 1 → RD R' jr 5 i = RD R jr 5 i := fun i hi => r1 5 i (by decide) (by decide) (by omega) (by omega)
  have x7 : ∀ i, i < nn 2 → RD R' jr 7 i = RD R jr 7 i := fun i hi => r1 7 i (by decide) (by decide) (by omega) (by omega)
  have x8 : ∀ i, i < nn 2 → RD R' jr 8 i = RD R jr 8 i := fun i hi => r1 8 i (by decide) (by decide) (by omega) (by omega)
  have x9 : ∀ i, i < nn 2 → RD R' jr 9 i = RD R jr 9 i := fun i hi => r1 9 i (by decide) (by decide) (by omega) (by omega)
  have x10 : ∀ i, i < nn 2 → RD R' jr 10 i = RD R jr 10 i := fun i hi => r1 10 i (by decide) (by decide) (by omega) (by omega)
  have x11 : ∀ i, i < nn 2 → RD R' jr 11 i = RD R jr 11 i := fun i hi => r1 11 i (by decide) (by decide) (by omega) (by omega)
  have x12 : ∀ i, i < nn 2 → RD R' jr 12 i = RD R jr 12 i := fun i hi => r1 12 i (by decide) (by decide) (by omega) (by omega)
  have x13 : ∀ i, i < nn 2 → RD R' jr 13 i = RD R jr 13 i := fun i hi => r1 13 i (by decide) (by decide) (by omega) (by omega)
  have x14 : ∀ i, i < nn 3 → RD R' jr 14 i = RD R jr 14 i := fun i hi => r1 14 i (by decide) (by decide) (by omega) (by omega)
  have x15 : ∀ i, i < nn 3 → RD R' jr 15 i = RD R jr 15 i := fun i hi => r1 15 i (by decide) (by decide) (by omega) (by omega)
  have x16 : ∀ i, i < nn 3 → RD R' jr 16 i = RD R jr 16 i := fun i hi => r1 16 i (by decide) (by decide) (by omega) (by omega)
  have x17 : ∀ i, i < nn 3 → RD R' jr 17 i = RD R jr 17 i := fun i hi => r1 17 i (by decide) (by decide) (by omega) (by omega)
  have x18 : ∀ i, i < nn 3 → RD R' jr 18 i = RD R jr 18 i := fun i hi => r1 18 i (by decide) (by decide) (by omega) (by omega)
  have x19 : ∀ i, i < nn 4 → RD R' jr 19 i = RD R jr 19 i := fun i hi => r1 19 i (by decide) (by decide) (by omega) (by omega)
  have x20 : ∀ i, i < nn 4 → RD R' jr 20 i = RD R jr 20 i := fun i hi => r1 20 i (by decide) (by decide) (by omega) (by omega)
  have x21 : ∀ i, i < nn 4 → RD R' jr 21 i = RD R jr 21 i := fun i hi => r1 21 i (by decide) (by decide) (by omega) (by omega)
  have x22 : ∀ i, i < nn 4 → RD R' jr 22 i = RD R jr 22 i := fun i hi => r1 22 i (by decide) (by decide) (by omega) (by omega)
  have x23 : ∀ i, i < nn 5 → RD R' jr 23 i = RD R jr 23 i := fun i hi => r1 23 i (by decide) (by decide) (by omega) (by omega)
  have x28 : ∀ i, i < nn 5 → RD R' jr 28 i = RD R jr 28 i := fun i hi => r1 28 i (by decide) (by decide) (by omega) (by omega)
  have x24 : ∀ i, i < nn 6 → RD R' jr 24 i = RD R jr 24 i := fun i hi => r1 24 i (by decide) (by decide) (by omega) (by omega)
  have x25 : ∀ i, i < nn 6 → RD R' jr 25 i = RD R jr 25 i := fun i hi => r1 25 i (by decide) (by decide) (by omega) (by omega)
  have x26 : ∀ i, i < nn 6 → RD R' jr 26 i = RD R jr 26 i := fun i hi => r1 26 i (by decide) (by decide) (by omega) (by omega)
  have x27 : ∀ i, i < nn 6 → RD R' jr 27 i = RD R jr 27 i := fun i hi => r1 27 i (by decide) (by decide) (by omega) (by omega)
  have x6 : ∀ i p, i < nn 1 → p < 6 → RD R' jr 6 (6 * i + p) = RD R jr 6 (6 * i + p) := fun i p hi hp => r1 6 (6 * i + p) (by decide) (by decide) (by omega) (by omega)
  have y0 : ∀ i j, i < nn 0 → gI C' (sp + (9 + i)) j = gI C (sp + (9 + i)) j := fun i j hi => c1 _ j (by omega) (by omega) (by omega)
  have y1 : ∀ i j, i < nn 1 → gI C' (sp + (13 + 2 * i)) j = gI C (sp + (13 + 2 * i)) j := fun i j hi => c1 _ j (by omega) (by omega) (by omega)
  have y2 : ∀ i j, i < nn 2 → gI C' (sp + (19 + i)) j = gI C (sp + (19 + i)) j := fun i j hi => c1 _ j (by omega) (by omega) (by omega)
  have y3 : ∀ i j, i < nn 3 → gI C' (sp + (29 + i)) j = gI C (sp + (29 + i)) j := fun i j hi => c1 _ j (by omega) (by omega) (by omega)
  have y4 : ∀ i j, i < nn 4 → gI C' (sp + (34 + 2 * i)) j = gI C (sp + (34 + 2 * i)) j := fun i j hi => c1 _ j (by omega) (by omega) (by omega)
  have y5 : ∀ i j, i < nn 5 → gI C' (sp + (44 + i)) j = gI C (sp + (44 + i)) j := fun i j hi => c1 _ j (by omega) (by omega) (by omega)
  have y6 : ∀ i j, i < nn 6 → gI C' (sp + (47 + i)) j = gI C (sp + (47 + i)) j := fun i j hi => c1 _ j (by omega) (by omega) (by omega)
  have y1s : ∀ i j, i < nn 1 → gI C' (sp + (14 + 2 * i)) j = gI C (sp + (14 + 2 * i)) j := fun i j hi => c1 _ j (by omega) (by omega) (by omega)
  have up_ne : ∀ c, c ≠ 5 → up nn 5 c = nn c := fun c hc => if_neg hc
  have up_eq : up nn 5 5 = nn 5 + 1 := if_pos rfl
  have O0 : ∀ i, i < nn 0 → EW C' sp (RD R' jr) i ∧ VW (RD R' jr) i := fun i hi => by
    unfold EW VW
    simp only [y0 i _ hi, x1 i hi, x2 i hi, x3 i hi]
    exact ⟨g0 i hi, v0 i hi⟩
  have O1 : ∀ i, i < nn 1 → ER C' sp (RD R' jr) i ∧ VR (RD R' jr) i := fun i hi => by
    unfold ER VR
    simp only [y1 i _ hi, y1s i _ hi, x4 i hi, x5 i hi]
    exact ⟨⟨(g1 i hi).1, (g1 i hi).2.1, fun p q1 q2 => by rw [x6 i p hi q2]; exact (g1 i hi).2.2 p q1 q2⟩, v1 i hi⟩
  have O2 : ∀ i, i < nn 2 → ES C' sp (RD R' jr) i ∧ VS (RD R' jr) (nn 1) i := fun i hi => by
    unfold ES VS
    simp only [y2 i _ hi, x7 i hi, x8 i hi, x9 i hi, x10 i hi, x11 i hi, x12 i hi, x13 i hi]
    obtain ⟨e1, e2, e3, e4, e5, e6, e7, e8⟩ := g2 i hi
    obtain ⟨f1, f2⟩ := v2 i hi
    refine ⟨⟨e1, e2, e3, e4, e5, e6, e7, fun z r p z1 z2 z3 z4 => ?_⟩, f1, fun z => ?_⟩
    · obtain ⟨l, r', p', hh, q1, q2, q3, q4, q5, q6, q7, q8⟩ := f2 z
      have er : r = r' := (nI_eq (by omega) (by omega)).mp (z1.symm.trans q6)
      rw [x6 r p (by omega) z4]
      exact e8 z r p z1 z2 z3 z4
    · obtain ⟨l, r, p, hh, q1, q2, q3, q4, q5, q6, q7, q8⟩ := f2 z
      exact ⟨l, r, p, hh, q1, q2, q3, q4, q5, q6, q7, (x5 r q2).trans q8⟩
  have O3 : ∀ i, i < nn 3 → ET C' sp (RD R' jr) i ∧ VT (RD R' jr) (nn 0) i := fun i hi => by
    unfold ET VT
    simp only [y3 i _ hi, x14 i hi, x15 i hi, x16 i hi, x17 i hi, x18 i hi]
    exact ⟨g3 i hi, v3 i hi⟩
  have O4 : ∀ i, i < nn 4 → EY C' sp (RD R' jr) i ∧ VY (RD R' jr) i := fun i hi => by
    unfold EY VY
    simp only [y4 i _ hi, x19 i hi, x20 i hi, x21 i hi, x22 i hi]
    exact ⟨g4 i hi, v4 i hi⟩
  have O5 : ∀ i, i < nn 5 → EL C' sp (RD R' jr) i := fun i hi => by
    unfold EL
    simp only [y5 i _ hi, x23 i hi, x28 i hi]
    exact g5 i hi
  have O6 : ∀ i, i < nn 6 → EX C' sp (RD R' jr) i := fun i hi => by
    unfold EX
    simp only [y6 i _ hi, x24 i hi, x25 i hi, x26 i hi, x27 i hi]
    exact g6 i hi
  refine ⟨hI.congr e0, hs, ?_, ⟨?_, ?_, ?_, ?_, ?_⟩, ⟨?_, ?_, ?_, ?_, ?_, ?_, ?_⟩, ?_, ?_, ?_⟩
  · unfold NB
    rw [up_ne 0 (by decide), up_ne 1 (by decide), up_ne 2 (by decide), up_ne 3 (by decide), up_ne 4 (by decide), up_eq, up_ne 6 (by decide)]
    omega
  · exact fun i hi => (O0 i (by rw [up_ne 0 (by decide)] at hi; exact hi)).2
  · exact fun i hi => (O1 i (by rw [up_ne 1 (by decide)] at hi; exact hi)).2
  · rw [up_ne 1 (by decide)]
    exact fun i hi => (O2 i (by rw [up_ne 2 (by decide)] at hi; exact hi)).2
  · rw [up_ne 0 (by decide)]
    exact fun i hi => (O3 i (by rw [up_ne 3 (by decide)] at hi; exact hi)).2
  · exact fun i hi => (O4 i (by rw [up_ne 4 (by decide)] at hi; exact hi)).2
  · exact fun i hi => (O0 i (by rw [up_ne 0 (by decide)] at hi; exact hi)).1
  · exact fun i hi => (O1 i (by rw [up_ne 1 (by decide)] at hi; exact hi)).1
  · exact fun i hi => (O2 i (by rw [up_ne 2 (by decide)] at hi; exact hi)).1
  · exact fun i hi => (O3 i (by rw [up_ne 3 (by decide)] at hi; exact hi)).1
  · exact fun i hi => (O4 i (by rw [up_ne 4 (by decide)] at hi; exact hi)).1
  · exact fun i hi => by
      rcases Nat.lt_or_ge i (nn 5) with z | z
      · exact O5 i z
      · have e : i = nn 5 := by rw [up_eq] at hi; omega
        rw [e]
        exact o1
  · exact fun i hi => O6 i (by rw [up_ne 6 (by decide)] at hi; exact hi)
  · unfold CN
    rw [up_ne 0 (by decide), up_ne 1 (by decide), up_ne 2 (by decide), up_ne 3 (by decide), up_ne 4 (by decide), up_eq, up_ne 6 (by decide)]
    exact ⟨(c3 0 (by decide)).trans k0, (c3 1 (by decide)).trans k1, (c3 2 (by decide)).trans k2, (c3 3 (by decide)).trans k3, (c3 4 (by decide)).trans k4, c2, (c3 6 (by decide)).trans k6⟩
  · have z0 : ∀ j, RD R' jr 0 j = gI R' jr j := fun _ => rfl
    have z1 : ∀ j, RD R jr 0 j = gI R jr j := fun _ => rfl
    unfold EF at hE ⊢
    simp only [z0, z1] at hE ⊢
    rw [c4 8, c4 9, c4 10, c4 11, c4 12, c4 13, c4 14, c4 15, c4 16, c3 7 (by decide), c3 8 (by decide), c3 9 (by decide), r3 3 (by decide) (by decide), r3 27 (by decide) (by decide), r3 28 (by decide) (by decide), r3 29 (by decide) (by decide), r3 30 (by decide) (by decide), r3 31 (by decide) (by decide), r3 32 (by decide) (by decide), r3 33 (by decide) (by decide), r3 34 (by decide) (by decide)]
    exact hE
  · unfold DN
    rw [up_ne 0 (by decide), up_ne 1 (by decide), up_ne 2 (by decide), up_ne 3 (by decide), up_ne 4 (by decide), up_eq, up_ne 6 (by decide)]
    exact ⟨(r3 0 (by decide) (by decide)).trans d0, (r3 1 (by decide) (by decide)).trans d1, (r3 2 (by decide) (by decide)).trans d2, (r3 4 (by decide) (by decide)).trans d3, (r3 5 (by decide) (by decide)).trans d4, r2, (r3 7 (by decide) (by decide)).trans d6⟩
theorem PI.s6 {C R C' R' : MM} {sp jr : Nat} {nn : Nat → Nat} (h : PI C R sp jr nn) (hcap : nn 6 < 5) (e0 : C'.2.2 = C.2.2)
    (c1 : ∀ a j, sp + 9 ≤ a → a < sp + 52 → ¬ (sp + (47 + nn 6) ≤ a ∧ a < sp + (47 + nn 6) + 1) → gI C' a j = gI C a j)
    (c2 : gI C' (sp + 8) 6 = nI (nn 6 + 1)) (c3 : ∀ j, j ≠ 6 → gI C' (sp + 8) j = gI C (sp + 8) j) (c4 : ∀ j, gI C' sp j = gI C sp j)
    (r1 : ∀ c i, 1 ≤ c → c < 29 → (c = 24 → i ≠ nn 6) → (c = 25 → i ≠ nn 6) → (c = 26 → i ≠ nn 6) → (c = 27 → i ≠ nn 6) → gI R' (jr + c) i = gI R (jr + c) i)
    (r2 : gI R' jr 7 = nI (nn 6 + 1)) (r3 : ∀ j, j ≠ 7 → j ≠ 8 → gI R' jr j = gI R jr j)
    (o1 : EX C' sp (RD R' jr) (nn 6))  : PI C' R' sp jr (up nn 6) := by
  obtain ⟨hI, hs, hN, ⟨v0, v1, v2, v3, v4⟩, ⟨g0, g1, g2, g3, g4, g5, g6⟩, ⟨k0, k1, k2, k3, k4, k5, k6⟩, hE, hD⟩ := h
  obtain ⟨b0, b1, b2, b3, b4, b5, b6⟩ := hN
  obtain ⟨d0, d1, d2, d3, d4, d5, d6⟩ := hD
  have x1 : ∀ i, i < nn 0 → RD R' jr 1 i = RD R jr 1 i := fun i hi => r1 1 i (by decide) (by decide) (by omega) (by omega) (by omega) (by omega)
  have x2 : ∀ i, i < nn 0 → RD R' jr 2 i = RD R jr 2 i := fun i hi => r1 2 i (by decide) (by decide) (by omega) (by omega) (by omega) (by omega)
  have x3 : ∀ i, i < nn 0 → RD R' jr 3 i = RD R jr 3 i := fun i hi => r1 3 i (by decide) (by decide) (by omega) (by omega) (by omega) (by omega)
  have x4 : ∀ i, i < nn 1 → RD R' jr 4 i = RD R jr 4 i := fun i hi => r1 4 i (by decide) (by decide) (by omega) (by omega) (by omega) (by omega)
  have x5 : ∀ i, i < nn 1 → RD R' jr 5 i = RD R jr 5 i := fun i hi => r1 5 i (by decide) (by decide) (by omega) (by omega) (by omega) (by omega)
  have x7 : ∀ i, i < nn 2 → RD R' jr 7 i = RD R jr 7 i := fun i hi => r1 7 i (by decide) (by decide) (by omega) (by omega) (by omega) (by omega)
  have x8 : ∀ i, i < nn 2 → RD R' jr 8 i = RD R jr 8 i := fun i hi => r1 8 i (by decide) (by decide) (by omega) (by omega) (by omega) (by omega)
  have x9 : ∀ i, i < nn 2 → RD R' jr 9 i = RD R jr 9 i := fun i hi => r1 9 i (by decide) (by decide) (by omega) (by omega) (by omega) (by omega)
  have x10 : ∀ i, i < nn 2 → RD R' jr 10 i = RD R jr 10 i := fun i hi => r1 10 i (by decide) (by decide) (by omega) (by omega) (by omega) (by omega)
  have x11 : ∀ i, i < nn 2 → RD R' jr 11 i = RD R jr 11 i := fun i hi => r1 11 i (by decide) (by decide) (by omega) (by omega) (by omega) (by omega)
  have x12 : ∀ i, i < nn 2 → RD R' jr 12 i = RD R jr 12 i := fun i hi => r1 12 i (by decide) (by decide) (by omega) (by omega) (by omega) (by omega)
  have x13 : ∀ i, i < nn 2 → RD R' jr 13 i = RD R jr 13 i := fun i hi => r1 13 i (by decide) (by decide) (by omega) (by omega) (by omega) (by omega)
  have x14 : ∀ i, i < nn 3 → RD R' jr 14 i = RD R jr 14 i := fun i hi => r1 14 i (by decide) (by decide) (by omega) (by omega) (by omega) (by omega)
  have x15 : ∀ i, i < nn 3 → RD R' jr 15 i = RD R jr 15 i := fun i hi => r1 15 i (by decide) (by decide) (by omega) (by omega) (by omega) (by omega)
  have x16 : ∀ i, i < nn 3 → RD R' jr 16 i = RD R jr 16 i := fun i hi => r1 16 i (by decide) (by decide) (by omega) (by omega) (by omega) (by omega)
  have x17 : ∀ i, i < nn 3 → RD R' jr 17 i = RD R jr 17 i := fun i hi => r1 17 i (by decide) (by decide) (by omega) (by omega) (by omega) (by omega)
  have x18 : ∀ i, i < nn 3 → RD R' jr 18 i = RD R jr 18 i := fun i hi => r1 18 i (by decide) (by decide) (by omega) (by omega) (by omega) (by omega)
  have x19 : ∀ i, i < nn 4 → RD R' jr 19 i = RD R jr 19 i := fun i hi => r1 19 i (by decide) (by decide) (by omega) (by omega) (by omega) (by omega)
  have x20 : ∀ i, i < nn 4 → RD R' jr 20 i = RD R jr 20 i := fun i hi => r1 20 i (by decide) (by decide) (by omega) (by omega) (by omega) (by omega)
  have x21 : ∀ i, i < nn 4 → RD R' jr 21 i = RD R jr 21 i := fun i hi => r1 21 i (by decide) (by decide) (by omega) (by omega) (by omega) (by omega)
  have x22 : ∀ i, i < nn 4 → RD R' jr 22 i = RD R jr 22 i := fun i hi => r1 22 i (by decide) (by decide) (by omega) (by omega) (by omega) (by omega)
  have x23 : ∀ i, i < nn 5 → RD R' jr 23 i = RD R jr 23 i := fun i hi => r1 23 i (by decide) (by decide) (by omega) (by omega) (by omega) (by omega)
  have x28 : ∀ i, i < nn 5 → RD R' jr 28 i = RD R jr 28 i := fun i hi => r1 28 i (by decide) (by decide) (by omega) (by omega) (by omega) (by omega)
  have x24 : ∀ i, i < nn 6 → RD R' jr 24 i = RD R jr 24 i := fun i hi => r1 24 i (by decide) (by decide) (by omega) (by omega) (by omega) (by omega)
  have x25 : ∀ i, i < nn 6 → RD R' jr 25 i = RD R jr 25 i := fun i hi => r1 25 i (by decide) (by decide) (by omega) (by omega) (by omega) (by omega)
  have x26 : ∀ i, i < nn 6 → RD R' jr 26 i = RD R jr 26 i := fun i hi => r1 26 i (by decide) (by decide) (by omega) (by omega) (by omega) (by omega)
  have x27 : ∀ i, i < nn 6 → RD R' jr 27 i = RD R jr 27 i := fun i hi => r1 27 i (by decide) (by decide) (by omega) (by omega) (by omega) (by omega)
  have x6 : ∀ i p, i < nn 1 → p < 6 → RD R' jr 6 (6 * i + p) = RD R jr 6 (6 * i + p) := fun i p hi hp => r1 6 (6 * i + p) (by decide) (by decide) (by omega) (by omega) (by omega) (by omega)
  have y0 : ∀ i j, i < nn 0 → gI C' (sp + (9 + i)) j = gI C (sp + (9 + i)) j := fun i j hi => c1 _ j (by omega) (by omega) (by omega)
  have y1 : ∀ i j, i < nn 1 → gI C' (sp + (13 + 2 * i)) j = gI C (sp + (13 + 2 * i)) j := fun i j hi => c1 _ j (by omega) (by omega) (by omega)
  have y2 : ∀ i j, i < nn 2 → gI C' (sp + (19 + i)) j = gI C (sp + (19 + i)) j := fun i j hi => c1 _ j (by omega) (by omega) (by omega)
  have y3 : ∀ i j, i < nn 3 → gI C' (sp + (29 + i)) j = gI C (sp + (29 + i)) j := fun i j hi => c1 _ j (by omega) (by omega) (by omega)
  have y4 : ∀ i j, i < nn 4 → gI C' (sp + (34 + 2 * i)) j = gI C (sp + (34 + 2 * i)) j := fun i j hi => c1 _ j (by omega) (by omega) (by omega)
  have y5 : ∀ i j, i < nn 5 → gI C' (sp + (44 + i)) j = gI C (sp + (44 + i)) j := fun i j hi => c1 _ j (by omega) (by omega) (by omega)
  have y6 : ∀ i j, i < nn 6 → gI C' (sp + (47 + i)) j = gI C (sp + (47 + i)) j := fun i j hi => c1 _ j (by omega) (by omega) (by omega)
  have y1s : ∀ i j, i < nn 1 → gI C' (sp + (14 + 2 * i)) j = gI C (sp + (14 + 2 * i)) j := fun i j hi => c1 _ j (by omega) (by omega) (by omega)
  have up_ne : ∀ c, c ≠ 6 → up nn 6 c = nn c := fun c hc => if_neg hc
  have up_eq : up nn 6 6 = nn 6 + 1 := if_pos rfl
  have O0 : ∀ i, i < nn 0 → EW C' sp (RD R' jr) i ∧ VW (RD R' jr) i := fun i hi => by
    unfold EW VW
    simp only [y0 i _ hi, x1 i hi, x2 i hi, x3 i hi]
    exact ⟨g0 i hi, v0 i hi⟩
  have O1 : ∀ i, i < nn 1 → ER C' sp (RD R' jr) i ∧ VR (RD R' jr) i := fun i hi => by
    unfold ER VR
    simp only [y1 i _ hi, y1s i _ hi, x4 i hi, x5 i hi]
    exact ⟨⟨(g1 i hi).1, (g1 i hi).2.1, fun p q1 q2 => by rw [x6 i p hi q2]; exact (g1 i hi).2.2 p q1 q2⟩, v1 i hi⟩
  have O2 : ∀ i, i < nn 2 → ES C' sp (RD R' jr) i ∧ VS (RD R' jr) (nn 1) i := fun i hi => by
    unfold ES VS
    simp only [y2 i _ hi, x7 i hi, x8 i hi, x9 i hi, x10 i hi, x11 i hi, x12 i hi, x13 i hi]
    obtain ⟨e1, e2, e3, e4, e5, e6, e7, e8⟩ := g2 i hi
    obtain ⟨f1, f2⟩ := v2 i hi
    refine ⟨⟨e1, e2, e3, e4, e5, e6, e7, fun z r p z1 z2 z3 z4 => ?_⟩, f1, fun z => ?_⟩
    · obtain ⟨l, r', p', hh, q1, q2, q3, q4, q5, q6, q7, q8⟩ := f2 z
      have er : r = r' := (nI_eq (by omega) (by omega)).mp (z1.symm.trans q6)
      rw [x6 r p (by omega) z4]
      exact e8 z r p z1 z2 z3 z4
    · obtain ⟨l, r, p, hh, q1, q2, q3, q4, q5, q6, q7, q8⟩ := f2 z
      exact ⟨l, r, p, hh, q1, q2, q3, q4, q5, q6, q7, (x5 r q2).trans q8⟩
  have O3 : ∀ i, i < nn 3 → ET C' sp (RD R' jr) i ∧ VT (RD R' jr) (nn 0) i := fun i hi => by
    unfold ET VT
    simp only [y3 i _ hi, x14 i hi, x15 i hi, x16 i hi, x17 i hi, x18 i hi]
    exact ⟨g3 i hi, v3 i hi⟩
  have O4 : ∀ i, i < nn 4 → EY C' sp (RD R' jr) i ∧ VY (RD R' jr) i := fun i hi => by
    unfold EY VY
    simp only [y4 i _ hi, x19 i hi, x20 i hi, x21 i hi, x22 i hi]
    exact ⟨g4 i hi, v4 i hi⟩
  have O5 : ∀ i, i < nn 5 → EL C' sp (RD R' jr) i := fun i hi => by
    unfold EL
    simp only [y5 i _ hi, x23 i hi, x28 i hi]
    exact g5 i hi
  have O6 : ∀ i, i < nn 6 → EX C' sp (RD R' jr) i := fun i hi => by
    unfold EX
    simp only [y6 i _ hi, x24 i hi, x25 i hi, x26 i hi, x27 i hi]
    exact g6 i hi
  refine ⟨hI.congr e0, hs, ?_, ⟨?_, ?_, ?_, ?_, ?_⟩, ⟨?_, ?_, ?_, ?_, ?_, ?_, ?_⟩, ?_, ?_, ?_⟩
  · unfold NB
    rw [up_ne 0 (by decide), up_ne 1 (by decide), up_ne 2 (by decide), up_ne 3 (by decide), up_ne 4 (by decide), up_ne 5 (by decide), up_eq]
    omega
  · exact fun i hi => (O0 i (by rw [up_ne 0 (by decide)] at hi; exact hi)).2
  · exact fun i hi => (O1 i (by rw [up_ne 1 (by decide)] at hi; exact hi)).2
  · rw [up_ne 1 (by decide)]
    exact fun i hi => (O2 i (by rw [up_ne 2 (by decide)] at hi; exact hi)).2
  · rw [up_ne 0 (by decide)]
    exact fun i hi => (O3 i (by rw [up_ne 3 (by decide)] at hi; exact hi)).2
  · exact fun i hi => (O4 i (by rw [up_ne 4 (by decide)] at hi; exact hi)).2
  · exact fun i hi => (O0 i (by rw [up_ne 0 (by decide)] at hi; exact hi)).1
  · exact fun i hi => (O1 i (by rw [up_ne 1 (by decide)] at hi; exact hi)).1
  · exact fun i hi => (O2 i (by rw [up_ne 2 (by decide)] at hi; exact hi)).1
  · exact fun i hi => (O3 i (by rw [up_ne 3 (by decide)] at hi; exact hi)).1
  · exact fun i hi => (O4 i (by rw [up_ne 4 (by decide)] at hi; exact hi)).1
  · exact fun i hi => O5 i (by rw [up_ne 5 (by decide)] at hi; exact hi)
  · exact fun i hi => by
      rcases Nat.lt_or_ge i (nn 6) with z | z
      · exact O6 i z
      · have e : i = nn 6 := by rw [up_eq] at hi; omega
        rw [e]
        exact o1
  · unfold CN
    rw [up_ne 0 (by decide), up_ne 1 (by decide), up_ne 2 (by decide), up_ne 3 (by decide), up_ne 4 (by decide), up_ne 5 (by decide), up_eq]
    exact ⟨(c3 0 (by decide)).trans k0, (c3 1 (by decide)).trans k1, (c3 2 (by decide)).trans k2, (c3 3 (by decide)).trans k3, (c3 4 (by decide)).trans k4, (c3 5 (by decide)).trans k5, c2⟩
  · have z0 : ∀ j, RD R' jr 0 j = gI R' jr j := fun _ => rfl
    have z1 : ∀ j, RD R jr 0 j = gI R jr j := fun _ => rfl
    unfold EF at hE ⊢
    simp only [z0, z1] at hE ⊢
    rw [c4 8, c4 9, c4 10, c4 11, c4 12, c4 13, c4 14, c4 15, c4 16, c3 7 (by decide), c3 8 (by decide), c3 9 (by decide), r3 3 (by decide) (by decide), r3 27 (by decide) (by decide), r3 28 (by decide) (by decide), r3 29 (by decide) (by decide), r3 30 (by decide) (by decide), r3 31 (by decide) (by decide), r3 32 (by decide) (by decide), r3 33 (by decide) (by decide), r3 34 (by decide) (by decide)]
    exact hE
  · unfold DN
    rw [up_ne 0 (by decide), up_ne 1 (by decide), up_ne 2 (by decide), up_ne 3 (by decide), up_ne 4 (by decide), up_ne 5 (by decide), up_eq]
    exact ⟨(r3 0 (by decide) (by decide)).trans d0, (r3 1 (by decide) (by decide)).trans d1, (r3 2 (by decide) (by decide)).trans d2, (r3 4 (by decide) (by decide)).trans d3, (r3 5 (by decide) (by decide)).trans d4, (r3 6 (by decide) (by decide)).trans d5, r2⟩
theorem PI.f {C R C' R' : MM} {sp jr : Nat} {nn : Nat → Nat} (h : PI C R sp jr nn) (e0 : C'.2.2 = C.2.2) (c1 : ∀ a j, sp + 9 ≤ a → a < sp + 52 → gI C' a j = gI C a j) (c2 : ∀ j, j < 7 → gI C' (sp + 8) j = gI C (sp + 8) j)
    (r1 : ∀ c i, 1 ≤ c → c < 29 → gI R' (jr + c) i = gI R (jr + c) i) (r2 : ∀ j, j < 8 → gI R' jr j = gI R jr j) (hE : EF C' sp (RD R' jr)) : PI C' R' sp jr nn := by
  obtain ⟨hI, hs, hN, hV, hC, ⟨k0, k1, k2, k3, k4, k5, k6⟩, -, ⟨d0, d1, d2, d3, d4, d5, d6⟩⟩ := h
  have hN' := hN
  obtain ⟨b0, b1, b2, b3, b4, b5, b6⟩ := hN'
  have hx : ∀ c i, 1 ≤ c → c < 29 → RD R' jr c i = RD R jr c i := r1
  refine ⟨hI.congr e0, hs, hN, ?_, ?_, ⟨(c2 0 (by decide)).trans k0, (c2 1 (by decide)).trans k1, (c2 2 (by decide)).trans k2, (c2 3 (by decide)).trans k3, (c2 4 (by decide)).trans k4, (c2 5 (by decide)).trans k5, (c2 6 (by decide)).trans k6⟩, hE, ⟨(r2 0 (by decide)).trans d0, (r2 1 (by decide)).trans d1, (r2 2 (by decide)).trans d2, (r2 4 (by decide)).trans d3, (r2 5 (by decide)).trans d4, (r2 6 (by decide)).trans d5, (r2 7 (by decide)).trans d6⟩⟩
  · unfold VD VW VR VS VT VY at *
    simp only [hx 1 _ (by decide) (by decide), hx 3 _ (by decide) (by decide), hx 5 _ (by decide) (by decide), hx 8 _ (by decide) (by decide), hx 10 _ (by decide) (by decide), hx 11 _ (by decide) (by decide), hx 12 _ (by decide) (by decide), hx 13 _ (by decide) (by decide), hx 14 _ (by decide) (by decide), hx 15 _ (by decide) (by decide), hx 17 _ (by decide) (by decide), hx 20 _ (by decide) (by decide), hx 22 _ (by decide) (by decide)]
    exact hV
  · obtain ⟨g0, g1, g2, g3, g4, g5, g6⟩ := hC
    refine ⟨?_, ?_, ?_, ?_, ?_, ?_, ?_⟩
    · intro i hi
      have q : ∀ j, gI C' (sp + (9 + i)) j = gI C (sp + (9 + i)) j := fun j => c1 _ j (by omega) (by omega)
      unfold EW
      simp only [q, hx 1 _ (by decide) (by decide), hx 2 _ (by decide) (by decide), hx 3 _ (by decide) (by decide)]
      exact g0 i hi
    · intro i hi
      have q : ∀ j, gI C' (sp + (13 + 2 * i)) j = gI C (sp + (13 + 2 * i)) j := fun j => c1 _ j (by omega) (by omega)
      have q2 : ∀ j, gI C' (sp + (14 + 2 * i)) j = gI C (sp + (14 + 2 * i)) j := fun j => c1 _ j (by omega) (by omega)
      unfold ER
      simp only [q, q2, hx 4 _ (by decide) (by decide), hx 5 _ (by decide) (by decide), hx 6 _ (by decide) (by decide)]
      exact g1 i hi
    · intro i hi
      have q : ∀ j, gI C' (sp + (19 + i)) j = gI C (sp + (19 + i)) j := fun j => c1 _ j (by omega) (by omega)
      unfold ES
      simp only [q, hx 7 _ (by decide) (by decide), hx 8 _ (by decide) (by decide), hx 9 _ (by decide) (by decide), hx 10 _ (by decide) (by decide), hx 11 _ (by decide) (by decide), hx 12 _ (by decide) (by decide), hx 13 _ (by decide) (by decide), hx 6 _ (by decide) (by decide)]
      exact g2 i hi
    · intro i hi
      have q : ∀ j, gI C' (sp + (29 + i)) j = gI C (sp + (29 + i)) j := fun j => c1 _ j (by omega) (by omega)
      unfold ET
      simp only [q, hx 14 _ (by decide) (by decide), hx 15 _ (by decide) (by decide), hx 16 _ (by decide) (by decide), hx 17 _ (by decide) (by decide), hx 18 _ (by decide) (by decide)]
      exact g3 i hi
    · intro i hi
      have q : ∀ j, gI C' (sp + (34 + 2 * i)) j = gI C (sp + (34 + 2 * i)) j := fun j => c1 _ j (by omega) (by omega)
      unfold EY
      simp only [q, hx 19 _ (by decide) (by decide), hx 20 _ (by decide) (by decide), hx 21 _ (by decide) (by decide), hx 22 _ (by decide) (by decide)]
      exact g4 i hi
    · intro i hi
      have q : ∀ j, gI C' (sp + (44 + i)) j = gI C (sp + (44 + i)) j := fun j => c1 _ j (by omega) (by omega)
      unfold EL
      simp only [q, hx 23 _ (by decide) (by decide), hx 28 _ (by decide) (by decide)]
      exact g5 i hi
    · intro i hi
      have q : ∀ j, gI C' (sp + (47 + i)) j = gI C (sp + (47 + i)) j := fun j => c1 _ j (by omega) (by omega)
      unfold EX
      simp only [q, hx 24 _ (by decide) (by decide), hx 25 _ (by decide) (by decide), hx 26 _ (by decide) (by decide), hx 27 _ (by decide) (by decide)]
      exact g6 i hi
