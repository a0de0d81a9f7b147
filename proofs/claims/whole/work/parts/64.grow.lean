/-! THE TREES OF A FRESH ISLAND -/
def clS (w : Int32) : Int32 := if 0 < w then w else 0
theorem clamp_eq (v : Int32) : (if 0 < if 9999 < v then 9999 else v then if 9999 < v then 9999 else v else 0) = if v < 0 then 0 else if 9999 < v then (9999 : Int32) else v := by
  show clS (if 9999 < v then 9999 else v) = _
  unfold clS
  by_cases h1 : 9999 < v
  · rw [if_pos h1, if_pos (by decide), if_neg (fun z => absurd (Int32.lt_trans h1 z) (by decide))]
  · rw [if_neg h1]
    by_cases h2 : v < 0
    · rw [if_pos h2, if_neg (fun z => absurd (Int32.lt_trans h2 z) Int32.lt_irrefl)]
    · rw [if_neg h2]
      by_cases h3 : 0 < v
      · rw [if_pos h3]
      · rw [if_neg h3]
        exact Int32.le_antisymm (i32_le h2) (i32_le h3)
theorem gain_c (M : MM) (a : Nat) (t g : Int32) : f_X6_gain M a t g = some (if gI M a 1 = 1 then t * g / 100 * (100 - gI M a 2) / 100 else t * g / 100) := by
  unfold f_X6_gain
  split <;> rfl
theorem loss_c {M : MM} {a : Nat} {e : Int32} (he : gI M a 1 = 2 → gI M a 3 = e ∧ ¬ e ≤ 0) (t p y : Int32) : f_X6_loss M a t p y = some (if gI M a 1 = 0 then gI M a 2 * p / 100 else if gI M a 1 = 2 then (if y - y / e * e = 0 then t * gI M a 2 / 100 else 0) else 0) := by
  unfold f_X6_loss
  by_cases h0 : gI M a 1 = 0
  · rw [if_pos h0, if_pos h0]
  · rw [if_neg h0, if_neg h0]
    by_cases h2 : gI M a 1 = 2
    · obtain ⟨e1, e2⟩ := he h2
      rw [if_pos h2, if_pos h2, e1, if_neg e2, chk_f (fun z => e2 (by rw [z]; exact Int32.le_refl _))]
      by_cases h3 : y - y / e * e = 0
      · rw [if_pos h3, if_pos h3]
      · rw [if_neg h3, if_neg h3]
    · rw [if_neg h2, if_neg h2]
theorem nI_p (z : Nat) : nI (z + 1) - 1 = nI z := by rw [← nI_1 z, Int32.add_sub_cancel]
/-- one story's years -/
theorem grow_l {D : DT} {i a cn : Nat} (hac : a ≠ cn) (hl2 : ∃ t, t ≤ 999 ∧ D 0 27 = nI t) : ∀ (d y f : Nat) (M : MM), y + 1 + d = 100 → d < f → gR M a 4 = some cn → gI M a 1 = D 20 i → gI M a 2 = D 21 i → (D 20 i = 2 → gI M a 3 = D 22 i ∧ ¬ D 22 i ≤ 0) → (∀ z, z ≤ y → gI M cn z = tree D i z) →
    ∃ M', f_X6_grow_L10 f M a (D 0 28) (D 0 29) (nI (y + 1)) = some M' ∧ M'.2 = M.2 ∧ (∀ z, z < 100 → gI M' cn z = tree D i z) ∧ ∀ b k, b ≠ cn → gI M' b k = gI M b k := by
  intro d
  induction d with
  | zero =>
    intro y f M hy hf h4 e1 e2 e3 ht
    obtain ⟨f, rfl⟩ := suc hf
    rw [f_X6_grow_L10, h4, oc_x, if_pos (show (100 : Int32) ≤ nI (y + 1) from nI_le (a := 100) (by omega) (by omega))]
    exact ⟨M, rfl, rfl, fun z hz => ht z (by omega), fun _ _ _ => rfl⟩
  | succ d ih =>
    intro y f M hy hf h4 e1 e2 e3 ht
    obtain ⟨f, rfl⟩ := suc hf
    have hloss := loss_c (M := M) (a := a) (e := D 22 i) (fun z => e3 (e1.symm.trans z)) (tree D i y) (D 0 29) (nI (y + 1))
    rw [f_X6_grow_L10, h4, oc_x, if_neg (show ¬ (100 : Int32) ≤ nI (y + 1) from nI_ge (b := 100) (by omega) (by decide)), oc_x, nI_p, chk_n (show y < 100 by omega) (by decide), ix_n (show y < 2147483648 by omega), ht y (Nat.le_refl y), gain_c, ob_s, hloss, ob_s, oc_x, chk_n (show y + 1 < 100 by omega) (by decide), ix_n (show y + 1 < 2147483648 by omega), clamp_eq, Int32.sub_sub, e1, e2, nI_1 (y + 1)]
    have et : tree D i (y + 1) = trS (D 20 i) (D 21 i) (D 22 i) (D 0 28) (D 0 29) (tree D i y) (nI (y + 1)) := rfl
    unfold trS at et
    dsimp only at et
    rw [← et]
    obtain ⟨M', a1, a2, a3, a4⟩ := ih (y + 1) f (pI M cn (y + 1) (tree D i (y + 1))) (by omega) (by omega) h4 ((gI_pIa hac).trans e1) ((gI_pIa hac).trans e2) (fun z => by rw [gI_pIa hac]; exact e3 z) (fun z hz => by
      by_cases q : z = y + 1
      · rw [q, gI_pIs]
      · rw [gI_pIk q]
        exact ht z (by omega))
    exact ⟨M', a1, a2, a3, fun b k h => (a4 b k h).trans (gI_pIa h)⟩
theorem grow_c {D : DT} {i a cn : Nat} {M : MM} (hac : a ≠ cn) (hl2 : ∃ t, t ≤ 999 ∧ D 0 27 = nI t) (h4 : gR M a 4 = some cn) (e1 : gI M a 1 = D 20 i) (e2 : gI M a 2 = D 21 i) (e3 : D 20 i = 2 → gI M a 3 = D 22 i ∧ ¬ D 22 i ≤ 0) :
    ∃ M', f_X6_grow M a (D 0 27) (D 0 28) (D 0 29) = some M' ∧ M'.2 = M.2 ∧ (∀ z, z < 100 → gI M' cn z = tree D i z) ∧ ∀ b k, b ≠ cn → gI M' b k = gI M b k := by
  unfold f_X6_grow
  rw [h4, oc_x]
  obtain ⟨M', a1, a2, a3, a4⟩ := grow_l (D := D) (i := i) hac hl2 99 0 FU (pI M cn 0 (D 0 27)) rfl (fu (by decide)) h4 ((gI_pIa hac).trans e1) ((gI_pIa hac).trans e2) (fun z => by rw [gI_pIa hac]; exact e3 z) (fun z hz => by
    have hz : z = 0 := by omega
    rw [hz, gI_pIs]
    rfl)
  exact ⟨M', a1, a2, a3, fun b k h => (a4 b k h).trans (gI_pIa h)⟩
/-- an Island's lines stand where nothing of it is written but the counts of trees -/
theorem CE.cong {M M' : MM} {b : Nat} {D : DT} {n : Nat → Nat} (h : CE M b D n) (hN : NB n) (e : ∀ a k, b + 9 ≤ a → a < b + 52 → (∀ q, q < 5 → a ≠ b + (35 + 2 * q)) → gI M' a k = gI M a k) : CE M' b D n := by
  obtain ⟨g0, g1, g2, g3, g4, g5, g6⟩ := h
  obtain ⟨b0, b1, b2, b3, b4, b5, b6⟩ := hN
  refine ⟨fun i hi => ?_, fun i hi => ?_, fun i hi => ?_, fun i hi => ?_, fun i hi => ?_, fun i hi => ?_, fun i hi => ?_⟩
  · have y : ∀ j, gI M' (b + (9 + i)) j = gI M (b + (9 + i)) j := fun j => e _ j (by omega) (by omega) (fun q hq => by omega)
    unfold EW
    simp only [y]
    exact g0 i hi
  · have y : ∀ j, gI M' (b + (13 + 2 * i)) j = gI M (b + (13 + 2 * i)) j := fun j => e _ j (by omega) (by omega) (fun q hq => by omega)
    have y2 : ∀ j, gI M' (b + (14 + 2 * i)) j = gI M (b + (14 + 2 * i)) j := fun j => e _ j (by omega) (by omega) (fun q hq => by omega)
    unfold ER
    simp only [y, y2]
    exact g1 i hi
  · have y : ∀ j, gI M' (b + (19 + i)) j = gI M (b + (19 + i)) j := fun j => e _ j (by omega) (by omega) (fun q hq => by omega)
    unfold ES
    simp only [y]
    exact g2 i hi
  · have y : ∀ j, gI M' (b + (29 + i)) j = gI M (b + (29 + i)) j := fun j => e _ j (by omega) (by omega) (fun q hq => by omega)
    unfold ET
    simp only [y]
    exact g3 i hi
  · have y : ∀ j, gI M' (b + (34 + 2 * i)) j = gI M (b + (34 + 2 * i)) j := fun j => e _ j (by omega) (by omega) (fun q hq => by omega)
    unfold EY
    simp only [y]
    exact g4 i hi
  · have y : ∀ j, gI M' (b + (44 + i)) j = gI M (b + (44 + i)) j := fun j => e _ j (by omega) (by omega) (fun q hq => by omega)
    unfold EL
    simp only [y]
    exact g5 i hi
  · have y : ∀ j, gI M' (b + (47 + i)) j = gI M (b + (47 + i)) j := fun j => e _ j (by omega) (by omega) (fun q hq => by omega)
    unfold EX
    simp only [y]
    exact g6 i hi
theorem CI.cong {M M' : MM} {b : Nat} {D : DT} {n : Nat → Nat} (h : CI M b D n) (eR : M'.2.2 = M.2.2) (e : ∀ a k, b ≤ a → a < b + 52 → (∀ q, q < 5 → a ≠ b + (35 + 2 * q)) → gI M' a k = gI M a k) : CI M' b D n := by
  obtain ⟨h1, h2, h3, h4, h5, h6, h7, h8⟩ := h
  have y0 : ∀ j, gI M' b j = gI M b j := fun j => e _ j (by omega) (by omega) (fun q hq => by omega)
  have y8 : ∀ j, gI M' (b + 8) j = gI M (b + 8) j := fun j => e _ j (by omega) (by omega) (fun q hq => by omega)
  refine ⟨h1.congr eR, h2, h3, h4.cong h2 (fun a k q1 q2 q3 => e a k (by omega) q2 q3), ?_, ?_, h7, h8⟩
  · unfold CN
    simp only [y8]
    exact h5
  · unfold EF
    simp only [y0, y8]
    exact h6
theorem flag7 {C : MM} {ic : Nat} {D : DT} {n : Nat → Nat} (hc : CI C ic D n) : (f_X0_has C ic 7 0 = some 0 ∧ D 0 27 = -1) ∨ (f_X0_has C ic 7 0 = some 1 ∧ (∃ t, t ≤ 999 ∧ D 0 27 = nI t) ∧ gI C ic 9 = D 0 27 ∧ gI C ic 10 = D 0 28 ∧ gI C ic 11 = D 0 29) := by
  rcases hc.ef.2.1 with ⟨h1, h2⟩ | ⟨h1, h3, h4⟩
  · exact Or.inl ⟨has7_n (n := 0) hc.is h1 (Or.inr (by decide)), h2⟩
  · exact Or.inr ⟨has7_s (n := 1) (k := 0) hc.is h1 (by decide) (by decide), h3, h4⟩
theorem trees_l {b : Nat} {D : DT} {n : Nat → Nat} : ∀ (d k f : Nat) (C : MM), k + d = n 4 → d < f → CI C b D n → (D 0 27 ≠ -1 → ∀ i, i < k → ∀ y, y < 100 → gI C (b + (35 + 2 * i)) y = tree D i y) →
    ∃ C', f_X0_growTrees_L2 f C b (nI k) = some C' ∧ C'.2 = C.2 ∧ CI C' b D n ∧ TR C' b D n ∧ ∀ a j, (∀ q, q < 5 → a ≠ b + (35 + 2 * q)) → gI C' a j = gI C a j := by
  intro d
  induction d with
  | zero =>
    intro k f C hk hf hc ht
    have n5 := hc.nb.2.2.2.2.1
    obtain ⟨f, rfl⟩ := suc hf
    have e : k = n 4 := by omega
    rw [f_X0_growTrees_L2, hc.c4, ob_s, if_pos (nI_le (by omega) (by omega))]
    exact ⟨C, rfl, rfl, hc, fun z i hi y hy => ht z i (by omega) y hy, fun _ _ _ => rfl⟩
  | succ d ih =>
    intro k f C hk hf hc ht
    have n5 := hc.nb.2.2.2.2.1
    obtain ⟨f, rfl⟩ := suc hf
    have hk2 : k < n 4 := by omega
    have ey := hc.ce.2.2.2.2.1 k hk2
    have vy := hc.vd.2.2.2.2 k hk2
    rw [f_X0_growTrees_L2, hc.c4, ob_s, if_neg (nI_ge hk2 (by omega)), hc.y hk2, ob_s, oc_x]
    rcases flag7 hc with ⟨h1, h2⟩ | ⟨h1, h2, h3, h4, h5⟩
    · rw [h1, ob_s, if_pos rfl, nI_1 k]
      exact ih (k + 1) f C (by omega) (by omega) hc (fun z => absurd h2 z)
    · obtain ⟨M', a1, a2, a3, a4⟩ := grow_c (D := D) (i := k) (a := b + (34 + 2 * k)) (cn := b + (35 + 2 * k)) (M := C) (by omega) h2 (hc.is.ct k (by omega)) ey.2.1 ey.2.2.1 (fun z => ⟨ey.2.2.2 z, vy.2 z⟩)
      rw [h1, ob_s, if_neg (show ¬ (1 : Int32) = 0 by decide), h3, h4, h5, a1, ob_s, nI_1 k]
      have hc' : CI M' b D n := hc.cong (by rw [a2]) (fun a j q1 q2 q3 => a4 a j (q3 k (by omega)))
      obtain ⟨C', c1, c2, c3, c4, c5⟩ := ih (k + 1) f M' (by omega) (by omega) hc' (fun z i hi y hy => by
        by_cases q : i = k
        · rw [q]
          exact a3 y hy
        · rw [a4 _ _ (by omega)]
          exact ht z i (by omega) y hy)
      exact ⟨C', c1, c2.trans a2, c3, c4, fun a j q => (c5 a j q).trans (a4 a j (q k (by omega)))⟩
theorem trees_c {C : MM} {b : Nat} {D : DT} {n : Nat → Nat} (hc : CI C b D n) : ∃ C', f_X0_growTrees C b = some C' ∧ C'.2 = C.2 ∧ CI C' b D n ∧ TR C' b D n ∧ ∀ a j, (∀ q, q < 5 → a ≠ b + (35 + 2 * q)) → gI C' a j = gI C a j := by
  have n5 := hc.nb.2.2.2.2.1
  exact trees_l (n 4) 0 FU C (by omega) (fu (by omega)) hc (fun _ i hi => absurd hi (by omega))
