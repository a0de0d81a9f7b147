/-! LAYER 2: the functions, read as numbers -/
theorem gI_pI (M : MM) (a k b j : Nat) (v : Int32) : gI (pI M a k v) b j = if b = a ∧ j = k then v else gI M b j := by
  unfold gI pI up2
  by_cases h : b = a <;> by_cases h2 : j = k <;> simp [h, h2]
theorem gI_pIs (M : MM) (a k : Nat) (v : Int32) : gI (pI M a k v) a k = v := up2_self _ _ _ _
theorem gI_pIn {M : MM} {a k b j : Nat} {v : Int32} (h : b = a → j ≠ k) : gI (pI M a k v) b j = gI M b j := up2_ne _ _ h
theorem gI_pIa {M : MM} {a k b j : Nat} {v : Int32} (h : b ≠ a) : gI (pI M a k v) b j = gI M b j := up2_ne _ _ (fun q => absurd q h)
theorem gI_pIk {M : MM} {a k b j : Nat} {v : Int32} (h : j ≠ k) : gI (pI M a k v) b j = gI M b j := up2_ne _ _ (fun _ => h)
theorem gL_pLs (M : MM) (a k : Nat) (v : Int64) : gL (pL M a k v) a k = v := up2_self _ _ _ _
theorem gL_pLn {M : MM} {a k b j : Nat} {v : Int64} (h : b = a → j ≠ k) : gL (pL M a k v) b j = gL M b j := up2_ne _ _ h
theorem gI_pL (M : MM) (a k b j : Nat) (v : Int64) : gI (pL M a k v) b j = gI M b j := rfl
theorem gI_pR (M : MM) (a k b j : Nat) (v : Option Nat) : gI (pR M a k v) b j = gI M b j := rfl
theorem gL_pI (M : MM) (a k b j : Nat) (v : Int32) : gL (pI M a k v) b j = gL M b j := rfl
theorem gL_pR (M : MM) (a k b j : Nat) (v : Option Nat) : gL (pR M a k v) b j = gL M b j := rfl
theorem gR_pI (M : MM) (a k b j : Nat) (v : Int32) : gR (pI M a k v) b j = gR M b j := rfl
theorem gR_pL (M : MM) (a k b j : Nat) (v : Int64) : gR (pL M a k v) b j = gR M b j := rfl
theorem ob_s {α β : Type} (x : α) (k : α → Option β) : ob (some x) k = k x := rfl
theorem ob_z {α β : Type} (k : α → Option β) : ob (none : Option α) k = none := rfl
theorem oc_x {β : Type} (b : Nat) (x : Option β) (B : Nat → Option β) : oc (some b) x B = B b := rfl
theorem oc_z {β : Type} (x : Option β) (B : Nat → Option β) : oc none x B = x := rfl
theorem chk_f {β : Type} {c : Prop} [Decidable c] {o : Option β} (h : ¬ c) : chk c o = o := if_neg h
theorem ix_n {j : Nat} (h : j < 2147483648) : ix (nI j) = j := nI_clamp h
theorem in_n {j n : Nat} (h : j < n) (hn : n < 2147483648) : ¬ (nI j < 0 ∨ n ≤ ix (nI j)) := by
  rw [ix_n (by omega)]
  intro q
  rcases q with q | q
  · exact nI_pos (by omega) q
  · omega
theorem chk_n {β : Type} {j n : Nat} {o : Option β} (h : j < n) (hn : n < 2147483648) : chk (nI j < 0 ∨ n ≤ ix (nI j)) o = o := chk_f (in_n h hn)
theorem nneg {j : Nat} (h : j < 2147483648) : ¬ nI j < 0 := nI_pos h
/-- a number is a place below n, or it isn't -/
theorem inr (x : Int32) {n : Nat} (hn : n < 2147483648) : (x < 0 ∨ nI n ≤ x) ∨ ∃ j, j < n ∧ x = nI j := by
  by_cases h : x < 0
  · exact Or.inl (Or.inl h)
  · by_cases h2 : nI n ≤ x
    · exact Or.inl (Or.inr h2)
    · obtain ⟨j, hj, rfl⟩ := nI_of h
      refine Or.inr ⟨j, ?_, rfl⟩
      rcases Nat.lt_or_ge j n with q | q
      · exact q
      · exact absurd (nI_le q hj) h2
/-- the class's Island at b: what its references hold -/
def IS (M : MM) (b : Nat) : Prop := gR M b 0 = some (b + 1) ∧ gR M b 1 = some (b + 2) ∧ gR M b 2 = some (b + 3) ∧ gR M b 3 = some (b + 4) ∧ gR M b 4 = some (b + 5) ∧ gR M b 5 = some (b + 6) ∧ gR M b 6 = some (b + 7) ∧ gR M b 7 = some (b + 8) ∧ (∀ i, i < 4 → gR M (b + 1) i = some (b + (9 + i))) ∧ (∀ i, i < 3 → gR M (b + 2) i = some (b + (13 + 2 * i))) ∧ (∀ i, i < 10 → gR M (b + 3) i = some (b + (19 + i))) ∧ (∀ i, i < 5 → gR M (b + 4) i = some (b + (29 + i))) ∧ (∀ i, i < 5 → gR M (b + 5) i = some (b + (34 + 2 * i))) ∧ (∀ i, i < 3 → gR M (b + 6) i = some (b + (44 + i))) ∧ (∀ i, i < 5 → gR M (b + 7) i = some (b + (47 + i))) ∧ (∀ i, i < 3 → gR M (b + (13 + 2 * i)) 2 = some (b + (14 + 2 * i))) ∧ (∀ i, i < 5 → gR M (b + (34 + 2 * i)) 4 = some (b + (35 + 2 * i)))
theorem IS.w0 {M : MM} {b : Nat} (h : IS M b) : gR M b 0 = some (b + 1) := h.1
theorem IS.w1 {M : MM} {b : Nat} (h : IS M b) : gR M b 1 = some (b + 2) := h.2.1
theorem IS.w2 {M : MM} {b : Nat} (h : IS M b) : gR M b 2 = some (b + 3) := h.2.2.1
theorem IS.w3 {M : MM} {b : Nat} (h : IS M b) : gR M b 3 = some (b + 4) := h.2.2.2.1
theorem IS.w4 {M : MM} {b : Nat} (h : IS M b) : gR M b 4 = some (b + 5) := h.2.2.2.2.1
theorem IS.w5 {M : MM} {b : Nat} (h : IS M b) : gR M b 5 = some (b + 6) := h.2.2.2.2.2.1
theorem IS.w6 {M : MM} {b : Nat} (h : IS M b) : gR M b 6 = some (b + 7) := h.2.2.2.2.2.2.1
theorem IS.w7 {M : MM} {b : Nat} (h : IS M b) : gR M b 7 = some (b + 8) := h.2.2.2.2.2.2.2.1
theorem IS.ew {M : MM} {b : Nat} (h : IS M b) : (∀ i, i < 4 → gR M (b + 1) i = some (b + (9 + i))) := h.2.2.2.2.2.2.2.2.1
theorem IS.er {M : MM} {b : Nat} (h : IS M b) : (∀ i, i < 3 → gR M (b + 2) i = some (b + (13 + 2 * i))) := h.2.2.2.2.2.2.2.2.2.1
theorem IS.es {M : MM} {b : Nat} (h : IS M b) : (∀ i, i < 10 → gR M (b + 3) i = some (b + (19 + i))) := h.2.2.2.2.2.2.2.2.2.2.1
theorem IS.et {M : MM} {b : Nat} (h : IS M b) : (∀ i, i < 5 → gR M (b + 4) i = some (b + (29 + i))) := h.2.2.2.2.2.2.2.2.2.2.2.1
theorem IS.ey {M : MM} {b : Nat} (h : IS M b) : (∀ i, i < 5 → gR M (b + 5) i = some (b + (34 + 2 * i))) := h.2.2.2.2.2.2.2.2.2.2.2.2.1
theorem IS.ee {M : MM} {b : Nat} (h : IS M b) : (∀ i, i < 3 → gR M (b + 6) i = some (b + (44 + i))) := h.2.2.2.2.2.2.2.2.2.2.2.2.2.1
theorem IS.ex {M : MM} {b : Nat} (h : IS M b) : (∀ i, i < 5 → gR M (b + 7) i = some (b + (47 + i))) := h.2.2.2.2.2.2.2.2.2.2.2.2.2.2.1
theorem IS.sl {M : MM} {b : Nat} (h : IS M b) : (∀ i, i < 3 → gR M (b + (13 + 2 * i)) 2 = some (b + (14 + 2 * i))) := h.2.2.2.2.2.2.2.2.2.2.2.2.2.2.2.1
theorem IS.ct {M : MM} {b : Nat} (h : IS M b) : (∀ i, i < 5 → gR M (b + (34 + 2 * i)) 4 = some (b + (35 + 2 * i))) := h.2.2.2.2.2.2.2.2.2.2.2.2.2.2.2.2
/-- the reference's Island at j -/
def JS (M : MM) (j : Nat) : Prop := gR M j 9 = some (j + 1) ∧ gR M j 10 = some (j + 2) ∧ gR M j 11 = some (j + 3) ∧ gR M j 12 = some (j + 4) ∧ gR M j 13 = some (j + 5) ∧ gR M j 14 = some (j + 6) ∧ gR M j 15 = some (j + 7) ∧ gR M j 16 = some (j + 8) ∧ gR M j 17 = some (j + 9) ∧ gR M j 18 = some (j + 10) ∧ gR M j 19 = some (j + 11) ∧ gR M j 20 = some (j + 12) ∧ gR M j 21 = some (j + 13) ∧ gR M j 22 = some (j + 14) ∧ gR M j 23 = some (j + 15) ∧ gR M j 24 = some (j + 16) ∧ gR M j 25 = some (j + 17) ∧ gR M j 26 = some (j + 18) ∧ gR M j 35 = some (j + 19) ∧ gR M j 36 = some (j + 20) ∧ gR M j 37 = some (j + 21) ∧ gR M j 38 = some (j + 22) ∧ gR M j 39 = some (j + 23) ∧ gR M j 40 = some (j + 24) ∧ gR M j 41 = some (j + 25) ∧ gR M j 42 = some (j + 26) ∧ gR M j 43 = some (j + 27) ∧ gR M j 44 = some (j + 28) ∧ gR M j 45 = some (j + 29) ∧ gR M j 46 = some (j + 30) ∧ gR M j 47 = some (j + 31)
theorem JS.k9 {M : MM} {j : Nat} (h : JS M j) : gR M j 9 = some (j + 1) := h.1
theorem JS.k10 {M : MM} {j : Nat} (h : JS M j) : gR M j 10 = some (j + 2) := h.2.1
theorem JS.k11 {M : MM} {j : Nat} (h : JS M j) : gR M j 11 = some (j + 3) := h.2.2.1
theorem JS.k12 {M : MM} {j : Nat} (h : JS M j) : gR M j 12 = some (j + 4) := h.2.2.2.1
theorem JS.k13 {M : MM} {j : Nat} (h : JS M j) : gR M j 13 = some (j + 5) := h.2.2.2.2.1
theorem JS.k14 {M : MM} {j : Nat} (h : JS M j) : gR M j 14 = some (j + 6) := h.2.2.2.2.2.1
theorem JS.k15 {M : MM} {j : Nat} (h : JS M j) : gR M j 15 = some (j + 7) := h.2.2.2.2.2.2.1
theorem JS.k16 {M : MM} {j : Nat} (h : JS M j) : gR M j 16 = some (j + 8) := h.2.2.2.2.2.2.2.1
theorem JS.k17 {M : MM} {j : Nat} (h : JS M j) : gR M j 17 = some (j + 9) := h.2.2.2.2.2.2.2.2.1
theorem JS.k18 {M : MM} {j : Nat} (h : JS M j) : gR M j 18 = some (j + 10) := h.2.2.2.2.2.2.2.2.2.1
theorem JS.k19 {M : MM} {j : Nat} (h : JS M j) : gR M j 19 = some (j + 11) := h.2.2.2.2.2.2.2.2.2.2.1
theorem JS.k20 {M : MM} {j : Nat} (h : JS M j) : gR M j 20 = some (j + 12) := h.2.2.2.2.2.2.2.2.2.2.2.1
theorem JS.k21 {M : MM} {j : Nat} (h : JS M j) : gR M j 21 = some (j + 13) := h.2.2.2.2.2.2.2.2.2.2.2.2.1
theorem JS.k22 {M : MM} {j : Nat} (h : JS M j) : gR M j 22 = some (j + 14) := h.2.2.2.2.2.2.2.2.2.2.2.2.2.1
theorem JS.k23 {M : MM} {j : Nat} (h : JS M j) : gR M j 23 = some (j + 15) := h.2.2.2.2.2.2.2.2.2.2.2.2.2.2.1
theorem JS.k24 {M : MM} {j : Nat} (h : JS M j) : gR M j 24 = some (j + 16) := h.2.2.2.2.2.2.2.2.2.2.2.2.2.2.2.1
theorem JS.k25 {M : MM} {j : Nat} (h : JS M j) : gR M j 25 = some (j + 17) := h.2.2.2.2.2.2.2.2.2.2.2.2.2.2.2.2.1
theorem JS.k26 {M : MM} {j : Nat} (h : JS M j) : gR M j 26 = some (j + 18) := h.2.2.2.2.2.2.2.2.2.2.2.2.2.2.2.2.2.1
theorem JS.k35 {M : MM} {j : Nat} (h : JS M j) : gR M j 35 = some (j + 19) := h.2.2.2.2.2.2.2.2.2.2.2.2.2.2.2.2.2.2.1
theorem JS.k36 {M : MM} {j : Nat} (h : JS M j) : gR M j 36 = some (j + 20) := h.2.2.2.2.2.2.2.2.2.2.2.2.2.2.2.2.2.2.2.1
theorem JS.k37 {M : MM} {j : Nat} (h : JS M j) : gR M j 37 = some (j + 21) := h.2.2.2.2.2.2.2.2.2.2.2.2.2.2.2.2.2.2.2.2.1
theorem JS.k38 {M : MM} {j : Nat} (h : JS M j) : gR M j 38 = some (j + 22) := h.2.2.2.2.2.2.2.2.2.2.2.2.2.2.2.2.2.2.2.2.2.1
theorem JS.k39 {M : MM} {j : Nat} (h : JS M j) : gR M j 39 = some (j + 23) := h.2.2.2.2.2.2.2.2.2.2.2.2.2.2.2.2.2.2.2.2.2.2.1
theorem JS.k40 {M : MM} {j : Nat} (h : JS M j) : gR M j 40 = some (j + 24) := h.2.2.2.2.2.2.2.2.2.2.2.2.2.2.2.2.2.2.2.2.2.2.2.1
theorem JS.k41 {M : MM} {j : Nat} (h : JS M j) : gR M j 41 = some (j + 25) := h.2.2.2.2.2.2.2.2.2.2.2.2.2.2.2.2.2.2.2.2.2.2.2.2.1
theorem JS.k42 {M : MM} {j : Nat} (h : JS M j) : gR M j 42 = some (j + 26) := h.2.2.2.2.2.2.2.2.2.2.2.2.2.2.2.2.2.2.2.2.2.2.2.2.2.1
theorem JS.k43 {M : MM} {j : Nat} (h : JS M j) : gR M j 43 = some (j + 27) := h.2.2.2.2.2.2.2.2.2.2.2.2.2.2.2.2.2.2.2.2.2.2.2.2.2.2.1
theorem JS.k44 {M : MM} {j : Nat} (h : JS M j) : gR M j 44 = some (j + 28) := h.2.2.2.2.2.2.2.2.2.2.2.2.2.2.2.2.2.2.2.2.2.2.2.2.2.2.2.1
theorem JS.k45 {M : MM} {j : Nat} (h : JS M j) : gR M j 45 = some (j + 29) := h.2.2.2.2.2.2.2.2.2.2.2.2.2.2.2.2.2.2.2.2.2.2.2.2.2.2.2.2.1
theorem JS.k46 {M : MM} {j : Nat} (h : JS M j) : gR M j 46 = some (j + 30) := h.2.2.2.2.2.2.2.2.2.2.2.2.2.2.2.2.2.2.2.2.2.2.2.2.2.2.2.2.2.1
theorem JS.k47 {M : MM} {j : Nat} (h : JS M j) : gR M j 47 = some (j + 31) := h.2.2.2.2.2.2.2.2.2.2.2.2.2.2.2.2.2.2.2.2.2.2.2.2.2.2.2.2.2.2
theorem chk_m {β : Type} {j n : Nat} {o : Option β} (h : j < n) (hn : n < 2147483648) : chk (nI j < 0 ∨ n ≤ j) o = o := chk_f (fun q => by
  rcases q with q | q
  · exact nI_pos (by omega) q
  · omega)
