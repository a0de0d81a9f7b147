/-! BOTH SYSTEMS AS THEY STAND BETWEEN THE CALLS -/
def ST (M : MM) (jo sc ic sp : Nat) : Prop := gR M 1 0 = some 2 ∧ gR M 1 1 = some 4 ∧ gR M 1 2 = some 8 ∧ gR M 1 3 = some jo ∧ gR M 1 4 = some sc ∧ gR M 1 5 = some ic ∧ gR M 1 6 = some sp ∧ gR M 2 0 = some 3 ∧ gR M 4 0 = some 2 ∧ gR M 4 1 = some 5 ∧ gR M 4 2 = some 6 ∧ gR M 4 3 = some 7 ∧ gR M 8 0 = some 9 ∧ gR M 8 1 = some 10 ∧ gR M 8 2 = some 11 ∧ IS M 14 ∧ IS M 66 ∧ ((jo = 12 ∧ sc = 13) ∨ (jo = 13 ∧ sc = 12)) ∧ ((ic = 14 ∧ sp = 66) ∨ (ic = 66 ∧ sp = 14))
section ST
variable {M : MM} {jo sc ic sp : Nat}
theorem ST.a0 (h : ST M jo sc ic sp) : gR M 1 0 = some 2 := h.1
theorem ST.a1 (h : ST M jo sc ic sp) : gR M 1 1 = some 4 := h.2.1
theorem ST.a2 (h : ST M jo sc ic sp) : gR M 1 2 = some 8 := h.2.2.1
theorem ST.a3 (h : ST M jo sc ic sp) : gR M 1 3 = some jo := h.2.2.2.1
theorem ST.a4 (h : ST M jo sc ic sp) : gR M 1 4 = some sc := h.2.2.2.2.1
theorem ST.a5 (h : ST M jo sc ic sp) : gR M 1 5 = some ic := h.2.2.2.2.2.1
theorem ST.a6 (h : ST M jo sc ic sp) : gR M 1 6 = some sp := h.2.2.2.2.2.2.1
theorem ST.t0 (h : ST M jo sc ic sp) : gR M 2 0 = some 3 := h.2.2.2.2.2.2.2.1
theorem ST.r0 (h : ST M jo sc ic sp) : gR M 4 0 = some 2 := h.2.2.2.2.2.2.2.2.1
theorem ST.r1 (h : ST M jo sc ic sp) : gR M 4 1 = some 5 := h.2.2.2.2.2.2.2.2.2.1
theorem ST.r2 (h : ST M jo sc ic sp) : gR M 4 2 = some 6 := h.2.2.2.2.2.2.2.2.2.2.1
theorem ST.r3 (h : ST M jo sc ic sp) : gR M 4 3 = some 7 := h.2.2.2.2.2.2.2.2.2.2.2.1
theorem ST.g0 (h : ST M jo sc ic sp) : gR M 8 0 = some 9 := h.2.2.2.2.2.2.2.2.2.2.2.2.1
theorem ST.g1 (h : ST M jo sc ic sp) : gR M 8 1 = some 10 := h.2.2.2.2.2.2.2.2.2.2.2.2.2.1
theorem ST.g2 (h : ST M jo sc ic sp) : gR M 8 2 = some 11 := h.2.2.2.2.2.2.2.2.2.2.2.2.2.2.1
theorem ST.i1 (h : ST M jo sc ic sp) : IS M 14 := h.2.2.2.2.2.2.2.2.2.2.2.2.2.2.2.1
theorem ST.i2 (h : ST M jo sc ic sp) : IS M 66 := h.2.2.2.2.2.2.2.2.2.2.2.2.2.2.2.2.1
theorem ST.joc (h : ST M jo sc ic sp) : (jo = 12 ∧ sc = 13) ∨ (jo = 13 ∧ sc = 12) := h.2.2.2.2.2.2.2.2.2.2.2.2.2.2.2.2.2.1
theorem ST.icc (h : ST M jo sc ic sp) : (ic = 14 ∧ sp = 66) ∨ (ic = 66 ∧ sp = 14) := h.2.2.2.2.2.2.2.2.2.2.2.2.2.2.2.2.2.2
theorem ST.isI (h : ST M jo sc ic sp) : IS M ic := by
  rcases h.icc with ⟨rfl, -⟩ | ⟨rfl, -⟩
  · exact h.i1
  · exact h.i2
theorem ST.isS (h : ST M jo sc ic sp) : IS M sp := by
  rcases h.icc with ⟨-, rfl⟩ | ⟨-, rfl⟩
  · exact h.i2
  · exact h.i1
theorem ST.icg (h : ST M jo sc ic sp) : (ic = 14 ∨ ic = 66) ∧ (sp = 14 ∨ sp = 66) ∧ ic ≠ sp := by
  rcases h.icc with ⟨rfl, rfl⟩ | ⟨rfl, rfl⟩ <;> simp
end ST
/-- the trees of a story, year by year -/
def trS (c m e g p t y : Int32) : Int32 :=
  let v := (t + (if c = 1 then t * g / 100 * (100 - m) / 100 else t * g / 100)) - (t * 2 / 100 + (if c = 0 then m * p / 100 else if c = 2 then (if y - y / e * e = 0 then t * m / 100 else 0) else 0))
  if v < 0 then 0 else if 9999 < v then 9999 else v
def tree (D : DT) (i : Nat) : Nat → Int32
  | 0 => D 0 27
  | y + 1 => trS (D 20 i) (D 21 i) (D 22 i) (D 0 28) (D 0 29) (tree D i y) (nI (y + 1))
/-- the class keeps them, if there is land -/
def TR (M : MM) (b : Nat) (D : DT) (n : Nat → Nat) : Prop := D 0 27 ≠ -1 → ∀ i, i < n 4 → ∀ y, y < 100 → gI M (b + (35 + 2 * i)) y = tree D i y
/-- an object without an island -/
def CB (M : MM) (b : Nat) : Prop := IS M b ∧ CN M b (fun _ => 0) ∧ gI M b 8 = 0
/-- the islands: none, or the same -/
def IR (C R : MM) (ic : Nat) : Prop := (CB C ic ∧ gR R 118 3 = none) ∨ ∃ j D n, CI C ic D n ∧ RI R j D ∧ TR C ic D n
/-- a move that stands: how far one is, and how it lies, by what was told last -/
def JB (C R : MM) (jo : Nat) (D : DT) (n : Nat → Nat) : Prop := ∃ st w r pe to pl h k, st < n 2 ∧ w < n 0 ∧ r < n 1 ∧ (1 ≤ pe ∧ pe ≤ 200) ∧ (1 ≤ to ∧ to ≤ 5) ∧ (h ≤ 6 ∧ D 5 r = nI h) ∧ (k < 4 ∧ D 1 w = nI k) ∧ (to = 2 → pl = h) ∧ (to ≠ 2 → pl < h) ∧
    gI C jo 1 = 1 ∧ gI C jo 2 = nI to ∧ gI C jo 3 = nI pe ∧ gI C jo 4 = nI st ∧ gI C jo 5 = nI w ∧ gI C jo 6 = nI r ∧ gI C jo 7 = nI pl ∧
    gI C jo 9 = (stv 3 k * D 7 st) * nI (if to = 3 then pl + 1 else pl) ∧ ((to = 3 ∧ ∃ l, l < 3 ∧ gI C jo 10 = nI l) ∨ (to ≠ 3 ∧ gI C jo 10 = -2)) ∧
    gI R 118 17 = nI st ∧ gI R 118 18 = nI w ∧ gI R 118 19 = nI r ∧ gI R 118 20 = nI pe ∧ gI R 118 21 = nI to ∧ gI R 118 22 = nI pl ∧ gI R 118 23 = gI C jo 8 ∧ gI R 118 24 = gI C jo 10
def JN (C R : MM) (jo : Nat) : Prop := gI C jo 1 = 0 ∧ gI R 118 17 = -1
def SD (C R : MM) (jo : Nat) : Prop := ∃ sd, sd ≤ 65536 ∧ gI C jo 0 = nI sd ∧ gI R 118 16 = nI sd
/-- trouble, fault, place -/
def TQ (C R : MM) : Prop := gI C 1 7 = gI R 118 1 ∧ gI C 4 5 = gI R 118 13 ∧ gI R 118 2 = (if gI C 1 7 = 4 then gI C 4 6 else -1)
/-- the tape -/
def TP (C R : MM) : Prop := ∃ t, t ≤ 900 ∧ gI C 2 1 = nI t ∧ gI R 118 6 = nI t ∧ ∀ k, k < t → gI C 3 k = gI R 119 k ∧ ∃ z : Int32, gI C 3 k = z.toInt8.toInt32
/-- what was seen -/
def SR (C R : MM) : Prop := ∃ s, s ≤ 12 ∧ gI C 8 3 = nI s ∧ gI R 118 25 = nI s ∧ ∀ k, k < s → (∃ y, y < 100 ∧ gI C 9 k = nI y ∧ gI R 120 k = nI y) ∧ (∃ t, t ≤ 9999 ∧ gI C 10 k = nI t ∧ gI R 121 k = nI t) ∧ (∃ o, o ≤ 999 ∧ gI C 11 k = nI o ∧ gI R 122 k = nI o)
def RT (M : MM) : Prop := gR M 118 5 = some 119 ∧ gR M 118 26 = some 120 ∧ gR M 118 27 = some 121 ∧ gR M 118 28 = some 122
/-- the islands, and the moves on them -/
def IJ (C R : MM) (jo ic : Nat) : Prop := (CB C ic ∧ gR R 118 3 = none ∧ JN C R jo ∧ gI C jo 0 = 0 ∧ gI C 8 3 = 0) ∨ ∃ j D n, CI C ic D n ∧ RI R j D ∧ TR C ic D n ∧ (JN C R jo ∨ JB C R jo D n)
theorem IJ.ir {C R : MM} {jo ic : Nat} (h : IJ C R jo ic) : IR C R ic := by
  rcases h with ⟨h1, h2, -⟩ | ⟨j, D, n, h1, h2, h3, -⟩
  · exact Or.inl ⟨h1, h2⟩
  · exact Or.inr ⟨j, D, n, h1, h2, h3⟩
def TOP (C R : MM) : Prop := ∃ jo sc ic sp, ST C jo sc ic sp ∧ RT R ∧ TQ C R ∧ TP C R ∧ SR C R ∧ SD C R jo ∧ IJ C R jo ic
/-- a call that changes nothing but trouble -/
def rM (R : MM) (tr : Int32) : MM := pI (pI (pI R 118 0 0) 118 1 tr) 118 2 (-1)
def QQ (C R : MM) (x y : Option (Int32 × MM)) : Prop := ∃ r tr, tr ≠ 4 ∧ x = some (r, pI C 1 7 tr) ∧ y = some (r, rM R tr)
theorem bare_n {M : MM} {b : Nat} (h : CB M b) (x : Int32) : f_X0_wayAt M b x = some none ∧ f_X0_roadAt M b x = some none ∧ f_X0_statueAt M b x = some none ∧ f_X0_trialAt M b x = some none ∧ f_X0_storyAt M b x = some none ∧ f_X0_tellerAt M b x = some none := by
  have hx : x < 0 ∨ nI 0 ≤ x := (Int32.lt_or_le x 0)
  obtain ⟨h1, h2, -⟩ := h
  exact ⟨wayAt_n h1 h2.1 hx, roadAt_n h1 h2.2.1 hx, statueAt_n h1 h2.2.2.1 hx, trialAt_n h1 h2.2.2.2.1 hx, storyAt_n h1 h2.2.2.2.2.1 hx, tellerAt_n h1 h2.2.2.2.2.2.1 hx⟩
theorem bare_h {M : MM} {b : Nat} (h : CB M b) (x : Int32) : f_X0_has M b 0 x = some 0 ∧ f_X0_has M b 1 x = some 0 ∧ f_X0_has M b 2 x = some 0 := by
  have hx : x < 0 ∨ nI 0 ≤ x := (Int32.lt_or_le x 0)
  obtain ⟨h1, h2, -⟩ := h
  exact ⟨has0_n h1 h2.1 hx, has1_n h1 h2.2.1 hx, has2_n h1 h2.2.2.1 hx⟩
theorem bare_b {M : MM} {b : Nat} (h : CB M b) : f_X0_isBare M b = some 1 := by
  rw [bare_eq h.1, h.2.1.2.2.1]
  rfl
theorem live_b {M : MM} {b : Nat} {D : DT} {n : Nat → Nat} (h : CI M b D n) : f_X0_isBare M b = some 0 := by
  have h1 := h.nb
  have h2 := h.n0
  rw [bare_eq h.is, h.cn.2.2.1, if_neg (nI_ne0 (by omega) (by have := h1.2.2.1; omega))]
section REF2
variable {M : MM} {j : Nat} {D : DT}
theorem isWay_s {n k : Nat} (h : RI M j D) (hn : D 0 0 = nI n) (hk : k < n) (hb : n < 100) : f_X13_isWay M 118 (nI k) = some 1 := by
  unfold f_X13_isWay
  rw [h.j, oc_x, if_neg (nneg (by omega)), oc_x, h.d0, hn, if_neg (nI_ge hk (by omega))]
theorem isWay_n {n : Nat} {x : Int32} (h : RI M j D) (hn : D 0 0 = nI n) (hx : x < 0 ∨ nI n ≤ x) : f_X13_isWay M 118 x = some 0 := by
  unfold f_X13_isWay
  rw [h.j, oc_x, oc_x, h.d0, hn]
  by_cases h0 : x < 0
  · rw [if_pos h0]
  · rw [if_neg h0, if_pos (hx.resolve_left h0)]
theorem isRoad_s {n k : Nat} (h : RI M j D) (hn : D 0 1 = nI n) (hk : k < n) (hb : n < 100) : f_X13_isRoad M 118 (nI k) = some 1 := by
  unfold f_X13_isRoad
  rw [h.j, oc_x, if_neg (nneg (by omega)), oc_x, h.d0, hn, if_neg (nI_ge hk (by omega))]
theorem isRoad_n {n : Nat} {x : Int32} (h : RI M j D) (hn : D 0 1 = nI n) (hx : x < 0 ∨ nI n ≤ x) : f_X13_isRoad M 118 x = some 0 := by
  unfold f_X13_isRoad
  rw [h.j, oc_x, oc_x, h.d0, hn]
  by_cases h0 : x < 0
  · rw [if_pos h0]
  · rw [if_neg h0, if_pos (hx.resolve_left h0)]
theorem isStatue_s {n k : Nat} (h : RI M j D) (hn : D 0 2 = nI n) (hk : k < n) (hb : n < 100) : f_X13_isStatue M 118 (nI k) = some 1 := by
  unfold f_X13_isStatue
  rw [h.j, oc_x, if_neg (nneg (by omega)), oc_x, h.d0, hn, if_neg (nI_ge hk (by omega))]
theorem isStatue_n {n : Nat} {x : Int32} (h : RI M j D) (hn : D 0 2 = nI n) (hx : x < 0 ∨ nI n ≤ x) : f_X13_isStatue M 118 x = some 0 := by
  unfold f_X13_isStatue
  rw [h.j, oc_x, oc_x, h.d0, hn]
  by_cases h0 : x < 0
  · rw [if_pos h0]
  · rw [if_neg h0, if_pos (hx.resolve_left h0)]
theorem isStory_s {n k : Nat} (h : RI M j D) (hn : D 0 5 = nI n) (hk : k < n) (hb : n < 100) : f_X13_isStory M 118 (nI k) = some 1 := by
  unfold f_X13_isStory
  rw [h.j, oc_x, if_neg (nneg (by omega)), oc_x, h.d0, hn, if_neg (nI_ge hk (by omega))]
theorem isStory_n {n : Nat} {x : Int32} (h : RI M j D) (hn : D 0 5 = nI n) (hx : x < 0 ∨ nI n ≤ x) : f_X13_isStory M 118 x = some 0 := by
  unfold f_X13_isStory
  rw [h.j, oc_x, oc_x, h.d0, hn]
  by_cases h0 : x < 0
  · rw [if_pos h0]
  · rw [if_neg h0, if_pos (hx.resolve_left h0)]
end REF2
theorem rnone {M : MM} (h : gR M 118 3 = none) (x : Int32) : f_X13_isWay M 118 x = some 0 ∧ f_X13_isRoad M 118 x = some 0 ∧ f_X13_isStatue M 118 x = some 0 ∧ f_X13_isStory M 118 x = some 0 := by
  unfold f_X13_isWay f_X13_isRoad f_X13_isStatue f_X13_isStory
  rw [h]
  exact ⟨rfl, rfl, rfl, rfl⟩
/-- the reference's memory as a call begins: thrown is cleared -/
theorem RI.t {M : MM} {j : Nat} {D : DT} (h : RI M j D) (v : Int32) : RI (pI M 118 0 v) j D := h.put (by decide)
