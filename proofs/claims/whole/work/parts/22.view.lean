/-! THE ISLAND AS NUMBERS: D c i is what the reference's cell c of an Island holds at i (0: its fields); n s: how many of sort s -/
abbrev DT : Type := Nat → Nat → Int32
def VW (D : DT) (i : Nat) : Prop := (∃ k, k < 4 ∧ D 1 i = nI k) ∧ ∃ p, 1 ≤ p ∧ p ≤ 20 ∧ D 3 i = nI p
def VR (D : DT) (i : Nat) : Prop := ∃ h, 1 ≤ h ∧ h ≤ 6 ∧ D 5 i = nI h
def VS (D : DT) (nr i : Nat) : Prop := (∃ l, l ≤ 30 ∧ D 8 i = nI l) ∧ (D 10 i = 5 → ∃ l r p h, l < 3 ∧ r < nr ∧ p < h ∧ h ≤ 6 ∧ D 11 i = nI l ∧ D 12 i = nI r ∧ D 13 i = nI p ∧ D 5 r = nI h)
def VT (D : DT) (nw i : Nat) : Prop := (∃ w, w < nw ∧ D 14 i = nI w) ∧ ¬ D 15 i ≤ 0 ∧ ¬ D 17 i ≤ 0
def VY (D : DT) (i : Nat) : Prop := (∃ c, c < 3 ∧ D 20 i = nI c) ∧ (D 20 i = 2 → ¬ D 22 i ≤ 0)
/-- what is told of an Island is in its bounds -/
def VD (D : DT) (n : Nat → Nat) : Prop := (∀ i, i < n 0 → VW D i) ∧ (∀ i, i < n 1 → VR D i) ∧ (∀ i, i < n 2 → VS D (n 1) i) ∧ (∀ i, i < n 3 → VT D (n 0) i) ∧ (∀ i, i < n 4 → VY D i)
def NB (n : Nat → Nat) : Prop := n 0 ≤ 4 ∧ n 1 ≤ 3 ∧ n 2 ≤ 10 ∧ n 3 ≤ 5 ∧ n 4 ≤ 5 ∧ n 5 ≤ 3 ∧ n 6 ≤ 5
/-- the class's Island at b, its lines -/
def EW (M : MM) (b : Nat) (D : DT) (i : Nat) : Prop := gI M (b + (9 + i)) 0 = D 1 i ∧ gI M (b + (9 + i)) 1 = D 2 i ∧ gI M (b + (9 + i)) 2 = D 3 i
def ER (M : MM) (b : Nat) (D : DT) (i : Nat) : Prop := gI M (b + (13 + 2 * i)) 0 = D 4 i ∧ gI M (b + (13 + 2 * i)) 1 = D 5 i ∧ ∀ k, nI k < D 5 i → k < 6 → gI M (b + (14 + 2 * i)) k = D 6 (6 * i + k)
def ES (M : MM) (b : Nat) (D : DT) (i : Nat) : Prop := gI M (b + (19 + i)) 0 = D 7 i ∧ gI M (b + (19 + i)) 1 = D 8 i ∧ gI M (b + (19 + i)) 2 = D 9 i ∧ gI M (b + (19 + i)) 3 = D 10 i ∧ gI M (b + (19 + i)) 4 = D 11 i ∧ gI M (b + (19 + i)) 5 = D 12 i ∧ gI M (b + (19 + i)) 6 = D 13 i ∧
  (D 10 i = 5 → ∀ r p, D 12 i = nI r → D 13 i = nI p → r < 3 → p < 6 → gI M (b + (19 + i)) 7 = D 6 (6 * r + p))
def ET (M : MM) (b : Nat) (D : DT) (i : Nat) : Prop := gI M (b + (29 + i)) 0 = D 14 i ∧ gI M (b + (29 + i)) 1 = D 15 i ∧ gI M (b + (29 + i)) 2 = D 16 i ∧ gI M (b + (29 + i)) 3 = D 17 i ∧ gI M (b + (29 + i)) 4 = D 18 i
def EY (M : MM) (b : Nat) (D : DT) (i : Nat) : Prop := gI M (b + (34 + 2 * i)) 0 = D 19 i ∧ gI M (b + (34 + 2 * i)) 1 = D 20 i ∧ gI M (b + (34 + 2 * i)) 2 = D 21 i ∧ (D 20 i = 2 → gI M (b + (34 + 2 * i)) 3 = D 22 i)
def EL (M : MM) (b : Nat) (D : DT) (i : Nat) : Prop := gI M (b + (44 + i)) 0 = D 28 i ∧ gI M (b + (44 + i)) 1 = D 23 i
def EX (M : MM) (b : Nat) (D : DT) (i : Nat) : Prop := gI M (b + (47 + i)) 0 = D 24 i ∧ gI M (b + (47 + i)) 1 = D 25 i ∧ gI M (b + (47 + i)) 2 = D 26 i ∧ gI M (b + (47 + i)) 7 = D 27 i
def CE (M : MM) (b : Nat) (D : DT) (n : Nat → Nat) : Prop := (∀ i, i < n 0 → EW M b D i) ∧ (∀ i, i < n 1 → ER M b D i) ∧ (∀ i, i < n 2 → ES M b D i) ∧ (∀ i, i < n 3 → ET M b D i) ∧ (∀ i, i < n 4 → EY M b D i) ∧ (∀ i, i < n 5 → EL M b D i) ∧ (∀ i, i < n 6 → EX M b D i)
def CN (M : MM) (b : Nat) (n : Nat → Nat) : Prop := gI M (b + 8) 0 = nI (n 0) ∧ gI M (b + 8) 1 = nI (n 1) ∧ gI M (b + 8) 2 = nI (n 2) ∧ gI M (b + 8) 3 = nI (n 3) ∧ gI M (b + 8) 4 = nI (n 4) ∧ gI M (b + 8) 5 = nI (n 5) ∧ gI M (b + 8) 6 = nI (n 6)
/-- land, fields, houses: a flag in the class, a number that isn't -1 in the reference -/
def EF (M : MM) (b : Nat) (D : DT) : Prop := gI M b 8 = D 0 3 ∧
  ((gI M (b + 8) 7 = 0 ∧ D 0 27 = -1) ∨ (gI M (b + 8) 7 = 1 ∧ (∃ t, t ≤ 999 ∧ D 0 27 = nI t) ∧ gI M b 9 = D 0 27 ∧ gI M b 10 = D 0 28 ∧ gI M b 11 = D 0 29)) ∧
  ((gI M (b + 8) 8 = 0 ∧ D 0 30 = -1) ∨ (gI M (b + 8) 8 = 1 ∧ (∃ t, t ≤ 999 ∧ D 0 30 = nI t) ∧ gI M b 12 = D 0 30 ∧ gI M b 13 = D 0 31)) ∧
  ((gI M (b + 8) 9 = 0 ∧ D 0 32 = -1) ∨ (gI M (b + 8) 9 = 1 ∧ (∃ t, t ≤ 999 ∧ D 0 32 = nI t) ∧ gI M b 14 = D 0 32 ∧ gI M b 15 = D 0 33 ∧ gI M b 16 = D 0 34))
def DN (D : DT) (n : Nat → Nat) : Prop := D 0 0 = nI (n 0) ∧ D 0 1 = nI (n 1) ∧ D 0 2 = nI (n 2) ∧ D 0 4 = nI (n 3) ∧ D 0 5 = nI (n 4) ∧ D 0 6 = nI (n 5) ∧ D 0 7 = nI (n 6)
/-- the class's Island at b, as it stands between the calls -/
def CI (M : MM) (b : Nat) (D : DT) (n : Nat → Nat) : Prop := IS M b ∧ NB n ∧ VD D n ∧ CE M b D n ∧ CN M b n ∧ EF M b D ∧ DN D n ∧ 1 ≤ n 0 ∧ 1 ≤ n 1 ∧ 1 ≤ n 2
theorem CI.is {M : MM} {b : Nat} {D : DT} {n : Nat → Nat} (h : CI M b D n) : IS M b := h.1
theorem CI.nb {M : MM} {b : Nat} {D : DT} {n : Nat → Nat} (h : CI M b D n) : NB n := h.2.1
theorem CI.vd {M : MM} {b : Nat} {D : DT} {n : Nat → Nat} (h : CI M b D n) : VD D n := h.2.2.1
theorem CI.ce {M : MM} {b : Nat} {D : DT} {n : Nat → Nat} (h : CI M b D n) : CE M b D n := h.2.2.2.1
theorem CI.cn {M : MM} {b : Nat} {D : DT} {n : Nat → Nat} (h : CI M b D n) : CN M b n := h.2.2.2.2.1
theorem CI.ef {M : MM} {b : Nat} {D : DT} {n : Nat → Nat} (h : CI M b D n) : EF M b D := h.2.2.2.2.2.1
theorem CI.dn {M : MM} {b : Nat} {D : DT} {n : Nat → Nat} (h : CI M b D n) : DN D n := h.2.2.2.2.2.2.1
theorem CI.n0 {M : MM} {b : Nat} {D : DT} {n : Nat → Nat} (h : CI M b D n) : 1 ≤ n 0 ∧ 1 ≤ n 1 ∧ 1 ≤ n 2 := h.2.2.2.2.2.2.2
theorem CI.c0 {M : MM} {b : Nat} {D : DT} {n : Nat → Nat} (h : CI M b D n) : f_X0_count M b 0 = some (nI (n 0)) := by rw [cnt0 h.is, h.cn.1]
theorem CI.c1 {M : MM} {b : Nat} {D : DT} {n : Nat → Nat} (h : CI M b D n) : f_X0_count M b 1 = some (nI (n 1)) := by rw [cnt1 h.is, h.cn.2.1]
theorem CI.c2 {M : MM} {b : Nat} {D : DT} {n : Nat → Nat} (h : CI M b D n) : f_X0_count M b 2 = some (nI (n 2)) := by rw [cnt2 h.is, h.cn.2.2.1]
theorem CI.c3 {M : MM} {b : Nat} {D : DT} {n : Nat → Nat} (h : CI M b D n) : f_X0_count M b 3 = some (nI (n 3)) := by rw [cnt3 h.is, h.cn.2.2.2.1]
theorem CI.c4 {M : MM} {b : Nat} {D : DT} {n : Nat → Nat} (h : CI M b D n) : f_X0_count M b 4 = some (nI (n 4)) := by rw [cnt4 h.is, h.cn.2.2.2.2.1]
theorem CI.c5 {M : MM} {b : Nat} {D : DT} {n : Nat → Nat} (h : CI M b D n) : f_X0_count M b 5 = some (nI (n 5)) := by rw [cnt5 h.is, h.cn.2.2.2.2.2.1]
theorem CI.c6 {M : MM} {b : Nat} {D : DT} {n : Nat → Nat} (h : CI M b D n) : f_X0_count M b 6 = some (nI (n 6)) := by rw [cnt6 h.is, h.cn.2.2.2.2.2.2]
theorem CI.w {M : MM} {b : Nat} {D : DT} {n : Nat → Nat} (h : CI M b D n) {k : Nat} (hk : k < n 0) : f_X0_wayAt M b (nI k) = some (some (b + (9 + k))) := wayAt_s h.is h.cn.1 h.nb.1 hk
theorem CI.r {M : MM} {b : Nat} {D : DT} {n : Nat → Nat} (h : CI M b D n) {k : Nat} (hk : k < n 1) : f_X0_roadAt M b (nI k) = some (some (b + (13 + 2 * k))) := roadAt_s h.is h.cn.2.1 h.nb.2.1 hk
theorem CI.s {M : MM} {b : Nat} {D : DT} {n : Nat → Nat} (h : CI M b D n) {k : Nat} (hk : k < n 2) : f_X0_statueAt M b (nI k) = some (some (b + (19 + k))) := statueAt_s h.is h.cn.2.2.1 h.nb.2.2.1 hk
theorem CI.t {M : MM} {b : Nat} {D : DT} {n : Nat → Nat} (h : CI M b D n) {k : Nat} (hk : k < n 3) : f_X0_trialAt M b (nI k) = some (some (b + (29 + k))) := trialAt_s h.is h.cn.2.2.2.1 h.nb.2.2.2.1 hk
theorem CI.y {M : MM} {b : Nat} {D : DT} {n : Nat → Nat} (h : CI M b D n) {k : Nat} (hk : k < n 4) : f_X0_storyAt M b (nI k) = some (some (b + (34 + 2 * k))) := storyAt_s h.is h.cn.2.2.2.2.1 h.nb.2.2.2.2.1 hk
theorem CI.l {M : MM} {b : Nat} {D : DT} {n : Nat → Nat} (h : CI M b D n) {k : Nat} (hk : k < n 5) : f_X0_tellerAt M b (nI k) = some (some (b + (44 + k))) := tellerAt_s h.is h.cn.2.2.2.2.2.1 h.nb.2.2.2.2.2.1 hk
theorem CI.x {M : MM} {b : Nat} {D : DT} {n : Nat → Nat} (h : CI M b D n) {k : Nat} (hk : k < n 6) : f_X0_thingAt M b (nI k) = some (some (b + (47 + k))) := thingAt_s h.is h.cn.2.2.2.2.2.2 h.nb.2.2.2.2.2.2 hk
/-- the reference's Island at j -/
def RI (M : MM) (j : Nat) (D : DT) : Prop := gR M 118 3 = some j ∧ JS M j ∧ 123 < j ∧ ∀ c i, c < 32 → gI M (j + c) i = D c i
theorem RI.j {M : MM} {j : Nat} {D : DT} (h : RI M j D) : gR M 118 3 = some j := h.1
theorem RI.s {M : MM} {j : Nat} {D : DT} (h : RI M j D) : JS M j := h.2.1
theorem RI.g {M : MM} {j : Nat} {D : DT} (h : RI M j D) : 123 < j := h.2.2.1
theorem RI.d {M : MM} {j : Nat} {D : DT} (h : RI M j D) (c i : Nat) (hc : c < 32) : gI M (j + c) i = D c i := h.2.2.2 c i hc
theorem RI.d0 {M : MM} {j : Nat} {D : DT} (h : RI M j D) (i : Nat) : gI M j i = D 0 i := h.2.2.2 0 i (by decide)
theorem RI.put {M : MM} {j : Nat} {D : DT} (h : RI M j D) {a k : Nat} {v : Int32} (ha : a ≤ 123) : RI (pI M a k v) j D := ⟨h.1, h.2.1, h.2.2.1, fun c i hc => by
  have := h.g
  rw [gI_pIa (show j + c ≠ a by omega)]
  exact h.d c i hc⟩
