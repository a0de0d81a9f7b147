/-! LEAVES OF THE CLASS -/
theorem entry_s {M : MM} {a n j : Nat} (h : j < n) (hn : n < 2147483648) : f_X11_entry M a n (nI j) = some (gI M a j) := by
  unfold f_X11_entry
  rw [if_neg (nneg (by omega)), if_neg (nI_ge h hn), chk_n h hn, ix_n (by omega)]
theorem entry_n {M : MM} {a n : Nat} {x : Int32} (h : x < 0 ∨ nI n ≤ x) : f_X11_entry M a n x = some 0 := by
  unfold f_X11_entry
  by_cases h0 : x < 0
  · rw [if_pos h0]
  · rw [if_neg h0, if_pos (h.resolve_left h0)]
theorem entryS_s {M : MM} {t j : Nat} (h : j < stl t) (hn : stl t < 2147483648) : f_X11_entry_s M t (nI j) = some (stv t j) := by
  unfold f_X11_entry_s
  rw [if_neg (nneg (by omega)), if_neg (nI_ge h hn), chk_n h hn, ix_n (by omega)]
theorem cnt0 {M : MM} {b : Nat} (h : IS M b) : f_X0_count M b 0 = some (gI M (b + 8) 0) := by
  unfold f_X0_count
  rw [h.w7, oc_x, show (0 : Int32) = nI 0 from rfl, entry_s (by decide) (by decide), ob_s]
theorem cnt1 {M : MM} {b : Nat} (h : IS M b) : f_X0_count M b 1 = some (gI M (b + 8) 1) := by
  unfold f_X0_count
  rw [h.w7, oc_x, show (1 : Int32) = nI 1 from rfl, entry_s (by decide) (by decide), ob_s]
theorem cnt2 {M : MM} {b : Nat} (h : IS M b) : f_X0_count M b 2 = some (gI M (b + 8) 2) := by
  unfold f_X0_count
  rw [h.w7, oc_x, show (2 : Int32) = nI 2 from rfl, entry_s (by decide) (by decide), ob_s]
theorem cnt3 {M : MM} {b : Nat} (h : IS M b) : f_X0_count M b 3 = some (gI M (b + 8) 3) := by
  unfold f_X0_count
  rw [h.w7, oc_x, show (3 : Int32) = nI 3 from rfl, entry_s (by decide) (by decide), ob_s]
theorem cnt4 {M : MM} {b : Nat} (h : IS M b) : f_X0_count M b 4 = some (gI M (b + 8) 4) := by
  unfold f_X0_count
  rw [h.w7, oc_x, show (4 : Int32) = nI 4 from rfl, entry_s (by decide) (by decide), ob_s]
theorem cnt5 {M : MM} {b : Nat} (h : IS M b) : f_X0_count M b 5 = some (gI M (b + 8) 5) := by
  unfold f_X0_count
  rw [h.w7, oc_x, show (5 : Int32) = nI 5 from rfl, entry_s (by decide) (by decide), ob_s]
theorem cnt6 {M : MM} {b : Nat} (h : IS M b) : f_X0_count M b 6 = some (gI M (b + 8) 6) := by
  unfold f_X0_count
  rw [h.w7, oc_x, show (6 : Int32) = nI 6 from rfl, entry_s (by decide) (by decide), ob_s]
theorem cnt7 {M : MM} {b : Nat} (h : IS M b) : f_X0_count M b 7 = some (gI M (b + 8) 7) := by
  unfold f_X0_count
  rw [h.w7, oc_x, show (7 : Int32) = nI 7 from rfl, entry_s (by decide) (by decide), ob_s]
theorem cnt8 {M : MM} {b : Nat} (h : IS M b) : f_X0_count M b 8 = some (gI M (b + 8) 8) := by
  unfold f_X0_count
  rw [h.w7, oc_x, show (8 : Int32) = nI 8 from rfl, entry_s (by decide) (by decide), ob_s]
theorem cnt9 {M : MM} {b : Nat} (h : IS M b) : f_X0_count M b 9 = some (gI M (b + 8) 9) := by
  unfold f_X0_count
  rw [h.w7, oc_x, show (9 : Int32) = nI 9 from rfl, entry_s (by decide) (by decide), ob_s]
theorem wayAt_s {M : MM} {b n k : Nat} (h : IS M b) (hc : gI M (b + 8) 0 = nI n) (hn : n ≤ 4) (hk : k < n) : f_X0_wayAt M b (nI k) = some (some (b + (9 + k))) := by
  unfold f_X0_wayAt
  rw [if_neg (nneg (by omega)), h.w7, oc_x, show ix 0 = 0 from rfl, hc, if_neg (nI_ge hk (by omega)), h.w0, oc_x, show (4 : Int32) = nI 4 from rfl, if_neg (nI_ge (by omega) (by decide)), oc_x, chk_n (by omega) (by decide), ix_n (by omega), h.ew k (by omega), oc_x]
theorem wayAt_n {M : MM} {b n : Nat} {x : Int32} (h : IS M b) (hc : gI M (b + 8) 0 = nI n) (hx : x < 0 ∨ nI n ≤ x) : f_X0_wayAt M b x = some none := by
  unfold f_X0_wayAt
  by_cases h0 : x < 0
  · rw [if_pos h0]
  · rw [if_neg h0, h.w7, oc_x, show ix 0 = 0 from rfl, hc, if_pos (hx.resolve_left h0)]
theorem roadAt_s {M : MM} {b n k : Nat} (h : IS M b) (hc : gI M (b + 8) 1 = nI n) (hn : n ≤ 3) (hk : k < n) : f_X0_roadAt M b (nI k) = some (some (b + (13 + 2 * k))) := by
  unfold f_X0_roadAt
  rw [if_neg (nneg (by omega)), h.w7, oc_x, show ix 1 = 1 from rfl, hc, if_neg (nI_ge hk (by omega)), h.w1, oc_x, show (3 : Int32) = nI 3 from rfl, if_neg (nI_ge (by omega) (by decide)), oc_x, chk_n (by omega) (by decide), ix_n (by omega), h.er k (by omega), oc_x]
theorem roadAt_n {M : MM} {b n : Nat} {x : Int32} (h : IS M b) (hc : gI M (b + 8) 1 = nI n) (hx : x < 0 ∨ nI n ≤ x) : f_X0_roadAt M b x = some none := by
  unfold f_X0_roadAt
  by_cases h0 : x < 0
  · rw [if_pos h0]
  · rw [if_neg h0, h.w7, oc_x, show ix 1 = 1 from rfl, hc, if_pos (hx.resolve_left h0)]
theorem statueAt_s {M : MM} {b n k : Nat} (h : IS M b) (hc : gI M (b + 8) 2 = nI n) (hn : n ≤ 10) (hk : k < n) : f_X0_statueAt M b (nI k) = some (some (b + (19 + k))) := by
  unfold f_X0_statueAt
  rw [if_neg (nneg (by omega)), h.w7, oc_x, show ix 2 = 2 from rfl, hc, if_neg (nI_ge hk (by omega)), h.w2, oc_x, show (10 : Int32) = nI 10 from rfl, if_neg (nI_ge (by omega) (by decide)), oc_x, chk_n (by omega) (by decide), ix_n (by omega), h.es k (by omega), oc_x]
theorem statueAt_n {M : MM} {b n : Nat} {x : Int32} (h : IS M b) (hc : gI M (b + 8) 2 = nI n) (hx : x < 0 ∨ nI n ≤ x) : f_X0_statueAt M b x = some none := by
  unfold f_X0_statueAt
  by_cases h0 : x < 0
  · rw [if_pos h0]
  · rw [if_neg h0, h.w7, oc_x, show ix 2 = 2 from rfl, hc, if_pos (hx.resolve_left h0)]
theorem trialAt_s {M : MM} {b n k : Nat} (h : IS M b) (hc : gI M (b + 8) 3 = nI n) (hn : n ≤ 5) (hk : k < n) : f_X0_trialAt M b (nI k) = some (some (b + (29 + k))) := by
  unfold f_X0_trialAt
  rw [if_neg (nneg (by omega)), h.w7, oc_x, show ix 3 = 3 from rfl, hc, if_neg (nI_ge hk (by omega)), h.w3, oc_x, show (5 : Int32) = nI 5 from rfl, if_neg (nI_ge (by omega) (by decide)), oc_x, chk_n (by omega) (by decide), ix_n (by omega), h.et k (by omega), oc_x]
theorem trialAt_n {M : MM} {b n : Nat} {x : Int32} (h : IS M b) (hc : gI M (b + 8) 3 = nI n) (hx : x < 0 ∨ nI n ≤ x) : f_X0_trialAt M b x = some none := by
  unfold f_X0_trialAt
  by_cases h0 : x < 0
  · rw [if_pos h0]
  · rw [if_neg h0, h.w7, oc_x, show ix 3 = 3 from rfl, hc, if_pos (hx.resolve_left h0)]
theorem storyAt_s {M : MM} {b n k : Nat} (h : IS M b) (hc : gI M (b + 8) 4 = nI n) (hn : n ≤ 5) (hk : k < n) : f_X0_storyAt M b (nI k) = some (some (b + (34 + 2 * k))) := by
  unfold f_X0_storyAt
  rw [if_neg (nneg (by omega)), h.w7, oc_x, show ix 4 = 4 from rfl, hc, if_neg (nI_ge hk (by omega)), h.w4, oc_x, show (5 : Int32) = nI 5 from rfl, if_neg (nI_ge (by omega) (by decide)), oc_x, chk_n (by omega) (by decide), ix_n (by omega), h.ey k (by omega), oc_x]
theorem storyAt_n {M : MM} {b n : Nat} {x : Int32} (h : IS M b) (hc : gI M (b + 8) 4 = nI n) (hx : x < 0 ∨ nI n ≤ x) : f_X0_storyAt M b x = some none := by
  unfold f_X0_storyAt
  by_cases h0 : x < 0
  · rw [if_pos h0]
  · rw [if_neg h0, h.w7, oc_x, show ix 4 = 4 from rfl, hc, if_pos (hx.resolve_left h0)]
theorem tellerAt_s {M : MM} {b n k : Nat} (h : IS M b) (hc : gI M (b + 8) 5 = nI n) (hn : n ≤ 3) (hk : k < n) : f_X0_tellerAt M b (nI k) = some (some (b + (44 + k))) := by
  unfold f_X0_tellerAt
  rw [if_neg (nneg (by omega)), h.w7, oc_x, show ix 5 = 5 from rfl, hc, if_neg (nI_ge hk (by omega)), h.w5, oc_x, show (3 : Int32) = nI 3 from rfl, if_neg (nI_ge (by omega) (by decide)), oc_x, chk_n (by omega) (by decide), ix_n (by omega), h.ee k (by omega), oc_x]
theorem tellerAt_n {M : MM} {b n : Nat} {x : Int32} (h : IS M b) (hc : gI M (b + 8) 5 = nI n) (hx : x < 0 ∨ nI n ≤ x) : f_X0_tellerAt M b x = some none := by
  unfold f_X0_tellerAt
  by_cases h0 : x < 0
  · rw [if_pos h0]
  · rw [if_neg h0, h.w7, oc_x, show ix 5 = 5 from rfl, hc, if_pos (hx.resolve_left h0)]
theorem thingAt_s {M : MM} {b n k : Nat} (h : IS M b) (hc : gI M (b + 8) 6 = nI n) (hn : n ≤ 5) (hk : k < n) : f_X0_thingAt M b (nI k) = some (some (b + (47 + k))) := by
  unfold f_X0_thingAt
  rw [if_neg (nneg (by omega)), h.w7, oc_x, show ix 6 = 6 from rfl, hc, if_neg (nI_ge hk (by omega)), h.w6, oc_x, show (5 : Int32) = nI 5 from rfl, if_neg (nI_ge (by omega) (by decide)), oc_x, chk_n (by omega) (by decide), ix_n (by omega), h.ex k (by omega), oc_x]
theorem thingAt_n {M : MM} {b n : Nat} {x : Int32} (h : IS M b) (hc : gI M (b + 8) 6 = nI n) (hx : x < 0 ∨ nI n ≤ x) : f_X0_thingAt M b x = some none := by
  unfold f_X0_thingAt
  by_cases h0 : x < 0
  · rw [if_pos h0]
  · rw [if_neg h0, h.w7, oc_x, show ix 6 = 6 from rfl, hc, if_pos (hx.resolve_left h0)]
theorem has0_s {M : MM} {b n k : Nat} (h : IS M b) (hc : gI M (b + 8) 0 = nI n) (hn : n < 100) (hk : k < n) : f_X0_has M b 0 (nI k) = some 1 := by
  unfold f_X0_has
  rw [if_neg (nneg (by omega)), cnt0 h, ob_s, hc, if_neg (nI_ge hk (by omega))]
theorem has0_n {M : MM} {b n : Nat} {x : Int32} (h : IS M b) (hc : gI M (b + 8) 0 = nI n) (hx : x < 0 ∨ nI n ≤ x) : f_X0_has M b 0 x = some 0 := by
  unfold f_X0_has
  by_cases h0 : x < 0
  · rw [if_pos h0]
  · rw [if_neg h0, cnt0 h, ob_s, hc, if_pos (hx.resolve_left h0)]
theorem has1_s {M : MM} {b n k : Nat} (h : IS M b) (hc : gI M (b + 8) 1 = nI n) (hn : n < 100) (hk : k < n) : f_X0_has M b 1 (nI k) = some 1 := by
  unfold f_X0_has
  rw [if_neg (nneg (by omega)), cnt1 h, ob_s, hc, if_neg (nI_ge hk (by omega))]
theorem has1_n {M : MM} {b n : Nat} {x : Int32} (h : IS M b) (hc : gI M (b + 8) 1 = nI n) (hx : x < 0 ∨ nI n ≤ x) : f_X0_has M b 1 x = some 0 := by
  unfold f_X0_has
  by_cases h0 : x < 0
  · rw [if_pos h0]
  · rw [if_neg h0, cnt1 h, ob_s, hc, if_pos (hx.resolve_left h0)]
theorem has2_s {M : MM} {b n k : Nat} (h : IS M b) (hc : gI M (b + 8) 2 = nI n) (hn : n < 100) (hk : k < n) : f_X0_has M b 2 (nI k) = some 1 := by
  unfold f_X0_has
  rw [if_neg (nneg (by omega)), cnt2 h, ob_s, hc, if_neg (nI_ge hk (by omega))]
theorem has2_n {M : MM} {b n : Nat} {x : Int32} (h : IS M b) (hc : gI M (b + 8) 2 = nI n) (hx : x < 0 ∨ nI n ≤ x) : f_X0_has M b 2 x = some 0 := by
  unfold f_X0_has
  by_cases h0 : x < 0
  · rw [if_pos h0]
  · rw [if_neg h0, cnt2 h, ob_s, hc, if_pos (hx.resolve_left h0)]
theorem has3_s {M : MM} {b n k : Nat} (h : IS M b) (hc : gI M (b + 8) 3 = nI n) (hn : n < 100) (hk : k < n) : f_X0_has M b 3 (nI k) = some 1 := by
  unfold f_X0_has
  rw [if_neg (nneg (by omega)), cnt3 h, ob_s, hc, if_neg (nI_ge hk (by omega))]
theorem has3_n {M : MM} {b n : Nat} {x : Int32} (h : IS M b) (hc : gI M (b + 8) 3 = nI n) (hx : x < 0 ∨ nI n ≤ x) : f_X0_has M b 3 x = some 0 := by
  unfold f_X0_has
  by_cases h0 : x < 0
  · rw [if_pos h0]
  · rw [if_neg h0, cnt3 h, ob_s, hc, if_pos (hx.resolve_left h0)]
theorem has4_s {M : MM} {b n k : Nat} (h : IS M b) (hc : gI M (b + 8) 4 = nI n) (hn : n < 100) (hk : k < n) : f_X0_has M b 4 (nI k) = some 1 := by
  unfold f_X0_has
  rw [if_neg (nneg (by omega)), cnt4 h, ob_s, hc, if_neg (nI_ge hk (by omega))]
theorem has4_n {M : MM} {b n : Nat} {x : Int32} (h : IS M b) (hc : gI M (b + 8) 4 = nI n) (hx : x < 0 ∨ nI n ≤ x) : f_X0_has M b 4 x = some 0 := by
  unfold f_X0_has
  by_cases h0 : x < 0
  · rw [if_pos h0]
  · rw [if_neg h0, cnt4 h, ob_s, hc, if_pos (hx.resolve_left h0)]
theorem has5_s {M : MM} {b n k : Nat} (h : IS M b) (hc : gI M (b + 8) 5 = nI n) (hn : n < 100) (hk : k < n) : f_X0_has M b 5 (nI k) = some 1 := by
  unfold f_X0_has
  rw [if_neg (nneg (by omega)), cnt5 h, ob_s, hc, if_neg (nI_ge hk (by omega))]
theorem has5_n {M : MM} {b n : Nat} {x : Int32} (h : IS M b) (hc : gI M (b + 8) 5 = nI n) (hx : x < 0 ∨ nI n ≤ x) : f_X0_has M b 5 x = some 0 := by
  unfold f_X0_has
  by_cases h0 : x < 0
  · rw [if_pos h0]
  · rw [if_neg h0, cnt5 h, ob_s, hc, if_pos (hx.resolve_left h0)]
theorem has6_s {M : MM} {b n k : Nat} (h : IS M b) (hc : gI M (b + 8) 6 = nI n) (hn : n < 100) (hk : k < n) : f_X0_has M b 6 (nI k) = some 1 := by
  unfold f_X0_has
  rw [if_neg (nneg (by omega)), cnt6 h, ob_s, hc, if_neg (nI_ge hk (by omega))]
theorem has6_n {M : MM} {b n : Nat} {x : Int32} (h : IS M b) (hc : gI M (b + 8) 6 = nI n) (hx : x < 0 ∨ nI n ≤ x) : f_X0_has M b 6 x = some 0 := by
  unfold f_X0_has
  by_cases h0 : x < 0
  · rw [if_pos h0]
  · rw [if_neg h0, cnt6 h, ob_s, hc, if_pos (hx.resolve_left h0)]
theorem has7_s {M : MM} {b n k : Nat} (h : IS M b) (hc : gI M (b + 8) 7 = nI n) (hn : n < 100) (hk : k < n) : f_X0_has M b 7 (nI k) = some 1 := by
  unfold f_X0_has
  rw [if_neg (nneg (by omega)), cnt7 h, ob_s, hc, if_neg (nI_ge hk (by omega))]
theorem has7_n {M : MM} {b n : Nat} {x : Int32} (h : IS M b) (hc : gI M (b + 8) 7 = nI n) (hx : x < 0 ∨ nI n ≤ x) : f_X0_has M b 7 x = some 0 := by
  unfold f_X0_has
  by_cases h0 : x < 0
  · rw [if_pos h0]
  · rw [if_neg h0, cnt7 h, ob_s, hc, if_pos (hx.resolve_left h0)]
theorem has8_s {M : MM} {b n k : Nat} (h : IS M b) (hc : gI M (b + 8) 8 = nI n) (hn : n < 100) (hk : k < n) : f_X0_has M b 8 (nI k) = some 1 := by
  unfold f_X0_has
  rw [if_neg (nneg (by omega)), cnt8 h, ob_s, hc, if_neg (nI_ge hk (by omega))]
theorem has8_n {M : MM} {b n : Nat} {x : Int32} (h : IS M b) (hc : gI M (b + 8) 8 = nI n) (hx : x < 0 ∨ nI n ≤ x) : f_X0_has M b 8 x = some 0 := by
  unfold f_X0_has
  by_cases h0 : x < 0
  · rw [if_pos h0]
  · rw [if_neg h0, cnt8 h, ob_s, hc, if_pos (hx.resolve_left h0)]
theorem has9_s {M : MM} {b n k : Nat} (h : IS M b) (hc : gI M (b + 8) 9 = nI n) (hn : n < 100) (hk : k < n) : f_X0_has M b 9 (nI k) = some 1 := by
  unfold f_X0_has
  rw [if_neg (nneg (by omega)), cnt9 h, ob_s, hc, if_neg (nI_ge hk (by omega))]
theorem has9_n {M : MM} {b n : Nat} {x : Int32} (h : IS M b) (hc : gI M (b + 8) 9 = nI n) (hx : x < 0 ∨ nI n ≤ x) : f_X0_has M b 9 x = some 0 := by
  unfold f_X0_has
  by_cases h0 : x < 0
  · rw [if_pos h0]
  · rw [if_neg h0, cnt9 h, ob_s, hc, if_pos (hx.resolve_left h0)]
theorem slope_s {M : MM} {a c j : Nat} (h : gR M a 2 = some c) (hj : j < 6) : f_X3_slopeAt M a (nI j) = some (gI M c j) := by
  unfold f_X3_slopeAt
  rw [h, oc_x, entry_s hj (by decide), ob_s]
theorem bare_eq {M : MM} {b : Nat} (h : IS M b) : f_X0_isBare M b = some (if gI M (b + 8) 2 = 0 then 1 else 0) := by
  unfold f_X0_isBare
  rw [cnt2 h, ob_s]
  split <;> rfl
