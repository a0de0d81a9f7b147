/-! TREES -/
section TREES
variable {C R : MM} {ic j : Nat} {D : DT} {n : Nat → Nat}
theorem treesAfter_r (hj : RI R j D) {i : Nat} (hi : i < 5) (hv : VY D i) (t y : Int32) : f_X13_treesAfter R 118 (nI i) t y = some (trS (D 20 i) (D 21 i) (D 22 i) (D 0 28) (D 0 29) t y) := by
  obtain ⟨⟨c, c3, hc⟩, he⟩ := hv
  unfold f_X13_treesAfter trS
  simp only [hj.j, oc_x, hj.s.k36, hj.s.k37, hj.s.k38, chk_m hi (show 5 < 2147483648 by decide), ix_n (show i < 2147483648 by omega), hj.d0, hj.d 20 i (by decide), hj.d 21 i (by decide), hj.d 22 i (by decide), hc, ite_le]
  rcases k3 c3 with rfl | rfl | rfl
  · simp only [kd00, kd01, kd02, if_true, if_false, apply_ite (some : Int32 → Option Int32)]
  · simp only [kd10, kd11, kd12, if_true, if_false, Int32.add_zero, apply_ite (some : Int32 → Option Int32)]
  · have hq := he (by rw [hc]; rfl)
    have hq0 : ¬ D 22 i = 0 := fun z => hq (by rw [z]; exact Int32.le_refl _)
    simp only [kd20, kd21, kd22, if_true, if_false, chk_f hq0]
    by_cases hm : y - y / D 22 i * D 22 i = 0
    · simp only [if_pos hm, apply_ite (some : Int32 → Option Int32)]
    · simp only [if_neg hm, Int32.add_zero, apply_ite (some : Int32 → Option Int32)]
theorem treesIn_l (hj : RI R j D) {i : Nat} (hi : i < 5) (hv : VY D i) {y : Nat} (hy : y < 200) : ∀ (d q f : Nat), q + d = y → d < f → f_X13_treesIn_L11 f R 118 (nI i) (nI y) (tree D i q) (nI (q + 1)) = some (tree D i y) := by
  intro d
  induction d with
  | zero =>
    intro q f hq hf
    obtain ⟨f, rfl⟩ := suc hf
    have : q = y := by omega
    subst this
    rw [f_X13_treesIn_L11, if_pos (nI_lt (by omega) (by omega))]
  | succ d ih =>
    intro q f hq hf
    obtain ⟨f, rfl⟩ := suc hf
    rw [f_X13_treesIn_L11, if_neg (nI_nlt (by omega) (by omega)), treesAfter_r hj hi hv, ob_s, nI_1 (q + 1)]
    exact ih (q + 1) f (by omega) (by omega)
theorem treesIn_r (hj : RI R j D) {i : Nat} (hi : i < 5) (hv : VY D i) {y : Nat} (hy : y < 200) : f_X13_treesIn R 118 (nI i) (nI y) = some (tree D i y) := by
  unfold f_X13_treesIn
  rw [hj.j, oc_x, hj.d0]
  exact treesIn_l hj hi hv hy y 0 FU (by omega) (fu (by omega))
theorem trS_b (c m e g p t y : Int32) : ∃ q, q ≤ 9999 ∧ trS c m e g p t y = nI q := by
  obtain ⟨v, hv⟩ : ∃ v, trS c m e g p t y = (if v < 0 then 0 else if 9999 < v then 9999 else v) := ⟨_, rfl⟩
  rw [hv]
  by_cases h : v < 0
  · rw [if_pos h]; exact ⟨0, by omega, rfl⟩
  · rw [if_neg h]
    by_cases h2 : 9999 < v
    · rw [if_pos h2]; exact ⟨9999, by omega, rfl⟩
    · rw [if_neg h2]
      exact nI_of2 (M := 9999) (by decide) h (i32_le h2)
theorem tree_b {i : Nat} (h : ∃ t, t ≤ 999 ∧ D 0 27 = nI t) (y : Nat) : ∃ q, q ≤ 9999 ∧ tree D i y = nI q := by
  cases y with
  | zero => obtain ⟨t, h1, h2⟩ := h; exact ⟨t, by omega, h2⟩
  | succ y => exact trS_b _ _ _ _ _ _ _
theorem treesIn_c (hc : CI C ic D n) (hT : TR C ic D n) (hl : ¬ D 0 27 = -1) {i y : Nat} (hi : i < n 4) (hy : y < 100) : f_X6_treesIn C (ic + (34 + 2 * i)) (nI y) = some (tree D i y) := by
  have n5 := hc.nb.2.2.2.2.1
  unfold f_X6_treesIn
  rw [hc.is.ct i (by omega), oc_x, entry_s hy (by decide), ob_s, hT hl i hi y hy]
theorem abs_cmp {a b w : Nat} (ha : a ≤ 9999) (hb : b ≤ 9999) (hw : w ≤ 999) : ((if 0 ≤ nI a - nI b then nI a - nI b else 0 - (nI a - nI b)) ≤ nI w) ↔ (¬ nI w < nI a - nI b ∧ -(nI a - nI b) ≤ nI w) := by
  by_cases h : b ≤ a
  · rw [pk_sub h, if_pos (nI_pos' (by omega)), nI_leI (by omega) (by omega), nI_ltI (by omega) (by omega)]
    have hneg : -(nI (a - b)) ≤ nI w := by
      by_cases h0 : a - b = 0
      · rw [h0]
        exact Int32.le_trans (show -(nI 0) ≤ 0 by decide) (nI_pos' (by omega))
      · have := pk_sneg (a := 0) (b := a - b) (by omega) (by omega)
        rw [show (nI 0 : Int32) = 0 from rfl, Int32.zero_sub] at this
        exact Int32.le_trans (Int32.le_of_lt this) (nI_pos' (by omega))
    constructor
    · intro q; exact ⟨by omega, hneg⟩
    · intro q; omega
  · have hlt := pk_sneg (a := a) (b := b) (by omega) (by omega)
    rw [if_neg (Int32.not_le.mpr hlt), Int32.zero_sub, Int32.neg_sub, pk_sub (show a ≤ b by omega)]
    constructor
    · intro q
      exact ⟨Int32.not_lt.mpr (Int32.le_trans (Int32.le_of_lt hlt) (nI_pos' (by omega))), q⟩
    · intro q; exact q.2
theorem agree_l (hS8 : gR C 8 0 = some 9 ∧ gR C 8 1 = some 10 ∧ gR C 8 2 = some 11) (hR : RT R) (hV : SR C R) (hc : CI C ic D n) (hj : RI R j D) (hT : TR C ic D n) (hl : ¬ D 0 27 = -1) (hl2 : ∃ t, t ≤ 999 ∧ D 0 27 = nI t) {i : Nat} (hi : i < n 4) : ∃ s, s ≤ 12 ∧ ∀ (d k f1 f2 : Nat), k + d = s → d < f1 → d < f2 →
    ∃ v, (v = 0 ∨ v = 1) ∧ f_X4_agrees_L2 f1 C 8 (ic + (34 + 2 * i)) (nI k) = some v ∧ f_X13_isFit_L2 f2 R 118 (nI i) (nI k) = some v := by
  obtain ⟨s, s12, g1, g2, hk⟩ := hV
  have n5 := hc.nb.2.2.2.2.1
  have hv := hc.vd.2.2.2.2 i hi
  refine ⟨s, s12, ?_⟩
  intro d
  induction d with
  | zero =>
    intro k f1 f2 hk2 h1 h2
    obtain ⟨f1, rfl⟩ := suc h1
    obtain ⟨f2, rfl⟩ := suc h2
    rw [f_X4_agrees_L2, g1, if_pos (nI_le (by omega) (by omega)), f_X13_isFit_L2, g2, if_pos (nI_le (by omega) (by omega))]
    exact ⟨1, Or.inr rfl, rfl, rfl⟩
  | succ d ih =>
    intro k f1 f2 hk2 h1 h2
    obtain ⟨f1, rfl⟩ := suc h1
    obtain ⟨f2, rfl⟩ := suc h2
    obtain ⟨⟨y, y1, y2, y3⟩, ⟨t, t1, t2, t3⟩, ⟨w, w1, w2, w3⟩⟩ := hk k (by omega)
    obtain ⟨q, q1, q2⟩ := tree_b (i := i) hl2 y
    rw [f_X4_agrees_L2, g1, if_neg (nI_ge (show k < s by omega) (by omega)), hS8.1, oc_x, entry_s (show k < 12 by omega) (by decide), ob_s, y2, treesIn_c hc hT hl hi y1, ob_s, hS8.2.1, oc_x, entry_s (show k < 12 by omega) (by decide), ob_s, t2, hS8.2.2, oc_x, entry_s (show k < 12 by omega) (by decide), ob_s, w2, q2, nI_1 k]
    rw [f_X13_isFit_L2, g2, if_neg (nI_ge (show k < s by omega) (by omega)), hR.2.1, oc_x, chk_n (show k < 12 by omega) (by decide), ix_n (show k < 2147483648 by omega), y3, treesIn_r hj (by omega) hv (by omega), ob_s, hR.2.2.1, oc_x, chk_m (show k < 12 by omega) (by decide), t3, hR.2.2.2, oc_x, chk_m (show k < 12 by omega) (by decide), w3, oc_x, chk_m (show k < 12 by omega) (by decide), w3, q2, nI_1 k]
    have hq := abs_cmp q1 t1 w1
    by_cases ha : (if 0 ≤ nI q - nI t then nI q - nI t else 0 - (nI q - nI t)) ≤ nI w
    · rw [if_pos ha, if_neg (hq.mp ha).1, if_pos (hq.mp ha).2]
      exact ih (k + 1) f1 f2 (by omega) (by omega) (by omega)
    · rw [if_neg ha]
      refine ⟨0, Or.inl rfl, rfl, ?_⟩
      by_cases hb : nI w < nI q - nI t
      · rw [if_pos hb]
      · rw [if_neg hb, if_neg (fun z => ha (hq.mpr ⟨hb, z⟩))]
/-- whether a story fits -/
def fitV (C : MM) (ic i : Nat) : Int32 := (f_X4_agrees C 8 (ic + (34 + 2 * i))).getD 0
theorem agree_p (hS8 : gR C 8 0 = some 9 ∧ gR C 8 1 = some 10 ∧ gR C 8 2 = some 11) (hR : RT R) (hV : SR C R) (hc : CI C ic D n) (hj : RI R j D) (hT : TR C ic D n) (hl : ¬ D 0 27 = -1) (hl2 : ∃ t, t ≤ 999 ∧ D 0 27 = nI t) {i : Nat} (hi : i < n 4) : f_X4_agrees C 8 (ic + (34 + 2 * i)) = some (fitV C ic i) ∧ f_X13_isFit R 118 (nI i) = some (fitV C ic i) := by
  obtain ⟨s, s12, h⟩ := agree_l hS8 hR hV hc hj hT hl hl2 hi
  obtain ⟨v, -, h1, h2⟩ := h s 0 FU FU (by omega) (fu (by omega)) (fu (by omega))
  have h1 : f_X4_agrees C 8 (ic + (34 + 2 * i)) = some v := h1
  have e : fitV C ic i = v := by unfold fitV; rw [h1]; rfl
  rw [e]
  exact ⟨h1, h2⟩
theorem bit_old : ∀ k, k < 5 → ∀ B, B < 2 ^ k → ∀ i, i < k → (((nI (B + 2 ^ k)) >>> (nI i &&& 31)) &&& 1 : Int32) = ((nI B) >>> (nI i &&& 31)) &&& 1 := by
  have h : ∀ k, k < 5 → ∀ B, B < 16 → B < 2 ^ k → ∀ i, i < 5 → i < k → (((nI (B + 2 ^ k)) >>> (nI i &&& 31)) &&& 1 : Int32) = ((nI B) >>> (nI i &&& 31)) &&& 1 := by decide +kernel
  intro k hk B hB i hi
  exact h k hk B (Nat.lt_of_lt_of_le hB (Nat.pow_le_pow_right (by decide) (show k ≤ 4 by omega))) hB i (by omega) hi
theorem bit_new : ∀ k, k < 5 → ∀ B, B < 2 ^ k → (((nI (B + 2 ^ k)) >>> (nI k &&& 31)) &&& 1 : Int32) = 1 ∧ (((nI B) >>> (nI k &&& 31)) &&& 1 : Int32) = 0 := by
  have h : ∀ k, k < 5 → ∀ B, B < 16 → B < 2 ^ k → (((nI (B + 2 ^ k)) >>> (nI k &&& 31)) &&& 1 : Int32) = 1 ∧ (((nI B) >>> (nI k &&& 31)) &&& 1 : Int32) = 0 := by decide +kernel
  intro k hk B hB
  exact h k hk B (Nat.lt_of_lt_of_le hB (Nat.pow_le_pow_right (by decide) (show k ≤ 4 by omega))) hB
theorem bit_01 : ∀ B, B < 32 → ∀ i, i < 5 → (((nI B) >>> (nI i &&& 31)) &&& 1 : Int32) = 0 ∨ (((nI B) >>> (nI i &&& 31)) &&& 1 : Int32) = 1 := by decide +kernel
def BF (C : MM) (ic B k : Nat) : Prop := B < 2 ^ k ∧ (∀ i, i < k → (fitV C ic i = 0 → (((nI B) >>> (nI i &&& 31)) &&& 1 : Int32) = 0) ∧ (fitV C ic i ≠ 0 → (((nI B) >>> (nI i &&& 31)) &&& 1 : Int32) = 1)) ∧ (B = 0 → ∀ i, i < k → fitV C ic i = 0)
theorem BF.no {B k : Nat} (h : BF C ic B k) (hk : k < 5) (hz : fitV C ic k = 0) : BF C ic B (k + 1) := by
  obtain ⟨h1, h2, h3⟩ := h
  refine ⟨Nat.lt_of_lt_of_le h1 (Nat.pow_le_pow_right (by decide) (by omega)), fun i hi => ?_, fun h0 i hi => ?_⟩
  · by_cases e : i = k
    · subst e
      exact ⟨fun _ => (bit_new i hk B h1).2, fun q => absurd hz q⟩
    · exact h2 i (by omega)
  · by_cases e : i = k
    · subst e; exact hz
    · exact h3 h0 i (by omega)
theorem BF.yes {B k : Nat} (h : BF C ic B k) (hk : k < 5) (hz : fitV C ic k ≠ 0) : BF C ic (B + 2 ^ k) (k + 1) := by
  obtain ⟨h1, h2, h3⟩ := h
  have hp : 0 < 2 ^ k := Nat.two_pow_pos k
  refine ⟨by rw [Nat.pow_succ]; omega, fun i hi => ?_, fun h0 => by omega⟩
  by_cases e : i = k
  · subst e
    exact ⟨fun q => absurd q hz, fun _ => (bit_new i hk B h1).1⟩
  · rw [bit_old k hk B h1 i (by omega)]
    exact h2 i (by omega)
theorem fits_l (hf : ∀ i, i < n 4 → f_X4_agrees C 8 (ic + (34 + 2 * i)) = some (fitV C ic i) ∧ f_X13_isFit R 118 (nI i) = some (fitV C ic i)) (hc : CI C ic D n) (hj : RI R j D) : ∀ (d k B f1 f2 : Nat), k + d = n 4 → BF C ic B k → d < f1 → d < f2 →
    ∃ V, BF C ic V (n 4) ∧ f_X4_agreeing_L4 f1 C 8 ic (nI B) (nI k) = some (nI V) ∧ f_X13_fitting_L4 f2 R 118 (nI B) (nI k) = some (nI V) := by
  have n5 := hc.nb.2.2.2.2.1
  intro d
  induction d with
  | zero =>
    intro k B f1 f2 hk hB g1 g2
    obtain ⟨f1, rfl⟩ := suc g1
    obtain ⟨f2, rfl⟩ := suc g2
    have e : k = n 4 := by omega
    rw [f_X4_agreeing_L4, hc.c4, ob_s, if_pos (nI_le (by omega) (by omega)), f_X13_fitting_L4, hj.j, oc_x, hj.d0, hc.dn.2.2.2.2.1, if_pos (nI_le (by omega) (by omega))]
    exact ⟨B, by rw [← e]; exact hB, rfl, rfl⟩
  | succ d ih =>
    intro k B f1 f2 hk hB g1 g2
    obtain ⟨f1, rfl⟩ := suc g1
    obtain ⟨f2, rfl⟩ := suc g2
    have hk2 : k < n 4 := by omega
    obtain ⟨a1, a2⟩ := hf k hk2
    rw [f_X4_agreeing_L4, hc.c4, ob_s, if_neg (nI_ge hk2 (by omega)), hc.y hk2, ob_s, oc_x, a1, ob_s, nI_1 k, f_X13_fitting_L4, hj.j, oc_x, hj.d0, hc.dn.2.2.2.2.1, if_neg (nI_ge hk2 (by omega)), a2, ob_s, nI_1 k, Int32.or_zero]
    by_cases hz : fitV C ic k = 0
    · rw [if_pos hz, if_pos hz]
      exact ih (k + 1) B f1 f2 (by omega) (hB.no (by omega) hz) (by omega) (by omega)
    · rw [if_neg hz, if_neg hz, bit_or k (by omega) B hB.1]
      exact ih (k + 1) (B + 2 ^ k) f1 f2 (by omega) (hB.yes (by omega) hz) (by omega) (by omega)
theorem fits_p (hf : ∀ i, i < n 4 → f_X4_agrees C 8 (ic + (34 + 2 * i)) = some (fitV C ic i) ∧ f_X13_isFit R 118 (nI i) = some (fitV C ic i)) (hc : CI C ic D n) (hj : RI R j D) : ∃ V, BF C ic V (n 4) ∧ f_X4_agreeing C 8 ic = some (nI V) ∧ f_X13_fitting R 118 = some (nI V) := by
  have n5 := hc.nb.2.2.2.2.1
  exact fits_l hf hc hj (n 4) 0 0 FU FU (by omega) ⟨by decide, fun i hi => absurd hi (by omega), fun _ i hi => absurd hi (by omega)⟩ (fu (by omega)) (fu (by omega))
theorem weight_l (hf : ∀ i, i < n 4 → f_X4_agrees C 8 (ic + (34 + 2 * i)) = some (fitV C ic i) ∧ f_X13_isFit R 118 (nI i) = some (fitV C ic i)) (hc : CI C ic D n) (hj : RI R j D) {V : Nat} (hV : BF C ic V (n 4)) : ∀ (d k : Nat) (acc : Int32) (f1 f2 : Nat), k + d = n 4 → d < f1 → d < f2 →
    ∃ v, f_X0_weightOf_L4 f1 C ic (nI V) acc (nI k) = some v ∧ f_X13_weight_L40 f2 R 118 acc (nI k) = some (v, pI (pI R 118 1 0) 118 2 (-1)) := by
  have n5 := hc.nb.2.2.2.2.1
  intro d
  induction d with
  | zero =>
    intro k acc f1 f2 hk g1 g2
    obtain ⟨f1, rfl⟩ := suc g1
    obtain ⟨f2, rfl⟩ := suc g2
    rw [f_X0_weightOf_L4, hc.c4, ob_s, if_pos (nI_le (by omega) (by omega)), f_X13_weight_L40, hj.j, oc_x, hj.d0, hc.dn.2.2.2.2.1, if_pos (nI_le (by omega) (by omega)), f_X13_done, ob_s]
    exact ⟨acc, rfl, rfl⟩
  | succ d ih =>
    intro k acc f1 f2 hk g1 g2
    obtain ⟨f1, rfl⟩ := suc g1
    obtain ⟨f2, rfl⟩ := suc g2
    have hk2 : k < n 4 := by omega
    obtain ⟨a1, a2⟩ := hf k hk2
    have ey := hc.ce.2.2.2.2.1 k hk2
    rw [f_X0_weightOf_L4, hc.c4, ob_s, if_neg (nI_ge hk2 (by omega)), hc.y hk2, ob_s, oc_x, ey.1, nI_1 k, f_X13_weight_L40, hj.j, oc_x, hj.d0, hc.dn.2.2.2.2.1, if_neg (nI_ge hk2 (by omega)), a2, ob_s, oc_x, hj.s.k35, oc_x, chk_n (show k < 5 by omega) (by decide), ix_n (show k < 2147483648 by omega), hj.d 19 k (by decide), nI_1 k, Int32.add_zero]
    by_cases hz : fitV C ic k = 0
    · rw [if_neg (by rw [(hV.2.1 k hk2).1 hz]; decide), if_pos hz]
      exact ih (k + 1) acc f1 f2 (by omega) (by omega) (by omega)
    · rw [if_pos ((hV.2.1 k hk2).2 hz), if_neg hz]
      exact ih (k + 1) _ f1 f2 (by omega) (by omega) (by omega)
/-- the least and the greatest of a year -/
theorem spread_l (hc : CI C ic D n) (hj : RI R j D) (hT : TR C ic D n) (hl : ¬ D 0 27 = -1) {V y : Nat} (hV : BF C ic V (n 4)) (hy : y < 100) (K9 : MM → Nat → Int32 → Int32 → Int32 → Int32 → Option (Int32 × MM)) (best wide : Int32) : ∀ (d k : Nat) (lo hi : Int32) (f1 f2 : Nat), k + d = n 4 → d < f1 → d < f2 →
    ∃ lo' hi', f_X0_spread_L10 f1 C ic (nI V) (nI y) lo hi (nI k) = some (hi' - lo') ∧ f_X13_dig_L73 K9 f2 R 118 (nI V) best wide (nI y) lo hi (nI k) = (if wide < hi' - lo' then K9 R 118 (nI V) (nI y) (hi' - lo') (nI y + 1) else K9 R 118 (nI V) best wide (nI y + 1)) ∧
      (y = 0 → (∃ t, t ≤ 999 ∧ D 0 27 = nI t) → ((lo = 9999 ∧ hi = 0) ∨ (lo = D 0 27 ∧ hi = D 0 27)) → ((lo' = 9999 ∧ hi' = 0 ∧ lo = 9999 ∧ hi = 0 ∧ ∀ i, k ≤ i → i < n 4 → fitV C ic i = 0) ∨ (lo' = D 0 27 ∧ hi' = D 0 27))) := by
  have n5 := hc.nb.2.2.2.2.1
  intro d
  induction d with
  | zero =>
    intro k lo hi f1 f2 hk g1 g2
    obtain ⟨f1, rfl⟩ := suc g1
    obtain ⟨f2, rfl⟩ := suc g2
    rw [f_X0_spread_L10, hc.c4, ob_s, if_pos (nI_le (by omega) (by omega)), f_X13_dig_L73, hj.j, oc_x, hj.d0, hc.dn.2.2.2.2.1, if_pos (nI_le (by omega) (by omega))]
    refine ⟨lo, hi, rfl, rfl, fun _ _ h => ?_⟩
    rcases h with ⟨h1, h2⟩ | h
    · exact Or.inl ⟨h1, h2, h1, h2, fun i hi1 hi2 => by omega⟩
    · exact Or.inr h
  | succ d ih =>
    intro k lo hi f1 f2 hk g1 g2
    obtain ⟨f1, rfl⟩ := suc g1
    obtain ⟨f2, rfl⟩ := suc g2
    have hk2 : k < n 4 := by omega
    have hvy := hc.vd.2.2.2.2 k hk2
    rw [f_X0_spread_L10, hc.c4, ob_s, if_neg (nI_ge hk2 (by omega)), hc.y hk2, ob_s, oc_x, treesIn_c hc hT hl hk2 hy, ob_s, ob_s, nI_1 k, f_X13_dig_L73, hj.j, oc_x, hj.d0, hc.dn.2.2.2.2.1, if_neg (nI_ge hk2 (by omega)), treesIn_r hj (by omega) hvy (by omega), ob_s, nI_1 k]
    by_cases hz : fitV C ic k = 0
    · rw [(hV.2.1 k hk2).1 hz, if_neg (show ¬ (0 : Int32) = 1 by decide), if_pos rfl]
      obtain ⟨lo', hi', e1, e2, e3⟩ := ih (k + 1) lo hi f1 f2 (by omega) (by omega) (by omega)
      refine ⟨lo', hi', e1, e2, fun q1 q2 q3 => ?_⟩
      rcases e3 q1 q2 q3 with ⟨h1, h2, h3, h4, h5⟩ | h
      · refine Or.inl ⟨h1, h2, h3, h4, fun i hi1 hi2 => ?_⟩
        by_cases e : i = k
        · subst e; exact hz
        · exact h5 i (by omega) hi2
      · exact Or.inr h
    · rw [(hV.2.1 k hk2).2 hz, if_pos rfl, if_neg (show ¬ (1 : Int32) = 0 by decide)]
      obtain ⟨a, ea, eA⟩ := mn_ lo (tree D k y)
      obtain ⟨b, eb, eB⟩ := mx_ hi (tree D k y)
      rw [ea, eb]
      have e1 : ∀ x : Int32, (if tree D k y ≤ hi then f_X13_dig_L73 K9 f2 R 118 (nI V) best wide (nI y) x hi (nI (k + 1)) else f_X13_dig_L73 K9 f2 R 118 (nI V) best wide (nI y) x (tree D k y) (nI (k + 1))) = f_X13_dig_L73 K9 f2 R 118 (nI V) best wide (nI y) x b (nI (k + 1)) := fun x => eB (fun z => f_X13_dig_L73 K9 f2 R 118 (nI V) best wide (nI y) x z (nI (k + 1)))
      rw [e1, e1, eA (fun z => f_X13_dig_L73 K9 f2 R 118 (nI V) best wide (nI y) z b (nI (k + 1)))]
      obtain ⟨lo', hi', h1, h2, h3⟩ := ih (k + 1) a b f1 f2 (by omega) (by omega) (by omega)
      refine ⟨lo', hi', h1, h2, fun q1 q2 q3 => Or.inr ?_⟩
      have hab : a = D 0 27 ∧ b = D 0 27 := by
        subst q1
        obtain ⟨t, t1, t2⟩ := q2
        have et : tree D k 0 = D 0 27 := rfl
        rw [et] at ea eb
        rcases q3 with ⟨r1, r2⟩ | ⟨r1, r2⟩
        · refine ⟨?_, ?_⟩
          · rw [← ea, r1, t2, if_pos (show nI t < (9999 : Int32) from nI_lt (b := 9999) (by omega) (by decide))]
          · rw [← eb, r2, t2]
            by_cases h0 : t = 0
            · subst h0; rfl
            · exact if_pos (nI_lt (a := 0) (by omega) (by omega))
        · exact ⟨by rw [← ea, r1]; split <;> rfl, by rw [← eb, r2]; split <;> rfl⟩
      rcases h3 q1 q2 (Or.inr hab) with ⟨r1, r2, r3, r4, -⟩ | h
      · -- the two would be the same number
        exfalso
        obtain ⟨t, t1, t2⟩ := q2
        have := hab.1.symm.trans r3
        rw [t2] at this
        have := (nI_eq (a := t) (b := 9999) (by omega) (by decide)).mp this
        omega
      · exact h
theorem dig_l (hc : CI C ic D n) (hj : RI R j D) (hT : TR C ic D n) (hl : ¬ D 0 27 = -1) {V : Nat} (hV : BF C ic V (n 4)) : ∀ (d y : Nat) (best wide : Int32) (f1 f2 : Nat), y + d = 100 → d < f1 → d < f2 →
    ∃ v, f_X0_yearOfDispute_L7 f1 C ic (nI V) best wide (nI y) = some v ∧ f_X13_dig_L55 f2 R 118 (nI V) best wide (nI y) = some (v, pI (pI R 118 1 0) 118 2 (-1)) := by
  have n5 := hc.nb.2.2.2.2.1
  intro d
  induction d with
  | zero =>
    intro y best wide f1 f2 hk g1 g2
    obtain ⟨f1, rfl⟩ := suc g1
    obtain ⟨f2, rfl⟩ := suc g2
    have hy : (100 : Int32) ≤ nI y := nI_le (a := 100) (by omega) (by omega)
    rw [f_X0_yearOfDispute_L7, if_pos hy, f_X13_dig_L55, if_pos hy, f_X13_done, ob_s]
    exact ⟨best, rfl, rfl⟩
  | succ d ih =>
    intro y best wide f1 f2 hk g1 g2
    obtain ⟨f1, rfl⟩ := suc g1
    obtain ⟨f2, rfl⟩ := suc g2
    have hy : ¬ (100 : Int32) ≤ nI y := nI_ge (b := 100) (by omega) (by decide)
    obtain ⟨lo, hi, e1, e2, -⟩ := spread_l hc hj hT hl (y := y) hV (by omega) (fun M y9_0 y9_1 y9_2 y9_3 y9_4 => f_X13_dig_L55 f2 M y9_0 y9_1 y9_2 y9_3 y9_4) best wide (n 4) 0 9999 0 FU FU (by omega) (fu (by omega)) (fu (by omega))
    have e1 : f_X0_spread C ic (nI V) (nI y) = some (hi - lo) := e1
    rw [f_X0_yearOfDispute_L7, if_neg hy, e1, ob_s, nI_1 y, f_X13_dig_L55, if_neg hy]
    rw [show f_X13_dig_L73 (fun M y9_0 y9_1 y9_2 y9_3 y9_4 => f_X13_dig_L55 f2 M y9_0 y9_1 y9_2 y9_3 y9_4) FU R 118 (nI V) best wide (nI y) 9999 0 0 = _ from e2, nI_1 y]
    by_cases hw : wide < hi - lo
    · rw [if_pos hw, if_neg (Int32.not_le.mpr hw)]
      exact ih (y + 1) _ _ f1 f2 (by omega) (by omega) (by omega)
    · rw [if_neg hw, if_pos (i32_le hw)]
      exact ih (y + 1) _ _ f1 f2 (by omega) (by omega) (by omega)
theorem dig_p (hc : CI C ic D n) (hj : RI R j D) (hT : TR C ic D n) (hl : ¬ D 0 27 = -1) (hl2 : ∃ t, t ≤ 999 ∧ D 0 27 = nI t) {V : Nat} (hV : BF C ic V (n 4)) (h0 : V ≠ 0) (hne : ∃ i, i < n 4 ∧ fitV C ic i ≠ 0) : ∃ v, f_X0_yearOfDispute C ic (nI V) = some v ∧ f_X13_dig_L55 FU R 118 (nI V) 0 (-1) 0 = some (v, pI (pI R 118 1 0) 118 2 (-1)) := by
  have n5 := hc.nb.2.2.2.2.1
  unfold f_X0_yearOfDispute
  obtain ⟨lo, hi, e1, e2, e3⟩ := spread_l hc hj hT hl (y := 0) hV (by omega) (fun M y9_0 y9_1 y9_2 y9_3 y9_4 => f_X13_dig_L55 2999 M y9_0 y9_1 y9_2 y9_3 y9_4) 0 (-1) (n 4) 0 9999 0 FU FU (by omega) (fu (by omega)) (fu (by omega))
  have e1 : f_X0_spread C ic (nI V) 0 = some (hi - lo) := e1
  have hz : hi - lo = 0 := by
    rcases e3 rfl hl2 (Or.inl ⟨rfl, rfl⟩) with ⟨-, -, -, -, h⟩ | ⟨r1, r2⟩
    · obtain ⟨i, i1, i2⟩ := hne
      exact absurd (h i (by omega) i1) i2
    · rw [r1, r2, Int32.sub_self]
  obtain ⟨v, v1, v2⟩ := dig_l hc hj hT hl hV 99 1 0 0 2999 2999 (by omega) (by omega) (by omega)
  refine ⟨v, ?_, ?_⟩
  · rw [show FU = 2999 + 1 from rfl, f_X0_yearOfDispute_L7, if_neg (by decide), e1, ob_s, hz, if_pos (by decide)]
    exact v1
  · rw [show FU = 2999 + 1 from rfl, f_X13_dig_L55, if_neg (by decide)]
    rw [show f_X13_dig_L73 (fun M y9_0 y9_1 y9_2 y9_3 y9_4 => f_X13_dig_L55 2999 M y9_0 y9_1 y9_2 y9_3 y9_4) FU R 118 (nI V) 0 (-1) 0 9999 0 0 = _ from e2, hz, if_pos (by decide)]
    exact v2
end TREES
