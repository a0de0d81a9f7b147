/-! THE TOKENS: both readers, one step behind the other -/
theorem gI_L (M : MM) (a k b j : Nat) (v : Int64) : gI (pL M a k v) b j = gI M b j := rfl
theorem gL_I (M : MM) (a k b j : Nat) (v : Int32) : gL (pI M a k v) b j = gL M b j := rfl
def M00 : MM := (fun _ _ => 0, fun _ _ => 0, fun _ _ => none)
def tyF (b : Int32) : Int32 := (f_X7_typeOf M00 b).getD 0
theorem typeOf_c (M : MM) (b : Int32) : f_X7_typeOf M b = some (tyF b) := by
  unfold tyF f_X7_typeOf
  repeat' split
  all_goals rfl
def letS (u : Int32) : Int32 := if u < 97 then 0 else if 122 < u then 0 else 1
def digS (u : Int32) : Int32 := if u < 48 then 0 else if 57 < u then 0 else 1
theorem isLetter_r (M : MM) (u : Int32) : f_X13_isLetter M u = some (letS u) := by
  unfold f_X13_isLetter letS
  split
  · rfl
  · split <;> rfl
theorem isDigit_r (M : MM) (u : Int32) : f_X13_isDigit M u = some (digS u) := by
  unfold f_X13_isDigit digS
  split
  · rfl
  · split <;> rfl
/-- a byte, as the class and as the reference see it -/
def DB (b : Int32) : Prop := ¬ (b &&& 255) = -1 ∧ ((b &&& 255) = 32 ↔ b = 32) ∧ (tyF b = 1 ↔ letS (b &&& 255) = 1) ∧ (tyF b = 2 ↔ digS (b &&& 255) = 1) ∧ (letS (b &&& 255) = 0 ∨ letS (b &&& 255) = 1) ∧ (digS (b &&& 255) = 0 ∨ digS (b &&& 255) = 1) ∧
  (tyF b = 3 ↔ ((b &&& 255) = 59 ∨ (b &&& 255) = 44)) ∧ (tyF b = 0 ∨ tyF b = 1 ∨ tyF b = 2 ∨ tyF b = 3) ∧ (tyF b = 3 → (b &&& 255) = b) ∧ (tyF b = 1 → b.toInt64 - 96 = (((b &&& 255) - 97) + 1).toInt64) ∧ (tyF b = 2 → (b &&& 255) = b ∧ 48 ≤ b ∧ b ≤ 57)
theorem DB_all : ∀ k, k < 256 → DB (Int8.ofNat k).toInt32 := by
  unfold DB
  decide +kernel
theorem i8_nat (x : Int8) : ∃ k, k < 256 ∧ x = Int8.ofNat k := by
  refine ⟨x.toBitVec.toNat, x.toBitVec.isLt, ?_⟩
  apply Int8.toBitVec_inj.mp
  simp
theorem DB_of {b : Int32} (h : ∃ z : Int32, b = z.toInt8.toInt32) : DB b := by
  obtain ⟨z, rfl⟩ := h
  obtain ⟨k, hk, e⟩ := i8_nat z.toInt8
  rw [e]
  exact DB_all k hk
/-- what a token's reading writes -/
def TFc (C C' : MM) : Prop := C'.2.2 = C.2.2 ∧ (∀ a k, a ≠ 2 ∨ k < 3 → gI C' a k = gI C a k) ∧ ∀ a k, a ≠ 2 → gL C' a k = gL C a k
def TFr (R R' : MM) : Prop := R'.2.2 = R.2.2 ∧ (∀ a k, a ≠ 118 ∨ k < 8 ∨ 12 < k → gI R' a k = gI R a k) ∧ ∀ a k, a ≠ 118 → gL R' a k = gL R a k
theorem TFc.rf (C : MM) : TFc C C := ⟨rfl, fun _ _ _ => rfl, fun _ _ _ => rfl⟩
theorem TFr.rf (R : MM) : TFr R R := ⟨rfl, fun _ _ _ => rfl, fun _ _ _ => rfl⟩
theorem TFc.tr {A B C : MM} (h1 : TFc A B) (h2 : TFc B C) : TFc A C := ⟨h2.1.trans h1.1, fun a k q => (h2.2.1 a k q).trans (h1.2.1 a k q), fun a k q => (h2.2.2 a k q).trans (h1.2.2 a k q)⟩
theorem TFr.tr {A B C : MM} (h1 : TFr A B) (h2 : TFr B C) : TFr A C := ⟨h2.1.trans h1.1, fun a k q => (h2.2.1 a k q).trans (h1.2.1 a k q), fun a k q => (h2.2.2 a k q).trans (h1.2.2 a k q)⟩
theorem TFc.pI {C C' : MM} (h : TFc C C') {k : Nat} (hk : 3 ≤ k) (v : Int32) : TFc C (pI C' 2 k v) := ⟨h.1, fun a j q => by rw [gI_pIn (by omega)]; exact h.2.1 a j q, h.2.2⟩
theorem TFr.pI {R R' : MM} (h : TFr R R') {k : Nat} (hk : 8 ≤ k ∧ k ≤ 12) (v : Int32) : TFr R (pI R' 118 k v) := ⟨h.1, fun a j q => by rw [gI_pIn (by omega)]; exact h.2.1 a j q, h.2.2⟩
theorem TFc.pL {C C' : MM} (h : TFc C C') (k : Nat) (v : Int64) : TFc C (pL C' 2 k v) := ⟨h.1, h.2.1, fun a j q => by rw [gL_pLn (fun z => absurd z q)]; exact h.2.2 a j q⟩
theorem TFr.pL {R R' : MM} (h : TFr R R') (k : Nat) (v : Int64) : TFr R (pL R' 118 k v) := ⟨h.1, h.2.1, fun a j q => by rw [gL_pLn (fun z => absurd z q)]; exact h.2.2 a j q⟩
/-- the bytes, the same on both sides -/
def BY (C R : MM) (n : Nat) : Prop := n ≤ 900 ∧ gR C 2 0 = some 3 ∧ gR R 118 5 = some 119 ∧ gI C 2 2 = nI n ∧ gI R 118 7 = nI n ∧ ∀ k, k < n → gI C 3 k = gI R 119 k ∧ ∃ z : Int32, gI C 3 k = z.toInt8.toInt32
theorem BY.go {C R C' R' : MM} {n : Nat} (h : BY C R n) (hc : TFc C C') (hr : TFr R R') : BY C' R' n := by
  obtain ⟨h1, h2, h3, h4, h5, h6⟩ := h
  refine ⟨h1, by unfold gR; rw [hc.1]; exact h2, by unfold gR; rw [hr.1]; exact h3, by rw [hc.2.1 2 2 (by omega)]; exact h4, by rw [hr.2.1 118 7 (by omega)]; exact h5, fun k hk => ?_⟩
  rw [hc.2.1 3 k (by omega), hr.2.1 119 k (by omega)]
  exact h6 k hk
theorem byteAt_i {C R : MM} {n p : Nat} (h : BY C R n) (hp : p < n) : f_X13_byteAt R 118 (nI p) = some (gI C 3 p &&& 255) := by
  obtain ⟨h1, h2, h3, h4, h5, h6⟩ := h
  unfold f_X13_byteAt
  rw [h5, if_neg (nI_ge hp (by omega)), h3, oc_x, chk_n (show p < 900 by omega) (by decide), ix_n (by omega), (h6 p hp).1]
theorem byteAt_o {C R : MM} {n p : Nat} (h : BY C R n) (hp : n ≤ p) (hp2 : p < 2 ^ 31) : f_X13_byteAt R 118 (nI p) = some (-1) := by
  obtain ⟨h1, h2, h3, h4, h5, h6⟩ := h
  unfold f_X13_byteAt
  rw [h5, if_pos (nI_le hp hp2)]
theorem let_m1 : letS (-1) = 0 := by decide
theorem dig_m1 : digS (-1) = 0 := by decide
/-- a word, letter by letter -/
theorem word_l (K1 K2 : MM → Nat → Option MM) (n s : Nat) : ∀ (d q m : Nat) (C R : MM) (f1 f2 : Nat), q + d = n → q = s + m → d < f1 → d < f2 → BY C R n → gI C 2 3 = nI q → gI R 118 8 = nI q → gI C 2 4 = 1 → gI C 2 5 = nI s → gI R 118 9 = 0 → (m ≤ 8 → gL C 2 6 = gL R 118 15) →
    ∃ C' R' p', f_X7_advance_L145_1 K1 f1 C 2 32 96 8 = some C' ∧ f_X13_goesOn_L89 K2 f2 R 118 (nI m) = some R' ∧ TFc C C' ∧ TFr R R' ∧ q ≤ p' ∧ p' ≤ n ∧ gI C' 2 3 = nI p' ∧ gI R' 118 8 = nI p' ∧ gI C' 2 5 = nI s ∧ gI R' 118 10 = gI R 118 10 ∧
      ((gI C' 2 4 = 1 ∧ gI R' 118 9 = 2 ∧ gL C' 2 6 = gL R' 118 15) ∨ (gI C' 2 4 = 0 ∧ gI R' 118 9 = 0)) ∧ (q < n → tyF (gI C 3 q) = 1 → q < p') := by
  intro d
  -- how both end, at q
  have stop : ∀ (q m : Nat) (C R : MM), q ≤ n → q = s + m → n ≤ 900 → gI C 2 3 = nI q → gI R 118 8 = nI q → gI C 2 4 = 1 → gI C 2 5 = nI s → gI R 118 9 = 0 → (m ≤ 8 → gL C 2 6 = gL R 118 15) →
      ∃ C' R' p', (if ((gI C 2 3) - (gI C 2 5)) ≤ 8 then (some (pI C 2 4 (gI C 2 4))) else (some (pI C 2 4 0))) = some C' ∧ (if 8 < nI m then (some R) else (some (pI R 118 9 2))) = some R' ∧ TFc C C' ∧ TFr R R' ∧ q ≤ p' ∧ p' ≤ n ∧ gI C' 2 3 = nI p' ∧ gI R' 118 8 = nI p' ∧ gI C' 2 5 = nI s ∧ gI R' 118 10 = gI R 118 10 ∧
        ((gI C' 2 4 = 1 ∧ gI R' 118 9 = 2 ∧ gL C' 2 6 = gL R' 118 15) ∨ (gI C' 2 4 = 0 ∧ gI R' 118 9 = 0)) := by
    intro q m C R hq hm hn h3 h8 h4 h5 h9 hv
    rw [h3, h5, pk_sub (by omega), show q - s = m by omega]
    by_cases h : m ≤ 8
    · rw [if_pos (show nI m ≤ (8 : Int32) from nI_le (b := 8) h (by decide)), if_neg (show ¬ (8 : Int32) < nI m from nI_nlt (a := 8) h (by decide))]
      refine ⟨_, _, q, rfl, rfl, (TFc.rf C).pI (by omega) _, (TFr.rf R).pI (by omega) _, Nat.le_refl q, hq, ?_, ?_, ?_, ?_, Or.inl ⟨?_, gI_pIs _ _ _ _, hv h⟩⟩
      · rw [gI_pIk (by decide)]; exact h3
      · rw [gI_pIk (by decide)]; exact h8
      · rw [gI_pIk (by decide)]; exact h5
      · rw [gI_pIk (by decide)]
      · rw [gI_pIs]; exact h4
    · rw [if_neg (show ¬ nI m ≤ (8 : Int32) from nI_ge (a := 8) (by omega) (by omega)), if_pos (show (8 : Int32) < nI m from nI_lt (a := 8) (by omega) (by omega))]
      refine ⟨_, _, q, rfl, rfl, (TFc.rf C).pI (by omega) _, TFr.rf R, Nat.le_refl q, hq, ?_, h8, ?_, rfl, Or.inr ⟨gI_pIs _ _ _ _, h9⟩⟩
      · rw [gI_pIk (by decide)]; exact h3
      · rw [gI_pIk (by decide)]; exact h5
  induction d with
  | zero =>
    intro q m C R f1 f2 hq hm g1 g2 hB h3 h8 h4 h5 h9 hv
    obtain ⟨f1, rfl⟩ := suc g1
    obtain ⟨f2, rfl⟩ := suc g2
    have hn := hB.1
    rw [f_X7_advance_L145_1, hB.2.2.2.1, h3, if_pos (nI_le (by omega) (by omega)), f_X13_goesOn_L89, h8, byteAt_o hB (by omega) (by omega), ob_s, isLetter_r, ob_s, let_m1, if_pos rfl, ← h3]
    obtain ⟨C', R', p', y1, y2, y3, y4, y5, y6, y7, y8, y9, y10, y11⟩ := stop q m C R (by omega) hm hn h3 h8 h4 h5 h9 hv
    exact ⟨C', R', p', y1, y2, y3, y4, y5, y6, y7, y8, y9, y10, y11, fun z => by omega⟩
  | succ d ih =>
    intro q m C R f1 f2 hq hm g1 g2 hB h3 h8 h4 h5 h9 hv
    obtain ⟨f1, rfl⟩ := suc g1
    obtain ⟨f2, rfl⟩ := suc g2
    have hn := hB.1
    have hqn : q < n := by omega
    have hb := DB_of (hB.2.2.2.2.2 q hqn).2
    rw [f_X7_advance_L145_1, hB.2.2.2.1, h3, if_neg (nI_ge hqn (by omega)), hB.2.1, oc_x, chk_n (show q < 900 by omega) (by decide), ix_n (by omega), typeOf_c, ob_s, h4, oc_x, chk_m (show q < 900 by omega) (by decide)]
    rw [f_X13_goesOn_L89, h8, byteAt_i hB hqn, ob_s, isLetter_r, ob_s, ob_s]
    obtain ⟨d1, d2, d3, d4, d5, d6, d7, d8, d9, d10, d11⟩ := hb
    by_cases ht : tyF (gI C 3 q) = 1
    · rw [if_pos ht, d3.mp ht, if_neg (show ¬ (1 : Int32) = 0 by decide), gI_L, h3, nI_1 q, gI_L, h8, nI_1 q, nI_1 m]
      by_cases h : 8 ≤ m
      · rw [if_pos (show (8 : Int32) ≤ nI m from nI_le (a := 8) h (by omega))]
        have hB2 : BY (pI (pL C 2 6 (((gL C 2 6 * Int32.toInt64 32) + (gI C 3 q).toInt64) - Int32.toInt64 96)) 2 3 (nI (q + 1))) (pI R 118 8 (nI (q + 1))) n := hB.go (((TFc.rf C).pL _ _).pI (by omega) _) ((TFr.rf R).pI (by omega) _)
        obtain ⟨C', R', p', a1, a2, a3, a4, a5, a6, a7⟩ := ih (q + 1) (m + 1) _ _ f1 f2 (by omega) (by omega) (by omega) (by omega) hB2 (gI_pIs _ _ _ _) (gI_pIs _ _ _ _) (by rw [gI_pIk (by decide)]; exact h4) (by rw [gI_pIk (by decide)]; exact h5) (by rw [gI_pIk (by decide)]; exact h9) (fun z => by omega)
        refine ⟨C', R', p', a1, a2, (((TFc.rf C).pL _ _).pI (by omega) _).tr a3, ((TFr.rf R).pI (by omega) _).tr a4, by omega, a6, a7.1, a7.2.1, a7.2.2.1, ?_, a7.2.2.2.2.1, fun _ _ => by omega⟩
        rw [a7.2.2.2.1, gI_pIk (by decide)]
      · rw [if_neg (show ¬ (8 : Int32) ≤ nI m from nI_ge (b := 8) (by omega) (by decide))]
        have hB2 : BY (pI (pL C 2 6 (((gL C 2 6 * Int32.toInt64 32) + (gI C 3 q).toInt64) - Int32.toInt64 96)) 2 3 (nI (q + 1))) (pI (pL R 118 15 ((32 * (gL R 118 15)) + ((((gI C 3 q &&& 255) - 97) + 1).toInt64))) 118 8 (nI (q + 1))) n := hB.go (((TFc.rf C).pL _ _).pI (by omega) _) (((TFr.rf R).pL _ _).pI (by omega) _)
        obtain ⟨C', R', p', a1, a2, a3, a4, a5, a6, a7⟩ := ih (q + 1) (m + 1) _ _ f1 f2 (by omega) (by omega) (by omega) (by omega) hB2 (gI_pIs _ _ _ _) (gI_pIs _ _ _ _) (by rw [gI_pIk (by decide)]; exact h4) (by rw [gI_pIk (by decide)]; exact h5) (by rw [gI_pIk (by decide)]; exact h9) (fun z => by
          rw [gL_I, gL_pLs, gL_I, gL_pLs, hv (by omega), ← d10 ht, Int64.mul_comm 32, Int64.sub_eq_add_neg, Int64.sub_eq_add_neg, Int64.add_assoc]
          rfl)
        refine ⟨C', R', p', a1, a2, (((TFc.rf C).pL _ _).pI (by omega) _).tr a3, (((TFr.rf R).pL _ _).pI (by omega) _).tr a4, by omega, a6, a7.1, a7.2.1, a7.2.2.1, ?_, a7.2.2.2.2.1, fun _ _ => by omega⟩
        rw [a7.2.2.2.1, gI_pIk (by decide)]
        rfl
    · have hl : letS (gI C 3 q &&& 255) = 0 := d5.resolve_right (fun z => ht (d3.mpr z))
      rw [if_neg ht, hl, if_pos rfl]
      obtain ⟨C', R', p', y1, y2, y3, y4, y5, y6, y7, y8, y9, y10, y11⟩ := stop q m C R (by omega) hm hn h3 h8 h4 h5 h9 hv
      rw [h3, h4] at y1
      exact ⟨C', R', p', y1, y2, y3, y4, y5, y6, y7, y8, y9, y10, y11, fun _ z => absurd z ht⟩
/-- a number, digit by digit -/
theorem num_l (K1 K2 : MM → Nat → Option MM) (n s : Nat) : ∀ (d q m v : Nat) (C R : MM) (f1 f2 : Nat), q + d = n → q = s + m → d < f1 → d < f2 → BY C R n → gI C 2 3 = nI q → gI R 118 8 = nI q → gI C 2 4 = 2 → gI C 2 5 = nI s → gI R 118 9 = 0 → (m ≤ 3 → v < 10 ^ m ∧ gL C 2 6 = lN v ∧ gI R 118 12 = nI v) →
    ∃ C' R' p', f_X7_advance_L145_1 K1 f1 C 2 10 48 3 = some C' ∧ f_X13_goesOn_L178 K2 f2 R 118 (nI m) = some R' ∧ TFc C C' ∧ TFr R R' ∧ q ≤ p' ∧ p' ≤ n ∧ gI C' 2 3 = nI p' ∧ gI R' 118 8 = nI p' ∧ gI C' 2 5 = nI s ∧ gI R' 118 10 = gI R 118 10 ∧
      ((gI C' 2 4 = 2 ∧ gI R' 118 9 = 3 ∧ ∃ w, w ≤ 999 ∧ gL C' 2 6 = lN w ∧ gI R' 118 12 = nI w) ∨ (gI C' 2 4 = 0 ∧ gI R' 118 9 = 0)) ∧ (q < n → tyF (gI C 3 q) = 2 → q < p') := by
  intro d
  have stop : ∀ (q m v : Nat) (C R : MM), q ≤ n → q = s + m → n ≤ 900 → gI C 2 3 = nI q → gI R 118 8 = nI q → gI C 2 4 = 2 → gI C 2 5 = nI s → gI R 118 9 = 0 → (m ≤ 3 → v < 10 ^ m ∧ gL C 2 6 = lN v ∧ gI R 118 12 = nI v) →
      ∃ C' R' p', (if ((gI C 2 3) - (gI C 2 5)) ≤ 3 then (some (pI C 2 4 (gI C 2 4))) else (some (pI C 2 4 0))) = some C' ∧ (if 3 < nI m then (some R) else (some (pI R 118 9 3))) = some R' ∧ TFc C C' ∧ TFr R R' ∧ q ≤ p' ∧ p' ≤ n ∧ gI C' 2 3 = nI p' ∧ gI R' 118 8 = nI p' ∧ gI C' 2 5 = nI s ∧ gI R' 118 10 = gI R 118 10 ∧
        ((gI C' 2 4 = 2 ∧ gI R' 118 9 = 3 ∧ ∃ w, w ≤ 999 ∧ gL C' 2 6 = lN w ∧ gI R' 118 12 = nI w) ∨ (gI C' 2 4 = 0 ∧ gI R' 118 9 = 0)) := by
    intro q m v C R hq hm hn h3 h8 h4 h5 h9 hv
    rw [h3, h5, pk_sub (by omega), show q - s = m by omega]
    by_cases h : m ≤ 3
    · rw [if_pos (show nI m ≤ (3 : Int32) from nI_le (b := 3) h (by decide)), if_neg (show ¬ (3 : Int32) < nI m from nI_nlt (a := 3) h (by decide))]
      obtain ⟨v1, v2, v3⟩ := hv h
      have hp : 10 ^ m ≤ 10 ^ 3 := Nat.pow_le_pow_right (by decide) h
      refine ⟨_, _, q, rfl, rfl, (TFc.rf C).pI (by omega) _, (TFr.rf R).pI (by omega) _, Nat.le_refl q, hq, ?_, ?_, ?_, ?_, Or.inl ⟨?_, gI_pIs _ _ _ _, v, by omega, v2, ?_⟩⟩
      · rw [gI_pIk (by decide)]; exact h3
      · rw [gI_pIk (by decide)]; exact h8
      · rw [gI_pIk (by decide)]; exact h5
      · rw [gI_pIk (by decide)]
      · rw [gI_pIs]; exact h4
      · rw [gI_pIk (by decide)]; exact v3
    · rw [if_neg (show ¬ nI m ≤ (3 : Int32) from nI_ge (a := 3) (by omega) (by omega)), if_pos (show (3 : Int32) < nI m from nI_lt (a := 3) (by omega) (by omega))]
      refine ⟨_, _, q, rfl, rfl, (TFc.rf C).pI (by omega) _, TFr.rf R, Nat.le_refl q, hq, ?_, h8, ?_, rfl, Or.inr ⟨gI_pIs _ _ _ _, h9⟩⟩
      · rw [gI_pIk (by decide)]; exact h3
      · rw [gI_pIk (by decide)]; exact h5
  induction d with
  | zero =>
    intro q m v C R f1 f2 hq hm g1 g2 hB h3 h8 h4 h5 h9 hv
    obtain ⟨f1, rfl⟩ := suc g1
    obtain ⟨f2, rfl⟩ := suc g2
    have hn := hB.1
    rw [f_X7_advance_L145_1, hB.2.2.2.1, h3, if_pos (nI_le (by omega) (by omega)), f_X13_goesOn_L178, h8, byteAt_o hB (by omega) (by omega), ob_s, isDigit_r, ob_s, dig_m1, if_pos rfl, ← h3]
    obtain ⟨C', R', p', y1, y2, y3, y4, y5, y6, y7, y8, y9, y10, y11⟩ := stop q m v C R (by omega) hm hn h3 h8 h4 h5 h9 hv
    exact ⟨C', R', p', y1, y2, y3, y4, y5, y6, y7, y8, y9, y10, y11, fun z => by omega⟩
  | succ d ih =>
    intro q m v C R f1 f2 hq hm g1 g2 hB h3 h8 h4 h5 h9 hv
    obtain ⟨f1, rfl⟩ := suc g1
    obtain ⟨f2, rfl⟩ := suc g2
    have hn := hB.1
    have hqn : q < n := by omega
    have hb := DB_of (hB.2.2.2.2.2 q hqn).2
    rw [f_X7_advance_L145_1, hB.2.2.2.1, h3, if_neg (nI_ge hqn (by omega)), hB.2.1, oc_x, chk_n (show q < 900 by omega) (by decide), ix_n (by omega), typeOf_c, ob_s, h4, oc_x, chk_m (show q < 900 by omega) (by decide)]
    rw [f_X13_goesOn_L178, h8, byteAt_i hB hqn, ob_s, isDigit_r, ob_s, ob_s]
    obtain ⟨d1, d2, d3, d4, d5, d6, d7, d8, d9, d10, d11⟩ := hb
    by_cases ht : tyF (gI C 3 q) = 2
    · rw [if_pos ht, d4.mp ht, if_neg (show ¬ (1 : Int32) = 0 by decide), gI_L, h3, nI_1 q, nI_1 m]
      by_cases h : 3 ≤ m
      · rw [if_pos (show (3 : Int32) ≤ nI m from nI_le (a := 3) h (by omega))]
        have hB2 : BY (pI (pL C 2 6 (((gL C 2 6 * Int32.toInt64 10) + (gI C 3 q).toInt64) - Int32.toInt64 48)) 2 3 (nI (q + 1))) (pI R 118 8 (nI (q + 1))) n := hB.go (((TFc.rf C).pL _ _).pI (by omega) _) ((TFr.rf R).pI (by omega) _)
        obtain ⟨C', R', p', a1, a2, a3, a4, a5, a6, a7⟩ := ih (q + 1) (m + 1) 0 _ _ f1 f2 (by omega) (by omega) (by omega) (by omega) hB2 (gI_pIs _ _ _ _) (gI_pIs _ _ _ _) (by rw [gI_pIk (by decide)]; exact h4) (by rw [gI_pIk (by decide)]; exact h5) (by rw [gI_pIk (by decide)]; exact h9) (fun z => by omega)
        refine ⟨C', R', p', a1, a2, (((TFc.rf C).pL _ _).pI (by omega) _).tr a3, ((TFr.rf R).pI (by omega) _).tr a4, by omega, a6, a7.1, a7.2.1, a7.2.2.1, ?_, a7.2.2.2.2.1, fun _ _ => by omega⟩
        rw [a7.2.2.2.1, gI_pIk (by decide)]
      · rw [if_neg (show ¬ (3 : Int32) ≤ nI m from nI_ge (b := 3) (by omega) (by decide))]
        obtain ⟨v1, v2, v3⟩ := hv (by omega)
        obtain ⟨e1, e2, e3⟩ := d11 ht
        obtain ⟨y, hy, ey⟩ := nI_of2 (M := 57) (n := 57) (x := gI C 3 q) (by decide) (fun z => absurd (Int32.lt_of_lt_of_le z (show (0 : Int32) ≤ 48 by decide)) (Int32.not_lt.mpr e2)) e3
        have hy48 : 48 ≤ y := by
          rw [ey] at e2
          exact (nI_leI (a := 48) (by decide) (by omega)).mp e2
        have hp : 10 ^ m ≤ 10 ^ 2 := Nat.pow_le_pow_right (by decide) (by omega)
        have hp2 : 10 ^ (m + 1) = 10 * 10 ^ m := by rw [Nat.pow_succ, Nat.mul_comm]
        have ev : ((10 * gI R 118 12) + (gI C 3 q &&& 255)) - 48 = nI (10 * v + (y - 48)) := by
          rw [e1, ey, v3, show (10 : Int32) = nI 10 from rfl, pk_mul, nI_add, show (48 : Int32) = nI 48 from rfl, pk_sub (by omega)]
          congr 1
          omega
        have el : ((gL C 2 6 * Int32.toInt64 10) + (gI C 3 q).toInt64) - Int32.toInt64 48 = lN (10 * v + (y - 48)) := by
          rw [ey, v2, nI_l (by omega), show Int32.toInt64 10 = lN 10 from rfl, lN_mul, lN_add, show Int32.toInt64 48 = lN 48 from rfl, lN_sub (by omega)]
          congr 1
          omega
        rw [ev, el, gI_pIk (show 8 ≠ 12 by decide), h8, nI_1 q]
        have hB2 : BY (pI (pL C 2 6 (lN (10 * v + (y - 48)))) 2 3 (nI (q + 1))) (pI (pI R 118 12 (nI (10 * v + (y - 48)))) 118 8 (nI (q + 1))) n := hB.go (((TFc.rf C).pL _ _).pI (by omega) _) (((TFr.rf R).pI (by omega) _).pI (by omega) _)
        obtain ⟨C', R', p', a1, a2, a3, a4, a5, a6, a7⟩ := ih (q + 1) (m + 1) (10 * v + (y - 48)) _ _ f1 f2 (by omega) (by omega) (by omega) (by omega) hB2 (gI_pIs _ _ _ _) (gI_pIs _ _ _ _) (by rw [gI_pIk (by decide)]; exact h4) (by rw [gI_pIk (by decide)]; exact h5) (by rw [gI_pIk (by decide), gI_pIk (by decide)]; exact h9) (fun z => ⟨by omega, by rw [gL_I, gL_pLs], by rw [gI_pIk (by decide), gI_pIs]⟩)
        refine ⟨C', R', p', a1, a2, (((TFc.rf C).pL _ _).pI (by omega) _).tr a3, (((TFr.rf R).pI (by omega) _).pI (by omega) _).tr a4, by omega, a6, a7.1, a7.2.1, a7.2.2.1, ?_, a7.2.2.2.2.1, fun _ _ => by omega⟩
        rw [a7.2.2.2.1, gI_pIk (by decide), gI_pIk (by decide)]
    · have hl : digS (gI C 3 q &&& 255) = 0 := d6.resolve_right (fun z => ht (d4.mpr z))
      rw [if_neg ht, hl, if_pos rfl]
      obtain ⟨C', R', p', y1, y2, y3, y4, y5, y6, y7, y8, y9, y10, y11⟩ := stop q m v C R (by omega) hm hn h3 h8 h4 h5 h9 hv
      rw [h3, h4] at y1
      exact ⟨C', R', p', y1, y2, y3, y4, y5, y6, y7, y8, y9, y10, y11, fun _ z => absurd z ht⟩
/-- the token, as both see it -/
def LX (C R : MM) : Prop := (gI C 2 4 = 0 ∧ gI R 118 9 = 0) ∨ (gI C 2 4 = 1 ∧ gI R 118 9 = 2 ∧ gL C 2 6 = gL R 118 15) ∨ (gI C 2 4 = 2 ∧ gI R 118 9 = 3 ∧ ∃ w, w ≤ 999 ∧ gL C 2 6 = lN w ∧ gI R 118 12 = nI w) ∨ (gI C 2 4 = 3 ∧ gI R 118 9 = 4 ∧ ∃ b : Int32, (b = 59 ∨ b = 44) ∧ gL C 2 6 = b.toInt64 ∧ gI R 118 11 = b) ∨ (gI C 2 4 = 4 ∧ gI R 118 9 = 1)
theorem L145_same (K1 K2 : MM → Nat → Option MM) : ∀ (f : Nat) (M : MM) (a : Nat) (x y z : Int32), f_X7_advance_L145 K1 f M a x y z = f_X7_advance_L145_1 K2 f M a x y z := by
  intro f
  induction f with
  | zero => intros; rfl
  | succ f ih =>
    intro M a x y z
    rw [f_X7_advance_L145, f_X7_advance_L145_1]
    simp only [ih]
/-- from the token's first byte on, by its type -/
theorem J82_1t (K : MM → Nat → Option MM) (M : MM) : (gI M 2 4 = 1 → f_X7_advance_J82_1 K M 2 = f_X7_advance_L145_1 K FU M 2 32 96 8) ∧ (gI M 2 4 = 2 → f_X7_advance_J82_1 K M 2 = f_X7_advance_L145_1 K FU M 2 10 48 3) := by
  unfold f_X7_advance_J82_1 f_X7_advance_J98_1 f_X7_advance_J114_1 f_X7_advance_J130_1 f_X7_advance_J144_1
  constructor
  · intro h
    simp only [if_pos h]
  · intro h
    have h1 : ¬ gI M 2 4 = 1 := by rw [h]; decide
    simp only [if_neg h1, if_pos h]
theorem goes_l : ∀ (d p n : Nat) (C R : MM) (f1 f2 : Nat), p + d = n → d < f1 → d < f2 → BY C R n → gI C 2 3 = nI p → gI R 118 8 = nI p →
    ∃ C' R' s p', f_X7_advance_L0 f1 C 2 = some C' ∧ f_X13_goesOn_L9 f2 R 118 = some R' ∧ TFc C C' ∧ TFr R R' ∧ p ≤ s ∧ s ≤ p' ∧ p' ≤ n ∧ gI C' 2 3 = nI p' ∧ (gI R' 118 8 = nI p' ∨ gI C' 2 4 = 0) ∧ gI C' 2 5 = nI s ∧ gI R' 118 10 = nI s ∧ LX C' R' ∧ (gI C' 2 4 ≠ 4 → s < p') := by
  intro d
  induction d with
  | zero =>
    intro p n C R f1 f2 hp g1 g2 hB h3 h8
    obtain ⟨f1, rfl⟩ := suc g1
    obtain ⟨f2, rfl⟩ := suc g2
    have hn := hB.1
    have hpn : p = n := by omega
    have e1 : gI (pL (pI C 2 5 (nI p)) 2 6 0) 2 2 = nI n := by rw [gI_L, gI_pIk (by decide)]; exact hB.2.2.2.1
    have e2 : gI (pL (pI C 2 5 (nI p)) 2 6 0) 2 5 = nI p := by rw [gI_L, gI_pIs]
    have hB2 : BY C (pI (pI (pI R 118 10 (nI p)) 118 9 0) 118 11 0) n := hB.go (TFc.rf C) ((((TFr.rf R).pI (by omega) _).pI (by omega) _).pI (by omega) _)
    have e8 : gI (pI (pI (pI R 118 10 (nI p)) 118 9 0) 118 11 0) 118 8 = nI p := by rw [gI_pIk (by decide), gI_pIk (by decide), gI_pIk (by decide)]; exact h8
    refine ⟨pI (pL (pI C 2 5 (nI p)) 2 6 0) 2 4 4, pI (pI (pI (pI R 118 10 (nI p)) 118 9 0) 118 11 0) 118 9 1, p, p, ?_, ?_, (((TFc.rf C).pI (by omega) _).pL _ _).pI (by omega) _, ((((TFr.rf R).pI (by omega) _).pI (by omega) _).pI (by omega) _).pI (by omega) _, Nat.le_refl p, Nat.le_refl p, by omega, ?_, Or.inl ?_, ?_, ?_, Or.inr (Or.inr (Or.inr (Or.inr ⟨gI_pIs _ _ _ _, gI_pIs _ _ _ _⟩))), fun z => absurd (gI_pIs _ _ _ _) z⟩
    · rw [f_X7_advance_L0, hB.2.2.2.1, h3, if_pos (nI_le (by omega) (by omega)), e1, e2, if_pos (nI_le (by omega) (by omega)), f_X7_advance_J82, gI_pIs, if_neg (by decide), if_neg (by decide), if_pos rfl]
    · rw [f_X13_goesOn_L9, h8, byteAt_o hB (by omega) (by omega), ob_s, if_neg (by decide), e8, byteAt_o hB2 (by omega) (by omega), ob_s, if_pos rfl]
    · rw [gI_pIk (by decide), gI_L, gI_pIk (by decide)]; exact h3
    · rw [gI_pIk (by decide)]; exact e8
    · rw [gI_pIk (by decide)]; exact e2
    · rw [gI_pIk (by decide), gI_pIk (by decide), gI_pIk (by decide), gI_pIs]
  | succ d ih =>
    intro p n C R f1 f2 hp g1 g2 hB h3 h8
    obtain ⟨f1, rfl⟩ := suc g1
    obtain ⟨f2, rfl⟩ := suc g2
    have hn := hB.1
    have hpn : p < n := by omega
    have hb := DB_of (hB.2.2.2.2.2 p hpn).2
    obtain ⟨d1, d2, d3, d4, d5, d6, d7, d8, d9, d10, d11⟩ := hb
    by_cases h32 : gI C 3 p = 32
    · have hB1 : BY (pI C 2 3 (nI (p + 1))) (pI R 118 8 (nI (p + 1))) n := hB.go ((TFc.rf C).pI (by omega) _) ((TFr.rf R).pI (by omega) _)
      obtain ⟨C', R', s, p', a1, a2, a3, a4, a5, a6⟩ := ih (p + 1) n _ _ f1 f2 (by omega) (by omega) (by omega) hB1 (gI_pIs _ _ _ _) (gI_pIs _ _ _ _)
      refine ⟨C', R', s, p', ?_, ?_, ((TFc.rf C).pI (by omega) _).tr a3, ((TFr.rf R).pI (by omega) _).tr a4, by omega, a6⟩
      · rw [f_X7_advance_L0, hB.2.2.2.1, h3, if_neg (nI_ge hpn (by omega)), hB.2.1, oc_x, chk_n (show p < 900 by omega) (by decide), ix_n (by omega), if_pos h32, nI_1 p]
        exact a1
      · rw [f_X13_goesOn_L9, h8, byteAt_i hB hpn, ob_s, if_pos (d2.mpr h32), nI_1 p]
        exact a2
    · have e1 : gI (pL (pI C 2 5 (nI p)) 2 6 0) 2 2 = nI n := by rw [gI_L, gI_pIk (by decide)]; exact hB.2.2.2.1
      have e2 : gI (pL (pI C 2 5 (nI p)) 2 6 0) 2 5 = nI p := by rw [gI_L, gI_pIs]
      have e3 : gI (pL (pI C 2 5 (nI p)) 2 6 0) 3 p = gI C 3 p := by rw [gI_L, gI_pIa (by decide)]
      have er : gR (pL (pI C 2 5 (nI p)) 2 6 0) 2 0 = some 3 := hB.2.1
      have hB2 : BY C (pI (pI (pI R 118 10 (nI p)) 118 9 0) 118 11 0) n := hB.go (TFc.rf C) ((((TFr.rf R).pI (by omega) _).pI (by omega) _).pI (by omega) _)
      have e8 : gI (pI (pI (pI R 118 10 (nI p)) 118 9 0) 118 11 0) 118 8 = nI p := by rw [gI_pIk (by decide), gI_pIk (by decide), gI_pIk (by decide)]; exact h8
      have e9 : gI (pI (pI (pI R 118 10 (nI p)) 118 9 0) 118 11 0) 118 9 = 0 := by rw [gI_pIk (by decide), gI_pIs]
      have e10 : gI (pI (pI (pI R 118 10 (nI p)) 118 9 0) 118 11 0) 118 10 = nI p := by rw [gI_pIk (by decide), gI_pIk (by decide), gI_pIs]
      have tR : TFr R (pI (pI (pI R 118 10 (nI p)) 118 9 0) 118 11 0) := (((TFr.rf R).pI (by omega) _).pI (by omega) _).pI (by omega) _
      generalize hR1 : pI (pI (pI R 118 10 (nI p)) 118 9 0) 118 11 0 = R1 at *
      have cls : f_X7_advance_L0 (f1 + 1) C 2 = f_X7_advance_J82_1 (fun M y1_0 => f_X7_advance_L0 f1 M y1_0) (pI (pL (pI C 2 5 (nI p)) 2 6 0) 2 4 (tyF (gI C 3 p))) 2 := by
        rw [f_X7_advance_L0, hB.2.2.2.1, h3, if_neg (nI_ge hpn (by omega)), hB.2.1, oc_x, chk_n (show p < 900 by omega) (by decide), ix_n (by omega), if_neg h32, e1, e2, if_neg (nI_ge hpn (by omega)), er, oc_x, chk_n (show p < 900 by omega) (by decide), ix_n (show p < 2147483648 by omega), e3, typeOf_c, ob_s]
      have rf : f_X13_goesOn_L9 (f2 + 1) R 118 = (if letS (gI C 3 p &&& 255) = 0 then (if digS (gI C 3 p &&& 255) = 0 then (if (gI C 3 p &&& 255) = 59 then (some (pI (pI (pI R1 118 9 4) 118 11 (gI C 3 p &&& 255)) 118 8 (nI (p + 1)))) else (if (gI C 3 p &&& 255) = 44 then (some (pI (pI (pI R1 118 9 4) 118 11 (gI C 3 p &&& 255)) 118 8 (nI (p + 1)))) else (some R1))) else (f_X13_goesOn_L178 (fun M y2_0 => f_X13_goesOn_L9 f2 M y2_0) FU (pI R1 118 12 0) 118 0)) else (f_X13_goesOn_L89 (fun M y2_0 => f_X13_goesOn_L9 f2 M y2_0) FU (pL R1 118 15 0) 118 0)) := by
        rw [f_X13_goesOn_L9, h8, byteAt_i hB hpn, ob_s, if_neg (fun z => h32 (d2.mp z)), hR1, e8, byteAt_i hB2 hpn, ob_s, if_neg d1, isLetter_r, ob_s, isDigit_r, ob_s, gI_pIk (show 8 ≠ 11 by decide), gI_pIk (show 8 ≠ 9 by decide), e8, nI_1 p]
      have tC : TFc C (pI (pL (pI C 2 5 (nI p)) 2 6 0) 2 4 (tyF (gI C 3 p))) := (((TFc.rf C).pI (by omega) _).pL _ _).pI (by omega) _
      have f3 : gI (pI (pL (pI C 2 5 (nI p)) 2 6 0) 2 4 (tyF (gI C 3 p))) 2 3 = nI p := by rw [gI_pIk (by decide), gI_L, gI_pIk (by decide)]; exact h3
      have f4 : gI (pI (pL (pI C 2 5 (nI p)) 2 6 0) 2 4 (tyF (gI C 3 p))) 2 4 = tyF (gI C 3 p) := gI_pIs _ _ _ _
      have f5 : gI (pI (pL (pI C 2 5 (nI p)) 2 6 0) 2 4 (tyF (gI C 3 p))) 2 5 = nI p := by rw [gI_pIk (by decide)]; exact e2
      have f6 : gL (pI (pL (pI C 2 5 (nI p)) 2 6 0) 2 4 (tyF (gI C 3 p))) 2 6 = 0 := by rw [gL_I, gL_pLs]
      have fb : gI (pI (pL (pI C 2 5 (nI p)) 2 6 0) 2 4 (tyF (gI C 3 p))) 3 p = gI C 3 p := by rw [gI_pIa (by decide)]; exact e3
      rw [cls, rf]
      clear cls rf
      generalize hC1 : pI (pL (pI C 2 5 (nI p)) 2 6 0) 2 4 (tyF (gI C 3 p)) = C1 at *
      rcases d8 with t | t | t | t
      · -- no token
        have nl : letS (gI C 3 p &&& 255) = 0 := d5.resolve_right (fun z => absurd ((d3.mpr z).symm.trans t) (by decide))
        have nd : digS (gI C 3 p &&& 255) = 0 := d6.resolve_right (fun z => absurd ((d4.mpr z).symm.trans t) (by decide))
        have n59 : ¬ (gI C 3 p &&& 255) = 59 := fun z => absurd ((d7.mpr (Or.inl z)).symm.trans t) (by decide)
        have n44 : ¬ (gI C 3 p &&& 255) = 44 := fun z => absurd ((d7.mpr (Or.inr z)).symm.trans t) (by decide)
        rw [nl, if_pos rfl, nd, if_pos rfl, if_neg n59, if_neg n44]
        rw [t] at f4
        refine ⟨pI (pL C1 2 6 ((gI C1 3 p).toInt64)) 2 3 (nI (p + 1)), R1, p, p + 1, ?_, rfl, (tC.pL _ _).pI (by omega) _, tR, Nat.le_refl p, by omega, by omega, gI_pIs _ _ _ _, Or.inr ?_, ?_, e10, Or.inl ⟨?_, e9⟩, fun _ => by omega⟩
        · have er1 : gR C1 2 0 = some 3 := by rw [← hC1]; exact hB.2.1
          rw [f_X7_advance_J82_1, f4, if_neg (by decide), if_neg (by decide), if_neg (by decide), er1, oc_x, f5, chk_n (show p < 900 by omega) (by decide), ix_n (show p < 2147483648 by omega), gI_L, f3, nI_1 p]
        · rw [gI_pIk (by decide), gI_L]; exact f4
        · rw [gI_pIk (by decide), gI_L]; exact f5
        · rw [gI_pIk (by decide), gI_L]; exact f4
      · -- a word
        rw [t] at f4
        rw [d3.mp t, if_neg (show ¬ (1 : Int32) = 0 by decide), (J82_1t _ C1).1 f4]
        obtain ⟨C', R', p', a1, a2, a3, a4, a5, a6, a7, a8, a9, a10, a11, a12⟩ := word_l (fun M y1_0 => f_X7_advance_L0 f1 M y1_0) (fun M y2_0 => f_X13_goesOn_L9 f2 M y2_0) n p (n - p) p 0 C1 (pL R1 118 15 0) FU FU (by omega) (by omega) (fu (by omega)) (fu (by omega)) (hB.go tC (tR.pL _ _)) f3 e8 f4 f5 e9 (fun _ => by rw [f6, gL_pLs])
        refine ⟨C', R', p, p', a1, a2, tC.tr a3, (tR.pL _ _).tr a4, Nat.le_refl p, a5, a6, a7, Or.inl a8, a9, a10.trans e10, ?_, fun _ => a12 hpn (by rw [fb]; exact t)⟩
        rcases a11 with ⟨x1, x2, x3⟩ | ⟨x1, x2⟩
        · exact Or.inr (Or.inl ⟨x1, x2, x3⟩)
        · exact Or.inl ⟨x1, x2⟩
      · -- a number
        have nl : letS (gI C 3 p &&& 255) = 0 := d5.resolve_right (fun z => absurd ((d3.mpr z).symm.trans t) (by decide))
        rw [t] at f4
        rw [nl, if_pos rfl, d4.mp t, if_neg (show ¬ (1 : Int32) = 0 by decide), (J82_1t _ C1).2 f4]
        obtain ⟨C', R', p', a1, a2, a3, a4, a5, a6, a7, a8, a9, a10, a11, a12⟩ := num_l (fun M y1_0 => f_X7_advance_L0 f1 M y1_0) (fun M y2_0 => f_X13_goesOn_L9 f2 M y2_0) n p (n - p) p 0 0 C1 (pI R1 118 12 0) FU FU (by omega) (by omega) (fu (by omega)) (fu (by omega)) (hB.go tC (tR.pI (by omega) _)) f3 (by rw [gI_pIk (by decide)]; exact e8) f4 f5 (by rw [gI_pIk (by decide)]; exact e9) (fun _ => ⟨by decide, by rw [f6]; rfl, by rw [gI_pIs]; rfl⟩)
        refine ⟨C', R', p, p', a1, a2, tC.tr a3, (tR.pI (by omega) _).tr a4, Nat.le_refl p, a5, a6, a7, Or.inl a8, a9, ?_, ?_, fun _ => a12 hpn (by rw [fb]; exact t)⟩
        · rw [a10, gI_pIk (by decide)]; exact e10
        · rcases a11 with ⟨x1, x2, x3⟩ | ⟨x1, x2⟩
          · exact Or.inr (Or.inr (Or.inl ⟨x1, x2, x3⟩))
          · exact Or.inl ⟨x1, x2⟩
      · -- a sign
        have nl : letS (gI C 3 p &&& 255) = 0 := d5.resolve_right (fun z => absurd ((d3.mpr z).symm.trans t) (by decide))
        have nd : digS (gI C 3 p &&& 255) = 0 := d6.resolve_right (fun z => absurd ((d4.mpr z).symm.trans t) (by decide))
        have hu := d9 t
        have hs := d7.mp t
        rw [hu] at hs
        rw [t] at f4
        have er1 : gR C1 2 0 = some 3 := by rw [← hC1]; exact hB.2.1
        refine ⟨pI (pL C1 2 6 ((gI C 3 p).toInt64)) 2 3 (nI (p + 1)), pI (pI (pI R1 118 9 4) 118 11 (gI C 3 p)) 118 8 (nI (p + 1)), p, p + 1, ?_, ?_, (tC.pL _ _).pI (by omega) _, ((tR.pI (by omega) _).pI (by omega) _).pI (by omega) _, Nat.le_refl p, by omega, by omega, gI_pIs _ _ _ _, Or.inl (gI_pIs _ _ _ _), ?_, ?_, Or.inr (Or.inr (Or.inr (Or.inl ⟨?_, ?_, gI C 3 p, hs, ?_, ?_⟩))), fun _ => by omega⟩
        · rw [f_X7_advance_J82_1, f4, if_neg (by decide), if_neg (by decide), if_neg (by decide), er1, oc_x, f5, chk_n (show p < 900 by omega) (by decide), ix_n (show p < 2147483648 by omega), gI_L, f3, nI_1 p, fb]
        · rw [nl, if_pos rfl, nd, if_pos rfl, hu]
          rcases hs with h | h
          · rw [if_pos h]
          · rw [if_neg (by rw [h]; decide), if_pos h]
        · rw [gI_pIk (by decide), gI_L]; exact f5
        · rw [gI_pIk (by decide), gI_pIk (by decide), gI_pIk (by decide)]; exact e10
        · rw [gI_pIk (by decide), gI_L]; exact f4
        · rw [gI_pIk (by decide), gI_pIk (by decide), gI_pIs]
        · rw [gL_I, gL_pLs]
        · rw [gI_pIk (by decide), gI_pIs]
theorem goes {C R : MM} {n p : Nat} (hB : BY C R n) (hp : p ≤ n) (h3 : gI C 2 3 = nI p) (h8 : gI R 118 8 = nI p) (h9 : ¬ gI R 118 9 = 5) : ∃ C' R' s p', f_X7_advance C 2 = some C' ∧ f_X13_goesOn R 118 = some R' ∧ TFc C C' ∧ TFr R R' ∧ p ≤ s ∧ s ≤ p' ∧ p' ≤ n ∧ gI C' 2 3 = nI p' ∧ (gI R' 118 8 = nI p' ∨ gI C' 2 4 = 0) ∧ gI C' 2 5 = nI s ∧ gI R' 118 10 = nI s ∧ LX C' R' ∧ (gI C' 2 4 ≠ 4 → s < p') := by
  unfold f_X7_advance f_X13_goesOn
  rw [if_neg h9]
  have hn := hB.1
  exact goes_l (n - p) p n C R FU FU (by omega) (fu (by omega)) (fu (by omega)) hB h3 h8
