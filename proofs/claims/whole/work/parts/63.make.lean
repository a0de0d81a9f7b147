/-! A NEW ISLAND OF THE REFERENCE -/
theorem gI_zM (M : MM) (o a k : Nat) : gI (zM M o) a k = if a = o then 0 else gI M a k := by
  unfold gI zM va_up
  by_cases h : a = o
  · simp [h]
  · simp [h]
theorem gI_zMn {M : MM} {o a : Nat} (h : a ≠ o) (k : Nat) : gI (zM M o) a k = gI M a k := by rw [gI_zM, if_neg h]
theorem gL_zM {M : MM} {o a : Nat} (h : a ≠ o) (k : Nat) : gL (zM M o) a k = gL M a k := by
  unfold gL zM va_up
  simp [h]
theorem gR_zM {M : MM} {o a : Nat} (h : a ≠ o) (k : Nat) : gR (zM M o) a k = gR M a k := by
  unfold gR zM va_up
  simp [h]
set_option maxHeartbeats 4000000 in
theorem mk12_js (M : MM) (o : Nat) : JS (f_X12_init (zM M o) o) o := by
  unfold JS f_X12_init
  refine ⟨?_, ?_, ?_, ?_, ?_, ?_, ?_, ?_, ?_, ?_, ?_, ?_, ?_, ?_, ?_, ?_, ?_, ?_, ?_, ?_, ?_, ?_, ?_, ?_, ?_, ?_, ?_, ?_, ?_, ?_, ?_⟩
  all_goals simp (disch := omega) only [gR_pRs, gR_pRn, gR_zM, gR_pI]
/-- the new rows are empty -/
def P12 (o n : Nat) (X : MM) : Prop := ∀ c, 1 ≤ c → c ≤ n → ∀ k, gI X (o + c) k = 0
theorem P12.st {o n m k : Nat} {X : MM} {v : Option Nat} (h : P12 o n X) (hm : m = n + 1) : P12 o m (pR (zM X (o + m)) o k v) := by
  intro c h1 h2 i
  rw [gI_pR, gI_zM]
  split
  · rfl
  · exact h c h1 (by omega) i
theorem P12.pi {o n k : Nat} {X : MM} {v : Int32} (h : P12 o n X) : P12 o n (pI X o k v) := by
  intro c h1 h2 i
  rw [gI_pIa (by omega)]
  exact h c h1 h2 i
theorem P12.z (o : Nat) (X : MM) : P12 o 0 X := fun c h1 h2 => by omega
theorem mk12_P (M : MM) (o : Nat) : P12 o 31 (f_X12_init (zM M o) o) := by
  unfold f_X12_init
  exact (((((((((((((((((((((((((((((((((((P12.z o _).st (m := 1) rfl).st (m := 2) rfl).st (m := 3) rfl).st (m := 4) rfl).st (m := 5) rfl).st (m := 6) rfl).st (m := 7) rfl).st (m := 8) rfl).st (m := 9) rfl).st (m := 10) rfl).st (m := 11) rfl).st (m := 12) rfl).st (m := 13) rfl).st (m := 14) rfl).st (m := 15) rfl).st (m := 16) rfl).st (m := 17) rfl).st (m := 18) rfl).pi).pi).pi)).st (m := 19) rfl).st (m := 20) rfl).st (m := 21) rfl).st (m := 22) rfl).st (m := 23) rfl).st (m := 24) rfl).st (m := 25) rfl).st (m := 26) rfl).st (m := 27) rfl).st (m := 28) rfl).st (m := 29) rfl).st (m := 30) rfl).st (m := 31) rfl
theorem mk12_0 (M : MM) (o k : Nat) : gI (f_X12_init (zM M o) o) o k = if k = 27 ∨ k = 30 ∨ k = 32 then -1 else 0 := by
  unfold f_X12_init
  simp (disch := omega) only [gI_pR, gI_zMn]
  rw [gI_pI, gI_pI, gI_pI]
  simp (disch := omega) only [gI_pR, gI_zMn]
  rw [gI_zM, if_pos rfl]
  by_cases h1 : k = 27
  · subst h1; simp
  · by_cases h2 : k = 30
    · subst h2; simp
    · by_cases h3 : k = 32
      · subst h3; simp
      · simp [h1, h2, h3]
theorem mk12_i (M : MM) (o c k : Nat) (hc : c < 32) : gI (f_X12_init (zM M o) o) (o + c) k = if c = 0 ∧ (k = 27 ∨ k = 30 ∨ k = 32) then -1 else 0 := by
  rcases Nat.eq_zero_or_pos c with rfl | h
  · rw [Nat.add_zero, mk12_0]
    by_cases q : k = 27 ∨ k = 30 ∨ k = 32
    · rw [if_pos q, if_pos ⟨rfl, q⟩]
    · rw [if_neg q, if_neg (fun z => q z.2)]
  · rw [if_neg (by omega)]
    exact mk12_P M o c h (by omega) k
theorem mk12_I {M : MM} {o a : Nat} (h : a < o) (k : Nat) : gI (f_X12_init (zM M o) o) a k = gI M a k := by
  unfold f_X12_init
  simp (disch := omega) only [gI_pR, gI_zMn, gI_pIa]
theorem mk12_L {M : MM} {o a : Nat} (h : a < o) (k : Nat) : gL (f_X12_init (zM M o) o) a k = gL M a k := by
  unfold f_X12_init
  simp (disch := omega) only [gL_pR, gL_zM, gL_pI]
theorem mk12_R {M : MM} {o a : Nat} (h : a < o) (k : Nat) : gR (f_X12_init (zM M o) o) a k = gR M a k := by
  unfold f_X12_init
  simp (disch := omega) only [gR_pRn, gR_zM, gR_pI]
