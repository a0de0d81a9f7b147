/-! THE FRESH MEMORIES -/
def MM0 : MM := (fun _ _ => 0, fun _ _ => 0, fun _ _ => none)
def Z00 (M : MM) : Prop := ∀ a k, gI M a k = 0
theorem Z00.n : Z00 MM0 := fun _ _ => rfl
theorem Z00.z {M : MM} {o : Nat} (h : Z00 M) : Z00 (zM M o) := fun a k => by
  show va_up M.1 o (fun _ => 0) a k = 0
  by_cases e : a = o
  · subst e; rw [va_up_self]
  · rw [va_up_ne _ _ e]; exact h a k
theorem Z00.r {M : MM} {b j : Nat} {v : Option Nat} (h : Z00 M) : Z00 (pR M b j v) := h
theorem Z00.i {M : MM} {b j : Nat} (h : Z00 M) : Z00 (pI M b j 0) := fun a k => by
  show up2 M.1 b j 0 a k = 0
  by_cases e : a = b → k ≠ j
  · rw [up2_ne _ _ e]; exact h a k
  · have e2 : a = b ∧ k = j := ⟨Decidable.not_not.mp fun z => e fun q => absurd q z, Decidable.not_not.mp fun z => e fun _ => z⟩
    rw [e2.1, e2.2, up2_self]
/-- the class's: StoneWalk and what it makes, then the law's array of one long -/
def C00 : MM := zM (f_X11_init (zM MM0 1) 1) 118
def R00 : MM := f_X13_init (zM MM0 118) 118
theorem C00_z : Z00 C00 := by
  unfold C00 f_X11_init f_X0_init f_X6_init f_X3_init f_X4_init f_X2_init f_X7_init
  repeat first | exact Z00.n | refine Z00.z ?_ | refine Z00.r ?_ | refine Z00.i ?_
set_option maxRecDepth 100000 in
theorem C00_14 : IS C00 14 := by
  unfold IS
  decide +kernel
set_option maxRecDepth 100000 in
theorem C00_66 : IS C00 66 := by
  unfold IS
  decide +kernel
set_option maxRecDepth 100000 in
theorem C00_S : gR C00 1 0 = some 2 ∧ gR C00 1 1 = some 4 ∧ gR C00 1 2 = some 8 ∧ gR C00 1 3 = some 12 ∧ gR C00 1 4 = some 13 ∧ gR C00 1 5 = some 14 ∧ gR C00 1 6 = some 66 ∧ gR C00 2 0 = some 3 ∧ gR C00 4 0 = some 2 ∧ gR C00 4 1 = some 5 ∧ gR C00 4 2 = some 6 ∧ gR C00 4 3 = some 7 ∧ gR C00 8 0 = some 9 ∧ gR C00 8 1 = some 10 ∧ gR C00 8 2 = some 11 := by decide +kernel
set_option maxRecDepth 100000 in
theorem R00_S : RT R00 ∧ gI R00 118 1 = 0 ∧ gI R00 118 13 = 0 ∧ gI R00 118 2 = -1 ∧ gI R00 118 6 = 0 ∧ gI R00 118 25 = 0 ∧ gI R00 118 16 = 0 ∧ gI R00 118 17 = -1 ∧ gR R00 118 3 = none := by
  unfold RT
  decide +kernel
theorem top00 : TOP C00 R00 := by
  obtain ⟨s0, s1, s2, s3, s4, s5, s6, s7, s8, s9, s10, s11, s12, s13, s14⟩ := C00_S
  obtain ⟨r0, r1, r2, r3, r4, r5, r6, r7, r8⟩ := R00_S
  have z := C00_z
  refine ⟨12, 13, 14, 66, ⟨s0, s1, s2, s3, s4, s5, s6, s7, s8, s9, s10, s11, s12, s13, s14, C00_14, C00_66, Or.inl ⟨rfl, rfl⟩, Or.inl ⟨rfl, rfl⟩⟩, r0, ⟨?_, ?_, ?_⟩, ⟨0, by omega, z _ _, r4, fun k hk => absurd hk (Nat.not_lt_zero k)⟩, ⟨0, by omega, z _ _, r5, fun k hk => absurd hk (Nat.not_lt_zero k)⟩, ⟨0, by omega, z _ _, r6⟩, Or.inl ⟨⟨C00_14, ⟨z _ _, z _ _, z _ _, z _ _, z _ _, z _ _, z _ _⟩, z _ _⟩, r8, ⟨z _ _, r7⟩, z _ _, z _ _⟩⟩
  · rw [z, r1]
  · rw [z, r2]
  · rw [z, r3]; rfl
