/-! A FRESH ARRAY'S CONTENTS -/
theorem zI_row (M : MM) (o : Nat) : gI (zM M o) o = fun _ => 0 := va_up_self _ _ _
theorem zL_row (M : MM) (o : Nat) : gL (zM M o) o = fun _ => 0 := va_up_self _ _ _
theorem zR_row (M : MM) (o : Nat) : gR (zM M o) o = fun _ => none := va_up_self _ _ _
theorem arE_zi (ad : Nat → Nat) (M : MM) (o t : Nat) (h : t < 18) (h2 : ¬ t = 16) : arE ad (zM M o) o t = .inl (fun _ => 0) := by
  unfold arE
  rw [if_neg h2, if_pos h, zI_row]
theorem arE_zl (ad : Nat → Nat) (M : MM) (o : Nat) : arE ad (zM M o) o 16 = .inr (.inl (fun _ => 0)) := by
  unfold arE
  rw [if_pos rfl, zL_row]
theorem new_i {ad : Nat → Nat} {M : MM} {o n : Nat} (cA : ClassId) : vp_cell cA (n, arE ad (zM M o) o 15) = arrV cA n (fun _ => defaultValue .int) := by
  rw [arE_zi ad M o 15 (by decide) (by decide)]
  rfl
theorem new_b {ad : Nat → Nat} {M : MM} {o n : Nat} (cA : ClassId) : vp_cell cA (n, arE ad (zM M o) o 14) = arrV cA n (fun _ => defaultValue .byte) := by
  rw [arE_zi ad M o 14 (by decide) (by decide)]
  rfl
theorem new_z {ad : Nat → Nat} {M : MM} {o n : Nat} (cA : ClassId) : vp_cell cA (n, arE ad (zM M o) o 17) = arrV cA n (fun _ => defaultValue .boolean) := by
  rw [arE_zi ad M o 17 (by decide) (by decide)]
  rfl
theorem new_l {ad : Nat → Nat} {M : MM} {o n : Nat} (cA : ClassId) : vp_cell cA (n, arE ad (zM M o) o 16) = arrV cA n (fun _ => defaultValue .long) := by
  rw [arE_zl]
  rfl
theorem arE_e {ad ad' : Nat → Nat} {M : MM} {o t : Nat} (h : t < 18) : arE ad' (zM M o) o t = arE ad (zM M o) o t := by
  by_cases h2 : t = 16
  · subst h2; rw [arE_zl, arE_zl]
  · rw [arE_zi _ _ _ _ h h2, arE_zi _ _ _ _ h h2]
theorem ok.nwt {g : CG} {o k n t : Nat} (_ : topA (gN g o k n) t) : ok (gN g o k n) o k n := ok.nw
/-- a fresh object's contents -/
def zv (t : Nat) : Value := if t = 0 then .int 0 else if t = 1 then .long 0 else .null
theorem vv_z (ad : Nat → Nat) (M : MM) (o k t : Nat) : vv ad (zM M o) o k t = zv t := by
  unfold vv zv
  match t with
  | 0 => rw [zI_row]; rfl
  | 1 => rw [zL_row]; rfl
  | t + 2 =>
    rw [if_neg (by omega), if_neg (by omega), zR_row]
    rfl
theorem fv_z (ad : Nat → Nat) (M : MM) (o : Nat) : ∀ (lay : List Nat) (k : Nat), fv ad (zM M o) o k lay = lay.map zv
  | [], _ => rfl
  | t :: r, k => by
    rw [fv, vv_z, fv_z ad M o r]
    rfl
theorem fv_e {ad ad' : Nat → Nat} {M : MM} {o k : Nat} {lay : List Nat} : fv ad' (zM M o) o k lay = fv ad (zM M o) o k lay := by rw [fv_z, fv_z]
theorem gN_sub {g : CG} {o k n y : Nat} (h : y ∈ g.1) : y ∈ (gN g o k n).1 := List.mem_append_left _ h
