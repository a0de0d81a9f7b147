/-! THE LAW'S WORLD: the class's cells, then the reference's -/
theorem SF.narrow {q : SE} {A B : Nat → Prop} {U : State} {H : Heap} (h : SF q A U H) (hAB : ∀ z, B z → A z) : SF q B U H := by
  obtain ⟨h1, h2, h3, h4, h5, h6, h7, h8⟩ := h
  exact ⟨fun t ht => ⟨(h1 t ht).1.narrow hAB, (h1 t ht).2.narrow hAB⟩, h2, h3, h4.narrow hAB, h5, h6.narrow hAB, h7.narrow hAB, h8⟩
theorem ap_l {α : Type} {w1 w2 : List α} {k : Nat} {q : α} (h : w1[k]? = some q) : (w1 ++ w2)[k]? = some q := by
  rw [List.getElem?_append_left (List.getElem?_eq_some_iff.mp h).1]
  exact h
theorem ap_r {α : Type} {w1 w2 : List α} {k : Nat} {q : α} (h : w2[k]? = some q) : (w1 ++ w2)[w1.length + k]? = some q := by
  rw [List.getElem?_append_right (by omega), show w1.length + k - w1.length = k by omega]
  exact h
theorem vP_l {D : va_G} {cl : List vw_C} {w1 w2 : va_W} {H : Heap} (h : va_P D cl (w1 ++ w2) H) : va_P D cl w1 H := fun k q hk => h k q (ap_l hk)
theorem vP_r {D : va_G} {cl : List vw_C} {w1 w2 : va_W} {H : Heap} (h : va_P D cl (w1 ++ w2) H) : va_P D cl w2 H := fun k q hk => h _ q (ap_r hk)
theorem vD_l {A : Nat → Prop} {w1 w2 : va_W} (h : va_D A (w1 ++ w2)) : va_D A w1 := ⟨fun i j p q hi hj e => h.1 i j p q (ap_l hi) (ap_l hj) e, fun k q hk => h.2 k q (ap_l hk)⟩
theorem vD_r {A : Nat → Prop} {w1 w2 : va_W} (h : va_D A (w1 ++ w2)) : va_D A w2 := ⟨fun i j p q hi hj e => by
  have := h.1 _ _ p q (ap_r hi) (ap_r hj) e
  omega, fun k q hk => h.2 _ q (ap_r hk)⟩
theorem vD_x {A : Nat → Prop} {w1 w2 : va_W} (h : va_D A (w1 ++ w2)) (i j : Nat) (p q : Nat × va_E) (hi : w1[i]? = some p) (hj : w2[j]? = some q) : p.1 ≠ q.1 := fun e => by
  have h1 := h.1 _ _ p q (ap_l hi) (ap_r hj) e
  have h2 := (List.getElem?_eq_some_iff.mp hi).1
  omega
/-- a call within the first part; within the second -/
theorem fr_l {A : Nat → Prop} {D : va_G} {cl : List vw_C} {w1 w2 w3 : va_W} {H H1 : Heap} (hP : va_P D cl (w1 ++ w2) H) (hD : va_D A (w1 ++ w2)) (hF : ∀ z, va_A w1 H.size z → A z) (hk : ∀ z : Nat, z < H.size → ¬ va_A w1 H.size z → H1[z]? = H[z]?) (hP1 : va_P D cl w3 H1) (hD1 : va_D (va_A w1 H.size) w3) : va_P D cl (w3 ++ w2) H1 ∧ va_D A (w3 ++ w2) := by
  have ap : ∀ (k : Nat) (q : Nat × va_E), w2[k]? = some q → q.1 < H.size ∧ ¬ va_A w1 H.size q.1 := by
    intro k q hq
    have hl := (vP_r hP k q hq).lt
    refine ⟨hl, fun h => ?_⟩
    rcases h with ⟨k2, e, h⟩ | h
    · exact vD_x hD k2 k (q.1, e) q h hq rfl
    · omega
  exact ⟨hP1.app (fun k q hq => (vP_r hP k q hq).kept (hk q.1 (ap k q hq).1 (ap k q hq).2)), (hD1.weaken (fun k q _ h => hF q.1 h)).app (vD_r hD) (fun i j x y hx hy hxy => (ap j y hy).2 (by rw [← hxy]; exact hD1.2 i x hx))⟩
theorem fr_r {A : Nat → Prop} {D : va_G} {cl : List vw_C} {w1 w2 w3 : va_W} {H H1 : Heap} (hP : va_P D cl (w1 ++ w2) H) (hD : va_D A (w1 ++ w2)) (hF : ∀ z, va_A w2 H.size z → A z) (hk : ∀ z : Nat, z < H.size → ¬ va_A w2 H.size z → H1[z]? = H[z]?) (hP1 : va_P D cl w3 H1) (hD1 : va_D (va_A w2 H.size) w3) : va_P D cl (w1 ++ w3) H1 ∧ va_D A (w1 ++ w3) := by
  have ap : ∀ (k : Nat) (q : Nat × va_E), w1[k]? = some q → q.1 < H.size ∧ ¬ va_A w2 H.size q.1 := by
    intro k q hq
    have hl := (vP_l hP k q hq).lt
    refine ⟨hl, fun h => ?_⟩
    rcases h with ⟨k2, e, h⟩ | h
    · exact vD_x hD k k2 q (q.1, e) hq h rfl
    · omega
  have hPl : va_P D cl w1 H1 := fun k q hq => (vP_l hP k q hq).kept (hk q.1 (ap k q hq).1 (ap k q hq).2)
  exact ⟨hPl.app hP1, (vD_l hD).app (hD1.weaken (fun k q _ h => hF q.1 h)) (fun i j x y hx hy hxy => (ap i x hx).2 (by rw [hxy]; exact hD1.2 j y hy))⟩
abbrev lwA (s : State) : Nat → Prop := fun z => s.heap.size ≤ z
/-- the law's state between two instructions: the class's memory C, the reference's R -/
def LW (D : va_G) (cy : Nat → ClassId) (s : State) (x0 m0 o0 : Nat) (adC : Nat → Nat) (gC : CG) (adR : Nat → Nat) (gR0 : CG) (top : Nat) (C R : MM) (H : Heap) (locs : List Loc) : Prop :=
  va_P D vwCl (wd adC cy gC C ++ wd adR cy gR0 R) H ∧ va_D (lwA s) (wd adC cy gC C ++ wd adR cy gR0 R) ∧ WT gC C ∧ WT gR0 R ∧ va_S (lwA s) s.heap H locs ∧ topA gR0 top ∧ 123 ≤ top ∧
  (ok gC 1 11 0 ∧ adC 1 = x0) ∧ (ok gR0 118 13 0 ∧ adR 118 = m0) ∧ (ok gC 118 16 1 ∧ adC 118 = o0)
section LAWROWS
variable {p : Program} {l : Launch} {e : Env} {R0 : Room} {s : State} {m : MethodId} {args : Array Value} {below : List Frame} {meth : Method} {c : Code} {H : Heap} {locs : List Loc} {cells slots : Nat} {Q : State → Prop}
variable {pc : Nat} {ls : Array Slot} {rest st0 : List Value} {a : Array Value} {D : va_G} {cy : Nat → ClassId} {q : SE} {x0 m0 o0 top : Nat} {adC adR : Nat → Nat} {gC gR0 : CG} {C R : MM}
theorem LW.fC (h : LW D cy s x0 m0 o0 adC gC adR gR0 top C R H locs) : ∀ z, va_A (wd adC cy gC C) H.size z → lwA s z := by
  intro z hz
  rcases hz with ⟨k, e, hz⟩ | hz
  · exact h.2.1.2 k (z, e) (ap_l hz)
  · exact Nat.le_trans h.2.2.2.2.1.1 hz
theorem LW.fR (h : LW D cy s x0 m0 o0 adC gC adR gR0 top C R H locs) : ∀ z, va_A (wd adR cy gR0 R) H.size z → lwA s z := by
  intro z hz
  rcases hz with ⟨k, e, hz⟩ | hz
  · exact h.2.1.2 _ (z, e) (ap_r hz)
  · exact Nat.le_trans h.2.2.2.2.1.1 hz
/-- what stood before the law stands -/
theorem LW.S (h : LW D cy s x0 m0 o0 adC gC adR gR0 top C R H locs) (A : Nat → Prop) : va_S A s.heap H [] := ⟨h.2.2.2.2.1.1, fun z hz _ => h.2.2.2.2.1.2.1 z hz (Nat.not_le.mpr hz), fun _ hz => by cases hz⟩
theorem pC {As : List Value} (h : LW D cy s x0 m0 o0 adC gC adR gR0 top C R H locs) (hK : va_K D vwCl (tyL cy) s) (hG : SF q (lwA s) s s.heap) : PreV s H RX11 x0 (va_Pc (.ref x0 :: As) (Wd D adC cy (va_A (wd adC cy gC C) H.size) gC q C)) As := by
  have hF := h.fC
  have hS := h.S (va_A (wd adC cy gC C) H.size)
  obtain ⟨hP, hD, h1, h2, h3, h4, h5, ⟨k1, rfl⟩, h7⟩ := h
  exact pV (T := TX11) (locs := []) (vP_l hP) hK (vD_l hD).self h1 (hG.narrow hF) hS k1 (by decide) rfl
theorem pR0 {As : List Value} (h : LW D cy s x0 m0 o0 adC gC adR gR0 top C R H locs) (hK : va_K D vwCl (tyL cy) s) (hG : SF q (lwA s) s s.heap) : PreV s H RX13 m0 (va_Pc (.ref m0 :: As) (Wd D adR cy (va_A (wd adR cy gR0 R) H.size) gR0 q R)) As := by
  have hF := h.fR
  have hS := h.S (va_A (wd adR cy gR0 R) H.size)
  obtain ⟨hP, hD, h1, h2, h3, h4, h5, h6, ⟨k1, rfl⟩, h7⟩ := h
  exact pV (T := TX13) (locs := []) (vP_r hP) hK (vD_r hD).self h2 (hG.narrow hF) hS k1 (by decide) rfl
theorem LW.nC {C2 : MM} {H1 : Heap} {locs1 : List Loc} (h : LW D cy s x0 m0 o0 adC gC adR gR0 top C R H locs) (hk : ∀ z : Nat, z < H.size → ¬ va_A (wd adC cy gC C) H.size z → H1[z]? = H[z]?) (hS1 : va_S (lwA s) s.heap H1 locs1) (hP1 : va_P D vwCl (wd adC cy gC C2) H1) (hD1 : va_D (va_A (wd adC cy gC C) H.size) (wd adC cy gC C2)) (hT1 : WT gC C2) : LW D cy s x0 m0 o0 adC gC adR gR0 top C2 R H1 locs1 := by
  have hF := h.fC
  obtain ⟨hP, hD, h1, h2, h3, h4⟩ := h
  obtain ⟨a1, a2⟩ := fr_l hP hD hF hk hP1 hD1
  exact ⟨a1, a2, hT1, h2, hS1, h4⟩
theorem LW.nR {R2 : MM} {H1 : Heap} {locs1 : List Loc} (h : LW D cy s x0 m0 o0 adC gC adR gR0 top C R H locs) (hk : ∀ z : Nat, z < H.size → ¬ va_A (wd adR cy gR0 R) H.size z → H1[z]? = H[z]?) (hS1 : va_S (lwA s) s.heap H1 locs1) (hP1 : va_P D vwCl (wd adR cy gR0 R2) H1) (hD1 : va_D (va_A (wd adR cy gR0 R) H.size) (wd adR cy gR0 R2)) (hT1 : WT gR0 R2) : LW D cy s x0 m0 o0 adC gC adR gR0 top C R2 H1 locs1 := by
  have hF := h.fR
  obtain ⟨hP, hD, h1, h2, h3, h4⟩ := h
  obtain ⟨a1, a2⟩ := fr_r hP hD hF hk hP1 hD1
  exact ⟨a1, a2, h1, hT1, hS1, h4⟩
theorem lwC_i {Z : Int32} {C2 : MM} (h : LW D cy s x0 m0 o0 adC gC adR gR0 top C R H locs) (hr : va_Run p l e R0 s m args below meth c H locs cells slots 0 0 (F0 m pc ls st0) rest (va_Qi (fun r u => r = Z ∧ u = C2) (Wd D adC cy (va_A (wd adC cy gC C) H.size) gC q) (va_A (wd adC cy gC C) H.size) a) (va_A (wd adC cy gC C) H.size))
    (kk : ∀ (H : Heap) (locs : List Loc), LW D cy s x0 m0 o0 adC gC adR gR0 top C2 R H locs → W p l e R0 s m args below meth c H locs cells slots Q (F0 m (pc + 3) ls (.int Z :: rest))) : W p l e R0 s m args below meth c H locs cells slots Q (F0 m pc ls st0) := by
  refine va_calli hr h.2.2.2.2.1 (fun z _ hz => h.fC z hz) h.fC (fun r u t H1 locs1 ht hvm hw hB hz1 hk1 hS1 => ?_)
  obtain ⟨rfl, rfl⟩ := hw
  obtain ⟨hP1, -, hD1, hT1, -⟩ := hB
  rw [ht] at hP1
  exact kk H1 locs1 (h.nC hk1 hS1 hP1 hD1 hT1)
theorem lwC_z {Z : Int32} {C2 : MM} (h : LW D cy s x0 m0 o0 adC gC adR gR0 top C R H locs) (hr : va_Run p l e R0 s m args below meth c H locs cells slots 0 0 (F0 m pc ls st0) rest (va_Qi (fun r u => r = Z ∧ u = C2 ∧ zb r) (Wd D adC cy (va_A (wd adC cy gC C) H.size) gC q) (va_A (wd adC cy gC C) H.size) a) (va_A (wd adC cy gC C) H.size))
    (kk : ∀ (H : Heap) (locs : List Loc), LW D cy s x0 m0 o0 adC gC adR gR0 top C2 R H locs → W p l e R0 s m args below meth c H locs cells slots Q (F0 m (pc + 3) ls (.int Z :: rest))) : W p l e R0 s m args below meth c H locs cells slots Q (F0 m pc ls st0) := by
  refine va_calli hr h.2.2.2.2.1 (fun z _ hz => h.fC z hz) h.fC (fun r u t H1 locs1 ht hvm hw hB hz1 hk1 hS1 => ?_)
  obtain ⟨rfl, rfl, -⟩ := hw
  obtain ⟨hP1, -, hD1, hT1, -⟩ := hB
  rw [ht] at hP1
  exact kk H1 locs1 (h.nC hk1 hS1 hP1 hD1 hT1)
theorem lwC_l {Z : Int64} {C2 : MM} (h : LW D cy s x0 m0 o0 adC gC adR gR0 top C R H locs) (hr : va_Run p l e R0 s m args below meth c H locs cells slots 0 0 (F0 m pc ls st0) rest (va_Ql (fun r u => r = Z ∧ u = C2) (Wd D adC cy (va_A (wd adC cy gC C) H.size) gC q) (va_A (wd adC cy gC C) H.size) a) (va_A (wd adC cy gC C) H.size))
    (kk : ∀ (H : Heap) (locs : List Loc), LW D cy s x0 m0 o0 adC gC adR gR0 top C2 R H locs → W p l e R0 s m args below meth c H locs cells slots Q (F0 m (pc + 3) ls (.long Z :: rest))) : W p l e R0 s m args below meth c H locs cells slots Q (F0 m pc ls st0) := by
  refine va_calll hr h.2.2.2.2.1 (fun z _ hz => h.fC z hz) h.fC (fun r u t H1 locs1 ht hvm hw hB hz1 hk1 hS1 => ?_)
  obtain ⟨rfl, rfl⟩ := hw
  obtain ⟨hP1, -, hD1, hT1, -⟩ := hB
  rw [ht] at hP1
  exact kk H1 locs1 (h.nC hk1 hS1 hP1 hD1 hT1)
theorem lwR_i {Z : Int32} {R2 : MM} (h : LW D cy s x0 m0 o0 adC gC adR gR0 top C R H locs) (hr : va_Run p l e R0 s m args below meth c H locs cells slots 0 0 (F0 m pc ls st0) rest (va_Qi (fun r u => r = Z ∧ u = R2) (Wd D adR cy (va_A (wd adR cy gR0 R) H.size) gR0 q) (va_A (wd adR cy gR0 R) H.size) a) (va_A (wd adR cy gR0 R) H.size))
    (kk : ∀ (H : Heap) (locs : List Loc), LW D cy s x0 m0 o0 adC gC adR gR0 top C R2 H locs → W p l e R0 s m args below meth c H locs cells slots Q (F0 m (pc + 3) ls (.int Z :: rest))) : W p l e R0 s m args below meth c H locs cells slots Q (F0 m pc ls st0) := by
  refine va_calli hr h.2.2.2.2.1 (fun z _ hz => h.fR z hz) h.fR (fun r u t H1 locs1 ht hvm hw hB hz1 hk1 hS1 => ?_)
  obtain ⟨rfl, rfl⟩ := hw
  obtain ⟨hP1, -, hD1, hT1, -⟩ := hB
  rw [ht] at hP1
  exact kk H1 locs1 (h.nR hk1 hS1 hP1 hD1 hT1)
theorem lwR_z {Z : Int32} {R2 : MM} (h : LW D cy s x0 m0 o0 adC gC adR gR0 top C R H locs) (hr : va_Run p l e R0 s m args below meth c H locs cells slots 0 0 (F0 m pc ls st0) rest (va_Qi (fun r u => r = Z ∧ u = R2 ∧ zb r) (Wd D adR cy (va_A (wd adR cy gR0 R) H.size) gR0 q) (va_A (wd adR cy gR0 R) H.size) a) (va_A (wd adR cy gR0 R) H.size))
    (kk : ∀ (H : Heap) (locs : List Loc), LW D cy s x0 m0 o0 adC gC adR gR0 top C R2 H locs → W p l e R0 s m args below meth c H locs cells slots Q (F0 m (pc + 3) ls (.int Z :: rest))) : W p l e R0 s m args below meth c H locs cells slots Q (F0 m pc ls st0) := by
  refine va_calli hr h.2.2.2.2.1 (fun z _ hz => h.fR z hz) h.fR (fun r u t H1 locs1 ht hvm hw hB hz1 hk1 hS1 => ?_)
  obtain ⟨rfl, rfl, -⟩ := hw
  obtain ⟨hP1, -, hD1, hT1, -⟩ := hB
  rw [ht] at hP1
  exact kk H1 locs1 (h.nR hk1 hS1 hP1 hD1 hT1)
theorem lwR_l {Z : Int64} {R2 : MM} (h : LW D cy s x0 m0 o0 adC gC adR gR0 top C R H locs) (hr : va_Run p l e R0 s m args below meth c H locs cells slots 0 0 (F0 m pc ls st0) rest (va_Ql (fun r u => r = Z ∧ u = R2) (Wd D adR cy (va_A (wd adR cy gR0 R) H.size) gR0 q) (va_A (wd adR cy gR0 R) H.size) a) (va_A (wd adR cy gR0 R) H.size))
    (kk : ∀ (H : Heap) (locs : List Loc), LW D cy s x0 m0 o0 adC gC adR gR0 top C R2 H locs → W p l e R0 s m args below meth c H locs cells slots Q (F0 m (pc + 3) ls (.long Z :: rest))) : W p l e R0 s m args below meth c H locs cells slots Q (F0 m pc ls st0) := by
  refine va_calll hr h.2.2.2.2.1 (fun z _ hz => h.fR z hz) h.fR (fun r u t H1 locs1 ht hvm hw hB hz1 hk1 hS1 => ?_)
  obtain ⟨rfl, rfl⟩ := hw
  obtain ⟨hP1, -, hD1, hT1, -⟩ := hB
  rw [ht] at hP1
  exact kk H1 locs1 (h.nR hk1 hS1 hP1 hD1 hT1)
/-- the reference's island: new cells behind it -/
theorem pRA {As : List Value} (h : LW D cy s x0 m0 o0 adC gC adR gR0 top C R H locs) (hK : va_K D vwCl (tyL cy) s) (hG : SF q (lwA s) s s.heap) : PreV s H RX13 m0 (va_Pc (.ref m0 :: As) (WdA D adR cy (va_A (wd adR cy gR0 R) H.size) gR0 q R)) As := by
  obtain ⟨-, h2, h3⟩ := pR0 (As := As) h hK hG
  exact ⟨WdA.blind, h2, fun U hU hW => ⟨(h3 U hU hW).1, (h3 U hU hW).2, fun z hz => Or.inr (by rw [← hU]; exact hz)⟩⟩
theorem lwR_x {Z : Int32} {R2 : MM} (h : LW D cy s x0 m0 o0 adC gC adR gR0 top C R H locs) (hr : va_Run p l e R0 s m args below meth c H locs cells slots 32 330 (F0 m pc ls st0) rest (va_Qi (fun r u => r = Z ∧ u = R2) (WdX D adR cy (va_A (wd adR cy gR0 R) H.size) gR0 top q) (va_A (wd adR cy gR0 R) H.size) a) (va_A (wd adR cy gR0 R) H.size))
    (kk : ∀ (adR : Nat → Nat) (gR0 : CG) (top2 : Nat) (H : Heap) (locs : List Loc), LW D cy s x0 m0 o0 adC gC adR gR0 top2 C R2 H locs → W p l e R0 s m args below meth c H locs (cells + 32) (slots + 330) Q (F0 m (pc + 3) ls (.int Z :: rest))) : W p l e R0 s m args below meth c H locs cells slots Q (F0 m pc ls st0) := by
  refine va_calli hr h.2.2.2.2.1 (fun z _ hz => h.fR z hz) h.fR (fun r u t H1 locs1 ht hvm hw hB hz1 hk1 hS1 => ?_)
  obtain ⟨rfl, rfl⟩ := hw
  obtain ⟨ad', g', top', b1, b2, b3, b4, hP1, -, hD1, hT1, -⟩ := hB
  rw [ht] at hP1
  refine kk ad' g' (max top' 123) H1 locs1 ?_
  have hF := h.fR
  obtain ⟨hP, hD, h1, h2, h3, h4, h5, h6, ⟨h7, h8⟩, h9⟩ := h
  obtain ⟨a1, a2⟩ := fr_r hP hD hF hk1 hP1 hD1
  exact ⟨a1, a2, h1, hT1, hS1, fun x hx => Nat.le_trans (b3 x hx) (Nat.le_max_left _ _), Nat.le_max_right _ _, h6, ⟨b2 _ _ _ h7, (b1 118 h7.1).trans h8⟩, h9⟩
/-- the law's helper for led -/
theorem pCL {x1 x2 : Int32} (h : LW D cy s x0 m0 o0 adC gC adR gR0 top C R H locs) (hK : va_K D vwCl (tyL cy) s) (hG : SF q (lwA s) s s.heap) (hX : LXT (lwA s) s s.heap) : PreS s H (va_Pc [.ref x0, .int x1, .int x2, .ref o0] (fun U => Wd D adC cy (va_A (wd adC cy gC C) H.size) gC q C U ∧ LXT (va_A (wd adC cy gC C) H.size) U U.heap)) [.ref x0, .int x1, .int x2, .ref o0] := by
  have hF := h.fC
  have hS := h.S (va_A (wd adC cy gC C) H.size)
  obtain ⟨hP, hD, h1, h2, h3, h4, h5, h6⟩ := h
  exact ⟨WdL.blind, fun U hU hW => ⟨rfl, Wd.at (vP_l hP) hK (vD_l hD).self h1 (hG.narrow hF) hS hW hU, by rw [hU]; exact (hX.narrow hF).go hS hW⟩⟩
theorem lwC_e {Z : Int32} (h : LW D cy s x0 m0 o0 adC gC adR gR0 top C R H locs) (hr : va_Run p l e R0 s m args below meth c H locs cells slots 1 6 (F0 m pc ls st0) rest (va_Qi (fun r u => (Z = -1 ∧ r = 1 ∧ u = C) ∨ (¬ Z = -1 ∧ r = 0 ∧ u = pL C 118 (ix 0) Z.toInt64)) (Wd D adC cy (va_A (wd adC cy gC C) H.size) gC q) (va_A (wd adC cy gC C) H.size) a) (va_A (wd adC cy gC C) H.size))
    (k1 : Z = -1 → ∀ (H : Heap) (locs : List Loc), LW D cy s x0 m0 o0 adC gC adR gR0 top C R H locs → W p l e R0 s m args below meth c H locs (cells + 1) (slots + 6) Q (F0 m (pc + 3) ls (.int 1 :: rest)))
    (k2 : ¬ Z = -1 → ∀ (H : Heap) (locs : List Loc), LW D cy s x0 m0 o0 adC gC adR gR0 top (pL C 118 (ix 0) Z.toInt64) R H locs → W p l e R0 s m args below meth c H locs (cells + 1) (slots + 6) Q (F0 m (pc + 3) ls (.int 0 :: rest))) : W p l e R0 s m args below meth c H locs cells slots Q (F0 m pc ls st0) := by
  refine va_calli hr h.2.2.2.2.1 (fun z _ hz => h.fC z hz) h.fC (fun r u t H1 locs1 ht hvm hw hB hz1 hk1 hS1 => ?_)
  obtain ⟨hP1, -, hD1, hT1, -⟩ := hB
  rw [ht] at hP1
  rcases hw with ⟨hz, rfl, rfl⟩ | ⟨hz, rfl, rfl⟩
  · exact k1 hz H1 locs1 (h.nC hk1 hS1 hP1 hD1 hT1)
  · exact k2 hz H1 locs1 (h.nC hk1 hS1 hP1 hD1 hT1)
end LAWROWS
