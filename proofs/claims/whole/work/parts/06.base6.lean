/-! A METHOD THAT MAKES CELLS AND ANSWERS A NUMBER -/
section MAKEI
variable {p : Program} {l : Launch} {e : Env} {R : Room} {s : State} {m : MethodId} {args : Array Value} {below : List Frame} {meth : Method} {c : Code} {H : Heap} {locs : List Loc} {cells slots : Nat} {Q : State → Prop}
variable {cc : ByteArray} {pc : Nat} {ls : Array Slot} {rest : List Value} {D : va_G} {ad : Nat → Nat} {cy : Nat → ClassId} {A : Nat → Prop} {g : CG} {q : SE} {M M' : MM} {H0 : Heap}
/-- a call that makes nothing, wherever cells were made before -/
theorem k_iC {Z : Int32} {st0 : List Value} {a : Array Value} (hr : va_Run p l e R s m args below meth c H locs cells slots 0 0 (F0 m pc ls st0) rest (va_Qi (fun r u => r = Z ∧ u = M') (Wd D ad cy A g q) A a) A) (hS : va_S A s.heap H locs)
    (kk : ∀ (H : Heap) (locs : List Loc), va_P D vwCl (wd ad cy g M') H → va_D A (wd ad cy g M') → WT g M' → va_S A s.heap H locs → W p l e R s m args below meth c H locs cells slots Q (F0 m (pc + 3) ls (.int Z :: rest))) : W p l e R s m args below meth c H locs cells slots Q (F0 m pc ls st0) := by
  refine va_calli hr hS (fun _ _ h => h) (fun _ h => h) (fun r u t H1 locs1 ht hvm hw hB hz1 hk1 hS1 => ?_)
  obtain ⟨rfl, rfl⟩ := hw
  obtain ⟨hP1, -, hD1, hT1, -⟩ := hB
  rw [ht] at hP1
  exact kk H1 locs1 hP1 hD1 hT1 hS1
theorem k_vC {st0 : List Value} {a : Array Value} (hr : va_Run p l e R s m args below meth c H locs cells slots 0 0 (F0 m pc ls st0) rest (va_Qv (fun u => u = M') (Wd D ad cy A g q) A a) A) (hS : va_S A s.heap H locs)
    (kk : ∀ (H : Heap) (locs : List Loc), va_P D vwCl (wd ad cy g M') H → va_D A (wd ad cy g M') → WT g M' → va_S A s.heap H locs → W p l e R s m args below meth c H locs cells slots Q (F0 m (pc + 3) ls rest)) : W p l e R s m args below meth c H locs cells slots Q (F0 m pc ls st0) := by
  refine va_callv hr hS (fun _ _ h => h) (fun _ h => h) (fun u t H1 locs1 ht hvm hw hB hz1 hk1 hS1 => ?_)
  obtain rfl := hw
  obtain ⟨hP1, -, hD1, hT1, -⟩ := hB
  rw [ht] at hP1
  exact kk H1 locs1 hP1 hD1 hT1 hS1
/-- what such a method leaves -/
def WdX (D : va_G) (ad : Nat → Nat) (cy : Nat → ClassId) (A : Nat → Prop) (g : CG) (top : Nat) (q : SE) (M : MM) (U : State) : Prop := ∃ (ad' : Nat → Nat) (g' : CG) (top' : Nat), (∀ y ∈ g.1, ad' y = ad y) ∧ (∀ b kd z : Nat, ok g b kd z → ok g' b kd z) ∧ topA g' top' ∧ top' ≤ top + 32 ∧ Wd D ad' cy A g' q M U
theorem r_iretX {ad0 : Nat → Nat} {g0 : CG} {top0 top mc ms : Nat} (hx : p.tables.exec = Jvm.exec) (hb : c.code = cc) (hr : meth.sig.returnType = some .int) (hlocks : meth.locks = false) (hP : va_P D vwCl (wd ad cy g M) H) (hK : va_K D vwCl (tyL cy) s) (hD : va_D A (wd ad cy g M)) (hT : WT g M) (hG : SF q A s s.heap) (hS : va_S A s.heap H locs) (hold : ∀ y ∈ g0.1, ad y = ad0 y) (hokk : ∀ b kd z : Nat, ok g0 b kd z → ok g b kd z) (htop : topA g top) (htle : top ≤ top0 + 32) {v Z : Int32} (hv : v = Z) (hM : M = M') (hdg : decode cc pc = .ok (.ireturn, 1)) :
    W p l e R s m args below meth c H locs mc ms (MQ below (va_Qi (fun r u => r = Z ∧ u = M') (WdX D ad0 cy A g0 top0 q) A) args s mc ms A) (F0 m pc ls [.int v]) := by
  subst hv; subst hM
  exact W.iret hx hb hr (fun t ht hW => ⟨⟨v, M, rfl, ⟨rfl, rfl⟩, ad, g, top, hold, hokk, htop, htle, Wd.at hP hK hD hT hG hS hW ht⟩, hS.F ht⟩) hS.2.2 hdg
end MAKEI
