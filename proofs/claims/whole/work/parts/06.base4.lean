/-! MAKING CELLS: a new name for each -/
def gN (g : CG) (o k n : Nat) : CG := (g.1 ++ [o], va_up g.2.1 o k, va_up g.2.2 o n)
def zM (M : MM) (o : Nat) : MM := (va_up M.1 o (fun _ => 0), va_up M.2.1 o (fun _ => 0), va_up M.2.2 o (fun _ => none))
theorem lays_rt : ∀ c, c < 14 → ∀ k, k < 48 → (lays.getD c [])[k]? = some 2 → (rt c k).isSome = true := by decide +kernel
theorem lays_len : ∀ c, c < 14 → (lays.getD c []).length ≤ 48 := by decide +kernel
theorem lays_t : ∀ c, c < 14 → ∀ k, k < 48 → ∀ t, (lays.getD c [])[k]? = some t → t = 0 ∨ t = 1 ∨ t = 2 := by
  intro c hc k hk t ht
  have h : ∀ c, c < 14 → ∀ k, k < 48 → ((lays.getD c [])[k]?).all (fun t => t == 0 || t == 1 || t == 2) = true := by decide +kernel
  have := h c hc k hk
  rw [ht] at this
  simp at this
  omega
theorem ek_in : ∀ t, t < 24 → ¬ t < 18 → (ek t).isSome = true := by decide +kernel
theorem mapN {ad : Nat → Nat} {o q : Nat} {r : Option Nat} (h : ∀ b, r = some b → b ≠ o) : r.map (va_up ad o q) = r.map ad := by
  cases r with
  | none => rfl
  | some b => simp only [Option.map_some]; rw [va_up_ne _ _ (h b rfl)]
theorem ent_old {ad : Nat → Nat} {cy : Nat → ClassId} {g : CG} {M : MM} {o k n q b : Nat} (hT : WT g M) (hb : b ∈ g.1) (ho : o ∉ g.1) : ent (va_up ad o q) cy (gN g o k n) (zM M o) b = ent ad cy g M b := by
  have hne : b ≠ o := fun h => ho (h ▸ hb)
  have e1 : ∀ i, gI (zM M o) b i = gI M b i := fun i => by unfold gI zM; exact congrFun (va_up_ne _ _ hne) i
  have e2 : ∀ i, gL (zM M o) b i = gL M b i := fun i => by unfold gL zM; exact congrFun (va_up_ne _ _ hne) i
  have e3 : ∀ i, gR (zM M o) b i = gR M b i := fun i => by unfold gR zM; exact congrFun (va_up_ne _ _ hne) i
  have eK : (gN g o k n).2.1 b = g.2.1 b := va_up_ne _ _ hne
  have eL : (gN g o k n).2.2 b = g.2.2 b := va_up_ne _ _ hne
  unfold ent
  rw [eK, eL]
  by_cases hc : g.2.1 b < 14
  · rw [if_pos hc, if_pos hc]
    congr 2
    apply List.ext_getElem?
    intro i
    rw [fv_get, fv_get]
    cases hz : (lays.getD (g.2.1 b) [])[i]? with
    | none => rfl
    | some t =>
      simp only [Option.map_some, Nat.zero_add]
      have hi : i < 48 := Nat.lt_of_lt_of_le (List.getElem?_eq_some_iff.mp hz).1 (lays_len _ hc)
      rcases lays_t _ hc i hi t hz with rfl | rfl | rfl
      · show some (Value.int (gI (zM M o) b i)) = some (Value.int (gI M b i)); rw [e1]
      · show some (Value.long (gL (zM M o) b i)) = some (Value.long (gL M b i)); rw [e2]
      · show some (va_rf ((gR (zM M o) b i).map _)) = some (va_rf ((gR M b i).map _))
        rw [e3, mapN]
        intro x hx
        obtain ⟨r, hr⟩ := Option.isSome_iff_exists.mp (lays_rt _ hc i hi hz)
        have := (hT.1 b hb i r.1 r.2 x hr hx).1
        exact fun h => ho (h ▸ this)
  · rw [if_neg hc, if_neg hc]
    congr 3
    unfold arE
    by_cases h16 : g.2.1 b = 16
    · rw [if_pos h16, if_pos h16]; congr 2; funext j; exact e2 j
    · rw [if_neg h16, if_neg h16]
      by_cases h18 : g.2.1 b < 18
      · rw [if_pos h18, if_pos h18]; congr 1; funext j; exact e1 j
      · rw [if_neg h18, if_neg h18]
        by_cases h24 : g.2.1 b < 24
        · rw [if_pos h24, if_pos h24]
          congr 4
          funext j
          rw [e3, mapN]
          intro x hx
          obtain ⟨r, hr⟩ := Option.isSome_iff_exists.mp (ek_in _ h24 h18)
          have := (hT.2 b hb j r x hr hx).1
          exact fun h => ho (h ▸ this)
        · rw [if_neg h24, if_neg h24]; congr 1; funext j; exact e1 j
theorem wd_push {ad : Nat → Nat} {cy : Nat → ClassId} {g : CG} {M : MM} {o k n q : Nat} {e : va_E} (hT : WT g M) (ho : o ∉ g.1) (he : ent (va_up ad o q) cy (gN g o k n) (zM M o) o = e) : wd ad cy g M ++ [(q, e)] = wd (va_up ad o q) cy (gN g o k n) (zM M o) := by
  unfold wd
  show _ = (g.1 ++ [o]).map _
  rw [List.map_append]
  congr 1
  · apply List.map_congr_left
    intro b hb
    have hne : b ≠ o := fun h => ho (h ▸ hb)
    rw [ent_old hT hb ho, va_up_ne _ _ hne]
  · simp only [List.map_cons, List.map_nil]
    rw [he, va_up_self]
theorem WT.new {g : CG} {M : MM} {o k n : Nat} (hT : WT g M) (ho : o ∉ g.1) : WT (gN g o k n) (zM M o) := by
  have up : ∀ {b t z : Nat}, ok g b t z → ok (gN g o k n) b t z := by
    intro b t z h
    have hne : b ≠ o := fun q => ho (q ▸ h.1)
    exact ⟨List.mem_append_left _ h.1, (va_up_ne _ _ hne).trans h.2.1, (va_up_ne _ _ hne).trans h.2.2⟩
  have zn : ∀ i b : Nat, gR (zM M o) o i = some b → False := fun i b h => by
    unfold gR zM at h
    simp [va_up] at h
  refine ⟨fun a ha i t z b hr hb => ?_, fun a ha i t b hr hb => ?_⟩
  · rcases List.mem_append.mp ha with h | h
    · have hne : a ≠ o := fun q => ho (q ▸ h)
      rw [show (gN g o k n).2.1 a = g.2.1 a from va_up_ne _ _ hne] at hr
      exact up (hT.1 a h i t z b hr ((congrFun (va_up_ne _ _ hne) i).symm.trans hb))
    · obtain rfl := List.mem_singleton.mp h
      exact (zn i b hb).elim
  · rcases List.mem_append.mp ha with h | h
    · have hne : a ≠ o := fun q => ho (q ▸ h)
      rw [show (gN g o k n).2.1 a = g.2.1 a from va_up_ne _ _ hne] at hr
      exact up (hT.2 a h i t b hr ((congrFun (va_up_ne _ _ hne) i).symm.trans hb))
    · obtain rfl := List.mem_singleton.mp h
      exact (zn i b hb).elim
theorem ok.up {g : CG} {o k n b t z : Nat} (h : ok g b t z) (ho : o ∉ g.1) : ok (gN g o k n) b t z := by
  have hne : b ≠ o := fun q => ho (q ▸ h.1)
  exact ⟨List.mem_append_left _ h.1, (va_up_ne _ _ hne).trans h.2.1, (va_up_ne _ _ hne).trans h.2.2⟩
theorem ok.nw {g : CG} {o k n : Nat} : ok (gN g o k n) o k n := ⟨List.mem_append_right _ (List.mem_singleton.mpr rfl), va_up_self _ _ _, va_up_self _ _ _⟩
/-- all names are at most t -/
def topA (g : CG) (t : Nat) : Prop := ∀ x ∈ g.1, x ≤ t
theorem topA.fr {g : CG} {t : Nat} (h : topA g t) : t + 1 ∉ g.1 := fun q => by have := h _ q; omega
theorem topA.nw {g : CG} {t k n : Nat} (h : topA g t) : topA (gN g (t + 1) k n) (t + 1) := fun x hx => by
  rcases List.mem_append.mp hx with q | q
  · have := h x q; omega
  · have := List.mem_singleton.mp q; omega
