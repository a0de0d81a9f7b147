/-! THE MEMORY OF BOTH SYSTEMS, as one value: ints, longs, references, each by address and place; and what cells there are -/
abbrev MM : Type := (Nat → Nat → Int32) × (Nat → Nat → Int64) × (Nat → Nat → Option Nat)
/-- the addresses, the kind of each (0 .. 13 a class, 14 byte[], 15 int[], 16 long[], 17 boolean[], 18 .. 23 arrays of objects), the lengths -/
abbrev CG : Type := List Nat × (Nat → Nat) × (Nat → Nat)
/-- addresses of the static tables, of the texts, of their bytes -/
abbrev SE : Type := (Nat → Nat) × (Nat → Nat) × (Nat → Nat)
def gI (M : MM) (a k : Nat) : Int32 := M.1 a k
def gL (M : MM) (a k : Nat) : Int64 := M.2.1 a k
def gR (M : MM) (a k : Nat) : Option Nat := M.2.2 a k
def up2 {α : Type} (f : Nat → Nat → α) (a k : Nat) (v : α) : Nat → Nat → α := fun b j => if b = a then (if j = k then v else f b j) else f b j
def pI (M : MM) (a k : Nat) (v : Int32) : MM := (up2 M.1 a k v, M.2)
def pL (M : MM) (a k : Nat) (v : Int64) : MM := (M.1, up2 M.2.1 a k v, M.2.2)
def pR (M : MM) (a k : Nat) (v : Option Nat) : MM := (M.1, M.2.1, up2 M.2.2 a k v)
theorem up2_self {α : Type} (f : Nat → Nat → α) (a k : Nat) (v : α) : up2 f a k v a k = v := by simp [up2]
theorem up2_ne {α : Type} (f : Nat → Nat → α) {a k b j : Nat} (v : α) (h : b = a → j ≠ k) : up2 f a k v b j = f b j := by
  unfold up2
  by_cases hb : b = a
  · rw [if_pos hb, if_neg (h hb)]
  · rw [if_neg hb]
def vv (ad : Nat → Nat) (M : MM) (a k t : Nat) : Value := match t with
  | 0 => .int (gI M a k)
  | 1 => .long (gL M a k)
  | _ => va_rf ((gR M a k).map ad)
def fv (ad : Nat → Nat) (M : MM) (a : Nat) : Nat → List Nat → List Value
  | _, [] => []
  | k, t :: r => vv ad M a k t :: fv ad M a (k + 1) r
theorem fv_get (ad : Nat → Nat) (M : MM) (a : Nat) : ∀ (lay : List Nat) (k j : Nat), (fv ad M a k lay)[j]? = (lay[j]?).map (fun t => vv ad M a (k + j) t)
  | [], k, j => by simp [fv]
  | t :: r, k, 0 => by simp [fv]
  | t :: r, k, j + 1 => by
    simp only [fv, List.getElem?_cons_succ]
    rw [fv_get ad M a r (k + 1) j, show k + 1 + j = k + (j + 1) by omega]
theorem fv_len (ad : Nat → Nat) (M : MM) (a : Nat) : ∀ (lay : List Nat) (k : Nat), (fv ad M a k lay).length = lay.length
  | [], k => rfl
  | t :: r, k => by simp [fv, fv_len ad M a r (k + 1)]
theorem fv_set {ad : Nat → Nat} {M M' : MM} {a : Nat} {lay : List Nat} {j t : Nat} {v : Value} (hj : lay[j]? = some t) (hv : vv ad M' a j t = v) (ho : ∀ i t' : Nat, i ≠ j → vv ad M' a i t' = vv ad M a i t') : (fv ad M a 0 lay).set j v = fv ad M' a 0 lay := by
  apply List.ext_getElem?
  intro i
  have hl : j < (fv ad M a 0 lay).length := by rw [fv_len]; exact (List.getElem?_eq_some_iff.mp hj).1
  by_cases h : i = j
  · subst h
    rw [List.getElem?_set_self hl, fv_get, hj, ← hv]
    simp
  · rw [List.getElem?_set_ne (Ne.symm h), fv_get, fv_get]
    cases lay[i]? with
    | none => rfl
    | some t' => simp only [Option.map_some, Nat.zero_add]; rw [ho i t' h]
theorem fv_same {ad : Nat → Nat} {M M' : MM} {a : Nat} (lay : List Nat) (ho : ∀ i t' : Nat, vv ad M' a i t' = vv ad M a i t') : fv ad M' a 0 lay = fv ad M a 0 lay := by
  apply List.ext_getElem?
  intro i
  rw [fv_get, fv_get]
  cases lay[i]? with
  | none => rfl
  | some t' => simp only [Option.map_some, Nat.zero_add]; rw [ho i t']
/-- what the places of each class hold: 0 a number, 1 a long, 2 a reference -/
def lays : List (List Nat) := [[2, 2, 2, 2, 2, 2, 2, 2, 0, 0, 0, 0, 0, 0, 0, 0, 0], [0, 0, 0, 0, 0, 0, 0, 0, 0, 0, 0], [2, 2, 2, 2, 0, 0, 0], [0, 0, 2], [2, 2, 2, 0], [0, 0, 0, 0, 0, 0, 0, 0], [0, 0, 0, 0, 2], [2, 0, 0, 0, 0, 0, 1], [0, 0], [0, 0, 0, 0, 0], [0, 0, 0], [2, 2, 2, 2, 2, 2, 2, 0],
  [0, 0, 0, 0, 0, 0, 0, 0, 0, 2, 2, 2, 2, 2, 2, 2, 2, 2, 2, 2, 2, 2, 2, 2, 2, 2, 2, 0, 0, 0, 0, 0, 0, 0, 0, 2, 2, 2, 2, 2, 2, 2, 2, 2, 2, 2, 2, 2], [0, 0, 0, 2, 2, 2, 0, 0, 0, 0, 0, 0, 0, 0, 0, 1, 0, 0, 0, 0, 0, 0, 0, 0, 0, 0, 2, 2, 2]]
def arE (ad : Nat → Nat) (M : MM) (a t : Nat) : (Nat → Int32) ⊕ (Nat → Int64) ⊕ (Nat → UInt32) ⊕ (Nat → UInt64) ⊕ (Nat → Option Nat) := if t = 16 then .inr (.inl (gL M a)) else if t < 18 then .inl (gI M a) else if t < 24 then .inr (.inr (.inr (.inr (fun j => (gR M a j).map ad)))) else .inl (gI M a)
def ent (ad : Nat → Nat) (cy : Nat → ClassId) (g : CG) (M : MM) (a : Nat) : va_E :=
  if g.2.1 a < 14 then .inr (g.2.1 a, fv ad M a 0 (lays.getD (g.2.1 a) [])) else .inl (cy (g.2.1 a), g.2.2 a, arE ad M a (g.2.1 a))
def wd (ad : Nat → Nat) (cy : Nat → ClassId) (g : CG) (M : MM) : va_W := g.1.map (fun o => (ad o, ent ad cy g M o))
theorem ent_ne {ad : Nat → Nat} {cy : Nat → ClassId} {g : CG} {M M' : MM} {b : Nat} (h1 : M'.1 b = M.1 b) (h2 : M'.2.1 b = M.2.1 b) (h3 : M'.2.2 b = M.2.2 b) : ent ad cy g M' b = ent ad cy g M b := by
  have e : ∀ i t : Nat, vv ad M' b i t = vv ad M b i t := fun i t => by
    unfold vv gI gL gR
    rw [h1, h2, h3]
  unfold ent
  rw [fv_same _ e]
  unfold arE gI gL gR
  rw [h1, h2, h3]
theorem up2_row {α : Type} (f : Nat → Nat → α) {a k b : Nat} (v : α) (h : b ≠ a) : up2 f a k v b = f b := by
  funext j
  exact up2_ne f v (fun q => absurd q h)
theorem up2_rowS {α : Type} (f : Nat → Nat → α) (a k : Nat) (v : α) : up2 f a k v a = fun j => if j = k then v else f a j := by
  funext j
  simp [up2]
theorem ent_ob {ad : Nat → Nat} {cy : Nat → ClassId} {g : CG} {M : MM} {a ci : Nat} (hk : g.2.1 a = ci) (hci : ci < 14) : ent ad cy g M a = .inr (ci, fv ad M a 0 (lays.getD ci [])) := by
  unfold ent
  rw [hk, if_pos hci]
theorem ent_ar {ad : Nat → Nat} {cy : Nat → ClassId} {g : CG} {M : MM} {a t : Nat} (hk : g.2.1 a = t) (hci : ¬ t < 14) : ent ad cy g M a = .inl (cy t, g.2.2 a, arE ad M a t) := by
  unfold ent
  rw [hk, if_neg hci]
/-- a cell's place in the list -/
theorem wd_at {ad : Nat → Nat} {cy : Nat → ClassId} {g : CG} {M : MM} {a : Nat} (h : a ∈ g.1) : ∃ k : Nat, (wd ad cy g M)[k]? = some (ad a, ent ad cy g M a) := by
  obtain ⟨k, hk⟩ := List.getElem?_of_mem h
  refine ⟨k, ?_⟩
  unfold wd
  rw [List.getElem?_map, hk]
  rfl
theorem wd_set {ad : Nat → Nat} {cy : Nat → ClassId} {g : CG} {M M' : MM} {A : Nat → Prop} {a k : Nat} {e : va_E} (hD : va_D A (wd ad cy g M)) (hk : (wd ad cy g M)[k]? = some (ad a, ent ad cy g M a)) (he : ent ad cy g M' a = e) (h1 : ∀ b, b ≠ a → M'.1 b = M.1 b) (h2 : ∀ b, b ≠ a → M'.2.1 b = M.2.1 b) (h3 : ∀ b, b ≠ a → M'.2.2 b = M.2.2 b) : a ∈ g.1 → (wd ad cy g M).set k (ad a, e) = wd ad cy g M' := by
  intro hm
  have key : ∀ (i b : Nat), g.1[i]? = some b → (wd ad cy g M)[i]? = some (ad b, ent ad cy g M b) := by
    intro i b h
    unfold wd
    rw [List.getElem?_map, h]
    rfl
  obtain ⟨j, hj⟩ := List.getElem?_of_mem hm
  have hkj : j = k := hD.1 j k _ _ (key j a hj) hk rfl
  subst hkj
  apply List.ext_getElem?
  intro i
  have hl : j < (wd ad cy g M).length := (List.getElem?_eq_some_iff.mp hk).1
  by_cases h : i = j
  · subst h
    rw [List.getElem?_set_self hl]
    unfold wd
    rw [List.getElem?_map, hj, ← he]
    rfl
  · rw [List.getElem?_set_ne (Ne.symm h)]
    cases hz : g.1[i]? with
    | none => unfold wd; rw [List.getElem?_map, List.getElem?_map, hz]; rfl
    | some b =>
      have hb : b ≠ a := fun q => by subst q; exact h (hD.1 i j _ _ (key i b hz) hk rfl)
      rw [key i b hz]
      unfold wd
      rw [List.getElem?_map, hz]
      show _ = some (ad b, ent ad cy g M' b)
      rw [ent_ne (h1 b hb) (h2 b hb) (h3 b hb)]
theorem wd_D {ad : Nat → Nat} {cy : Nat → ClassId} {g : CG} {M : MM} (M' : MM) {A : Nat → Prop} (hD : va_D A (wd ad cy g M)) : va_D A (wd ad cy g M') := by
  have key : ∀ (k : Nat) (q : Nat × va_E), (wd ad cy g M')[k]? = some q → ∃ e, (wd ad cy g M)[k]? = some (q.1, e) := by
    intro k q h
    unfold wd at h ⊢
    rw [List.getElem?_map] at h ⊢
    cases hz : g.1[k]? with
    | none => rw [hz] at h; cases h
    | some z => rw [hz] at h; cases h; exact ⟨_, rfl⟩
  refine ⟨fun i j x y hi hj hxy => ?_, fun k x hk => ?_⟩
  · obtain ⟨e1, h1⟩ := key i x hi
    obtain ⟨e2, h2⟩ := key j y hj
    exact hD.1 i j _ _ h1 h2 hxy
  · obtain ⟨e1, h1⟩ := key k x hk
    exact hD.2 k (x.1, e1) h1
/-- the kinds and lengths of what references hold: fields, elements -/
def rt (c k : Nat) : Option (Nat × Nat) :=
  if c = 0 then ([(23, 4), (18, 3), (19, 10), (22, 5), (20, 5), (21, 3), (19, 5), (15, 10)] : List (Nat × Nat))[k]? else
  if c = 2 then ([(7, 0), (16, 35), (15, 35), (15, 35)] : List (Nat × Nat))[k]? else
  if c = 3 then (if k = 2 then some (15, 6) else none) else
  if c = 4 then ([(15, 12), (15, 12), (15, 12)] : List (Nat × Nat))[k]? else
  if c = 6 then (if k = 4 then some (15, 100) else none) else
  if c = 7 then (if k = 0 then some (14, 900) else none) else
  if c = 11 then ([(7, 0), (2, 0), (4, 0), (1, 0), (1, 0), (0, 0), (0, 0)] : List (Nat × Nat))[k]? else
  if c = 12 then (([none, none, none, none, none, none, none, none, none, some (15, 4), some (15, 4), some (15, 4), some (15, 3), some (15, 3), some (15, 18), some (15, 10), some (15, 10), some (15, 10), some (15, 10), some (15, 10), some (15, 10), some (15, 10), some (15, 5), some (15, 5), some (15, 5), some (15, 5), some (15, 5), none, none, none, none, none, none, none, none, some (15, 5), some (15, 5), some (15, 5), some (15, 5), some (15, 3), some (15, 5), some (15, 5), some (15, 5), some (15, 5), some (17, 3), some (16, 35), some (15, 35), some (15, 35)] : List (Option (Nat × Nat)))[k]?).join else
  if c = 13 then (if k = 3 ∨ k = 4 then some (12, 0) else if k = 5 then some (14, 900) else if k = 26 ∨ k = 27 ∨ k = 28 then some (15, 12) else none) else none
def ek (c : Nat) : Option Nat := if c = 18 then some 3 else if c = 19 then some 5 else if c = 20 then some 6 else if c = 21 then some 8 else if c = 22 then some 9 else if c = 23 then some 10 else none
/-- a cell that is there, of a kind, of a length -/
def ok (g : CG) (b t z : Nat) : Prop := b ∈ g.1 ∧ g.2.1 b = t ∧ g.2.2 b = z
/-- what references hold is of its kind, where they hold something -/
def WT (g : CG) (M : MM) : Prop := (∀ a ∈ g.1, ∀ k t z b : Nat, rt (g.2.1 a) k = some (t, z) → gR M a k = some b → ok g b t z) ∧ (∀ a ∈ g.1, ∀ k t b : Nat, ek (g.2.1 a) = some t → gR M a k = some b → ok g b t 0)
theorem WT.same {g : CG} {M M' : MM} (h : WT g M) (e : M'.2.2 = M.2.2) : WT g M' := by
  unfold WT gR at *
  rw [e]
  exact h
theorem WT.f {g : CG} {M : MM} (h : WT g M) {a c z : Nat} (ha : ok g a c z) {k t n b : Nat} (hr : rt c k = some (t, n)) (hb : gR M a k = some b) : ok g b t n := h.1 a ha.1 k t n b (by rw [ha.2.1]; exact hr) hb
theorem WT.e {g : CG} {M : MM} (h : WT g M) {a c z : Nat} (ha : ok g a c z) {k t b : Nat} (hr : ek c = some t) (hb : gR M a k = some b) : ok g b t 0 := h.2 a ha.1 k t b (by rw [ha.2.1]; exact hr) hb
theorem WT.put {g : CG} {M : MM} (h : WT g M) {a c z : Nat} (ha : ok g a c z) {k b : Nat} (h1 : ∀ t n : Nat, rt c k = some (t, n) → ok g b t n) (h2 : ∀ t : Nat, ek c = some t → ok g b t 0) : WT g (pR M a k (some b)) := by
  refine ⟨fun a' ha' k' t n b' hr hb => ?_, fun a' ha' k' t b' hr hb => ?_⟩
  · by_cases e : a' = a ∧ k' = k
    · obtain ⟨rfl, rfl⟩ := e
      have : b' = b := Option.some.inj (hb.symm.trans (up2_self _ _ _ _))
      subst this
      exact h1 t n (by rw [← ha.2.1]; exact hr)
    · exact h.1 a' ha' k' t n b' hr ((up2_ne _ _ (fun q1 q2 => e ⟨q1, q2⟩)).symm.trans hb)
  · by_cases e : a' = a ∧ k' = k
    · obtain ⟨rfl, rfl⟩ := e
      have : b' = b := Option.some.inj (hb.symm.trans (up2_self _ _ _ _))
      subst this
      exact h2 t (by rw [← ha.2.1]; exact hr)
    · exact h.2 a' ha' k' t b' hr ((up2_ne _ _ (fun q1 q2 => e ⟨q1, q2⟩)).symm.trans hb)
/-- the array classes of the worlds -/
def tyL (cy : Nat → ClassId) : List (ClassId × FieldType) := [(cy 14, .byte), (cy 15, .int), (cy 16, .long), (cy 17, .boolean), (cy 18, .object "StoneWalk$Road"), (cy 19, .object "StoneWalk$Stone"), (cy 20, .object "StoneWalk$Story"), (cy 21, .object "StoneWalk$Teller"), (cy 22, .object "StoneWalk$Trial"), (cy 23, .object "StoneWalk$Way")]
/-- answers that may be wanting, one behind the other -/
def ob {α β : Type} (o : Option α) (k : α → Option β) : Option β := match o with
  | none => none
  | some x => k x
theorem ob_some {α β : Type} {o : Option α} {k : α → Option β} {r : β} (h : ob o k = some r) : ∃ x, o = some x ∧ k x = some r := by
  cases o with
  | none => cases h
  | some x => exact ⟨x, rfl, h⟩
theorem ob_some2 {α γ β : Type} {o : Option (α × γ)} {k : α × γ → Option β} {r : β} (h : ob o k = some r) : ∃ x y, o = some (x, y) ∧ k (x, y) = some r := by
  cases o with
  | none => cases h
  | some x => exact ⟨x.1, x.2, rfl, h⟩
def chk {β : Type} (c : Prop) [Decidable c] (o : Option β) : Option β := if c then none else o
theorem chk_some {β : Type} {c : Prop} [Decidable c] {o : Option β} {r : β} (h : chk c o = some r) : ¬ c ∧ o = some r := by
  unfold chk at h
  by_cases hc : c
  · rw [if_pos hc] at h; cases h
  · rw [if_neg hc] at h; exact ⟨hc, h⟩
def oc {β : Type} (r : Option Nat) (A : Option β) (B : Nat → Option β) : Option β := match r with
  | none => A
  | some b => B b
theorem oc_n {β : Type} {r : Option Nat} {x : Option β} {B : Nat → Option β} {z : Option β} (hr : r = none) (h : oc r x B = z) : x = z := by subst hr; exact h
theorem oc_s {β : Type} {r : Option Nat} {b : Nat} {x : Option β} {B : Nat → Option β} {z : Option β} (hr : r = some b) (h : oc r x B = z) : B b = z := by subst hr; exact h
/-- the loops' measure: more than any of them goes round -/
def FU : Nat := 3000
theorem ite_t {β : Type} {c : Prop} [Decidable c] {x y z : β} (hc : c) (h : (if c then x else y) = z) : x = z := (if_pos hc).symm.trans h
theorem ite_f {β : Type} {c : Prop} [Decidable c] {x y z : β} (hc : ¬ c) (h : (if c then x else y) = z) : y = z := (if_neg hc).symm.trans h
abbrev ix (i : Int32) : Nat := i.toNatClampNeg
def zb (x : Int32) : Prop := x = 0 ∨ x = 1
theorem zb_0 : zb 0 := Or.inl rfl
theorem zb_1 : zb 1 := Or.inr rfl
theorem zb_n {x : Int32} (h : zb x) : narrow .boolean (.int x) = .int x := by
  rcases h with rfl | rfl <;> rfl
theorem zb_nar {x : Int32} (h : zb x) : vp_nar .boolean x = x := by
  rcases h with rfl | rfl <;> rfl
def stA : List (String × String × List Int32) := [("StoneWalk", "ROOM", [4, 3, 10, 5, 5, 3, 5, 1, 1, 1]), ("StoneWalk$Way", "TOIL", [1, 2, 1, 3]), ("StoneWalk$Way", "BASE", [40, 60, 30, 90]), ("StoneWalk$Way", "WOOD_PER_TON", [0, 2, 4, 1]), ("StoneWalk$Way", "SWAY", [2, 1, 3, 0]), ("StoneWalk$Way", "HOLLOWED", [8, 1, 3, 6]), ("StoneWalk$Way", "TENTHS", [8, 1, 1, 4, 4, 2, 2, 7, 1, 2, 2, 6, 2, 2, 6, 2, 2, 6, 3, 2, 5, 2, 3, 5, 2, 3, 5, 6, 3, 1, 5, 4, 1, 5, 4, 1])]
def stv (t j : Nat) : Int32 := (stA.getD t ("", "", [])).2.2.getD j 0
def stl (t : Nat) : Nat := (stA.getD t ("", "", [])).2.2.length
def lenS : List Nat := [57, 26, 6, 4, 6, 6, 7, 4, 4, 4, 4, 33, 14, 2, 2, 2, 6, 5, 7, 17, 5, 4, 5, 8, 5, 5, 5, 5, 2, 74, 3, 4, 6, 5, 4, 6, 6, 5, 6, 3, 2, 4, 6, 4, 6, 7, 3, 5, 6, 5, 5, 4, 4, 4, 6, 4, 5]
def bytS : List (List Int32) := [[119, 97, 121, 32, 114, 111, 97, 100, 32, 115, 116, 97, 116, 117, 101, 32, 116, 114, 105, 97, 108, 32, 115, 116, 111, 114, 121, 32, 116, 101, 108, 108, 101, 114, 32, 116, 114, 121, 32, 108, 97, 110, 100, 32, 102, 105, 101, 108, 100, 115, 32, 104, 111, 117, 115, 101, 115], [119, 97, 108, 107, 101, 100, 32, 115, 108, 101, 100, 32, 114, 111, 108, 108, 101, 100, 32, 100, 114, 97, 103, 103, 101, 100], [119, 101, 105, 103, 104, 115], [112, 117, 108, 108], [104, 111, 108, 108, 111, 119], [115, 108, 111, 112, 101, 115], [117, 112, 32, 100, 111, 119, 110], [116, 111, 110, 115], [108, 101, 97, 110], [101, 100, 103, 101], [108, 105, 101, 115], [99, 117, 116, 32, 108, 97, 114, 103, 101, 32, 98, 117, 114, 105, 101, 100, 32, 115, 116, 111, 111, 100, 32, 116, 114, 105, 101, 100, 32, 108, 105, 101, 115], [102, 97, 99, 101, 32, 98, 97, 99, 107, 32, 115, 105, 100, 101], [111, 110], [97, 116], [111, 102], [112, 101, 111, 112, 108, 101], [121, 97, 114, 100, 115], [109, 105, 110, 117, 116, 101, 115], [102, 101, 108, 108, 101, 100, 32, 114, 97, 116, 115, 32, 102, 105, 114, 101, 115], [101, 118, 101, 114, 121], [121, 101, 97, 114], [109, 101, 97, 110, 115], [115, 116, 114, 97, 110, 103, 101, 114], [116, 114, 101, 101, 115], [103, 114, 111, 119, 115], [102, 101, 101, 100, 115], [104, 111, 108, 100, 115], [116, 111], [119, 97, 121, 32, 114, 111, 97, 100, 32, 115, 116, 97, 116, 117, 101, 32, 116, 114, 105, 97, 108, 32, 108, 97, 110, 100, 32, 102, 105, 101, 108, 100, 115, 32, 104, 111, 117, 115, 101, 115, 32, 115, 116, 111, 114, 121, 32, 116, 101, 108, 108, 101, 114, 32, 116, 114, 121, 32, 117, 112, 32, 100, 111, 119, 110, 32, 115, 116, 114, 97, 110, 103, 101, 114], [119, 97, 121], [114, 111, 97, 100], [115, 116, 97, 116, 117, 101], [116, 114, 105, 97, 108], [108, 97, 110, 100], [102, 105, 101, 108, 100, 115], [104, 111, 117, 115, 101, 115], [115, 116, 111, 114, 121], [116, 101, 108, 108, 101, 114], [116, 114, 121], [117, 112], [100, 111, 119, 110], [119, 97, 108, 107, 101, 100], [115, 108, 101, 100], [114, 111, 108, 108, 101, 100], [100, 114, 97, 103, 103, 101, 100], [99, 117, 116], [108, 97, 114, 103, 101], [98, 117, 114, 105, 101, 100], [115, 116, 111, 111, 100], [116, 114, 105, 101, 100], [102, 97, 99, 101], [98, 97, 99, 107], [115, 105, 100, 101], [102, 101, 108, 108, 101, 100], [114, 97, 116, 115], [102, 105, 114, 101, 115]]
def nS : Nat := 57
