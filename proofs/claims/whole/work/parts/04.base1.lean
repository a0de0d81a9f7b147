abbrev vwCl : List vw_C := [(RX0, TX0, 17), (RX1, TX1, 11), (RX2, TX2, 7), (RX3, TX3, 3), (RX4, TX4, 4), (RX5, TX5, 8), (RX6, TX6, 5), (RX7, TX7, 7), (RX8, TX8, 2), (RX9, TX9, 5), (RX10, TX10, 3), (RX11, TX11, 8), (RX12, TX12, 48), (RX13, TX13, 29)]
/-! THE MEMORY OF BOTH SYSTEMS, as one value: ints, longs, references, each by address and place; and what cells there are -/
abbrev MM : Type := (Nat → Nat → Int32) × (Nat → Nat → Int64) × (Nat → Nat → Option Nat)
/-- the addresses, the kind of each (0 .. 13 a class, 14 byte[], 15 int[], 16 long[], 17 boolean[], 18 .. 23 arrays of objects), the lengths -/
abbrev CG : Type := List Nat × (Nat → Nat) × (Nat → Nat)
/-- addresses of the static tables, of the texts, of their bytes -/
abbrev SE : Type := (Nat → Nat) × (Nat → Nat) × (Nat → Nat)
def gI (M : MM) (a k : Nat) : Int32 := M.1 a k
def gL (M : MM) (a k : Nat) : Int64 := M.2.1 a k
def gR (M : MM) (a k : Nat) : Option Nat := M.2.2 a k
def dR (M : MM) (a k : Nat) : Nat := (M.2.2 a k).getD 0
def up2 {α : Type} (f : Nat → Nat → α) (a k : Nat) (v : α) : Nat → Nat → α := fun b j => if b = a then (if j = k then v else f b j) else f b j
def pI (M : MM) (a k : Nat) (v : Int32) : MM := (up2 M.1 a k v, M.2)
def pL (M : MM) (a k : Nat) (v : Int64) : MM := (M.1, up2 M.2.1 a k v, M.2.2)
def pR (M : MM) (a k : Nat) (v : Option Nat) : MM := (M.1, M.2.1, up2 M.2.2 a k v)
theorem up2_self {α : Type} (f : Nat → Nat → α) (a k : Nat) (v : α) : up2 f a k v a k = v := by simp [up2]
theorem up2_ne {α : Type} (f : Nat → Nat → α) {a k b j : Nat} (v : α) (h : b = a → j ≠ k) : up2 f a k v b j = f b j := by
  unfold up2
  by_cases hb : b = a
  · rw [if_pos hb, if_neg (h hb)]
  · rw [if_neg hb]
def vv (M : MM) (a k t : Nat) : Value := match t with
  | 0 => .int (gI M a k)
  | 1 => .long (gL M a k)
  | _ => va_rf (gR M a k)
def fv (M : MM) (a : Nat) : Nat → List Nat → List Value
  | _, [] => []
  | k, t :: r => vv M a k t :: fv M a (k + 1) r
theorem fv_get (M : MM) (a : Nat) : ∀ (lay : List Nat) (k j : Nat), (fv M a k lay)[j]? = (lay[j]?).map (fun t => vv M a (k + j) t)
  | [], k, j => by simp [fv]
  | t :: r, k, 0 => by simp [fv]
  | t :: r, k, j + 1 => by
    simp only [fv, List.getElem?_cons_succ]
    rw [fv_get M a r (k + 1) j, show k + 1 + j = k + (j + 1) by omega]
theorem fv_len (M : MM) (a : Nat) : ∀ (lay : List Nat) (k : Nat), (fv M a k lay).length = lay.length
  | [], k => rfl
  | t :: r, k => by simp [fv, fv_len M a r (k + 1)]
theorem fv_set {M M' : MM} {a : Nat} {lay : List Nat} {j t : Nat} {v : Value} (hj : lay[j]? = some t) (hv : vv M' a j t = v) (ho : ∀ i t' : Nat, i ≠ j → vv M' a i t' = vv M a i t') : (fv M a 0 lay).set j v = fv M' a 0 lay := by
  apply List.ext_getElem?
  intro i
  have hl : j < (fv M a 0 lay).length := by rw [fv_len]; exact (List.getElem?_eq_some_iff.mp hj).1
  by_cases h : i = j
  · subst h
    rw [List.getElem?_set_self hl, fv_get, hj, ← hv]
    simp
  · rw [List.getElem?_set_ne (Ne.symm h), fv_get, fv_get]
    cases lay[i]? with
    | none => rfl
    | some t' => simp only [Option.map_some, Nat.zero_add]; rw [ho i t' h]
theorem fv_same {M M' : MM} {a : Nat} (lay : List Nat) (ho : ∀ i t' : Nat, vv M' a i t' = vv M a i t') : fv M' a 0 lay = fv M a 0 lay := by
  apply List.ext_getElem?
  intro i
  rw [fv_get, fv_get]
  cases lay[i]? with
  | none => rfl
  | some t' => simp only [Option.map_some, Nat.zero_add]; rw [ho i t']
/-- what the places of each class hold: 0 a number, 1 a long, 2 a reference -/
def lays : List (List Nat) := [[2, 2, 2, 2, 2, 2, 2, 2, 0, 0, 0, 0, 0, 0, 0, 0, 0], [0, 0, 0, 0, 0, 0, 0, 0, 0, 0, 0], [2, 2, 2, 2, 0, 0, 0], [0, 0, 2], [2, 2, 2, 0], [0, 0, 0, 0, 0, 0, 0, 0], [0, 0, 0, 0, 2], [2, 0, 0, 0, 0, 0, 1], [0, 0], [0, 0, 0, 0, 0], [0, 0, 0], [2, 2, 2, 2, 2, 2, 2, 0],
  [0, 0, 0, 0, 0, 0, 0, 0, 0, 2, 2, 2, 2, 2, 2, 2, 2, 2, 2, 2, 2, 2, 2, 2, 2, 2, 2, 0, 0, 0, 0, 0, 0, 0, 0, 2, 2, 2, 2, 2, 2, 2, 2, 2, 2, 2, 2, 2], [0, 0, 0, 2, 2, 2, 0, 0, 0, 0, 0, 0, 0, 0, 0, 1, 0, 0, 0, 0, 0, 0, 0, 0, 0, 0, 2, 2, 2]]
def arE (M : MM) (a t : Nat) : (Nat → Int32) ⊕ (Nat → Int64) ⊕ (Nat → UInt32) ⊕ (Nat → UInt64) ⊕ (Nat → Option Nat) := if t = 16 then .inr (.inl (gL M a)) else if t < 18 then .inl (gI M a) else .inr (.inr (.inr (.inr (gR M a))))
def ent (cy : Nat → ClassId) (g : CG) (M : MM) (a : Nat) : va_E :=
  if g.2.1 a < 14 then .inr (g.2.1 a, fv M a 0 (lays.getD (g.2.1 a) [])) else .inl (cy (g.2.1 a), g.2.2 a, arE M a (g.2.1 a))
def wd (cy : Nat → ClassId) (g : CG) (M : MM) : va_W := va_pl g.1 (ent cy g M)
theorem ent_ne {cy : Nat → ClassId} {g : CG} {M M' : MM} {b : Nat} (h1 : M'.1 b = M.1 b) (h2 : M'.2.1 b = M.2.1 b) (h3 : M'.2.2 b = M.2.2 b) : ent cy g M' b = ent cy g M b := by
  have e : ∀ i t : Nat, vv M' b i t = vv M b i t := fun i t => by
    unfold vv gI gL gR
    rw [h1, h2, h3]
  unfold ent
  rw [fv_same _ e]
  unfold arE gI gL gR
  rw [h1, h2, h3]
theorem up2_row {α : Type} (f : Nat → Nat → α) {a k b : Nat} (v : α) (h : b ≠ a) : up2 f a k v b = f b := by
  funext j
  exact up2_ne f v (fun q => absurd q h)
theorem up2_rowS {α : Type} (f : Nat → Nat → α) (a k : Nat) (v : α) : up2 f a k v a = fun j => if j = k then v else f a j := by
  funext j
  simp [up2]
theorem ent_ob {cy : Nat → ClassId} {g : CG} {M : MM} {a ci : Nat} (hk : g.2.1 a = ci) (hci : ci < 14) : ent cy g M a = .inr (ci, fv M a 0 (lays.getD ci [])) := by
  unfold ent
  rw [hk, if_pos hci]
theorem ent_ar {cy : Nat → ClassId} {g : CG} {M : MM} {a t : Nat} (hk : g.2.1 a = t) (hci : ¬ t < 14) : ent cy g M a = .inl (cy t, g.2.2 a, arE M a t) := by
  unfold ent
  rw [hk, if_neg hci]
/-- a cell's place in the list -/
theorem wd_at {cy : Nat → ClassId} {g : CG} {M : MM} {a : Nat} (h : a ∈ g.1) : ∃ k : Nat, (wd cy g M)[k]? = some (a, ent cy g M a) := va_pl_get (X := []) h
theorem wd_set {cy : Nat → ClassId} {g : CG} {M M' : MM} {A : Nat → Prop} {a k : Nat} {e : va_E} (hD : va_D A (wd cy g M)) (h : a ∈ g.1) (hk : (wd cy g M)[k]? = some (a, ent cy g M a)) (he : ent cy g M' a = e) (h1 : ∀ b, b ≠ a → M'.1 b = M.1 b) (h2 : ∀ b, b ≠ a → M'.2.1 b = M.2.1 b) (h3 : ∀ b, b ≠ a → M'.2.2 b = M.2.2 b) : (wd cy g M).set k (a, e) = wd cy g M' := by
  have hz := va_pl_set (X := []) (L := g.1) (f := ent cy g M) (e := e) hD h hk
  refine hz.trans (va_pl_congr fun b => ?_)
  by_cases hb : b = a
  · subst hb
    rw [va_up_self, he]
  · rw [va_up_ne _ _ hb]
    exact (ent_ne (h1 b hb) (h2 b hb) (h3 b hb)).symm
theorem wd_D {cy : Nat → ClassId} {g : CG} {M : MM} (M' : MM) {A : Nat → Prop} (hD : va_D A (wd cy g M)) : va_D A (wd cy g M') := by
  have key : ∀ (k : Nat) (q : Nat × va_E), (wd cy g M')[k]? = some q → (wd cy g M)[k]? = some (q.1, ent cy g M q.1) := by
    intro k q h
    unfold wd va_pl at h ⊢
    rw [List.getElem?_map] at h ⊢
    cases hz : g.1[k]? with
    | none => rw [hz] at h; cases h
    | some z => rw [hz] at h; cases h; rfl
  exact ⟨fun i j x y hi hj hxy => hD.1 i j _ _ (key i x hi) (key j y hj) hxy, fun k x hk => hD.2 k (x.1, ent cy g M x.1) (key k x hk)⟩
/-- the kinds and lengths of what references hold: fields that are never null, elements, fields that may be null -/
def rt (c k : Nat) : Option (Nat × Nat) :=
  if c = 0 then ([(23, 4), (18, 3), (19, 10), (22, 5), (20, 5), (21, 3), (19, 5), (15, 10)] : List (Nat × Nat))[k]? else
  if c = 2 then ([(7, 0), (16, 35), (15, 35), (15, 35)] : List (Nat × Nat))[k]? else
  if c = 3 then (if k = 2 then some (15, 6) else none) else
  if c = 4 then ([(15, 12), (15, 12), (15, 12)] : List (Nat × Nat))[k]? else
  if c = 6 then (if k = 4 then some (15, 100) else none) else
  if c = 7 then (if k = 0 then some (14, 900) else none) else
  if c = 11 then ([(7, 0), (2, 0), (4, 0), (1, 0), (1, 0), (0, 0), (0, 0)] : List (Nat × Nat))[k]? else
  if c = 12 then (([none, none, none, none, none, none, none, none, none, some (15, 4), some (15, 4), some (15, 4), some (15, 3), some (15, 3), some (15, 18), some (15, 10), some (15, 10), some (15, 10), some (15, 10), some (15, 10), some (15, 10), some (15, 10), some (15, 5), some (15, 5), some (15, 5), some (15, 5), some (15, 5), none, none, none, none, none, none, none, none, some (15, 5), some (15, 5), some (15, 5), some (15, 5), some (15, 3), some (15, 5), some (15, 5), some (15, 5), some (15, 5), some (17, 3), some (16, 35), some (15, 35), some (15, 35)] : List (Option (Nat × Nat)))[k]?).join else
  if c = 13 then (if k = 5 then some (14, 900) else if k = 26 ∨ k = 27 ∨ k = 28 then some (15, 12) else none) else none
def ek (c : Nat) : Option Nat := if c = 18 then some 3 else if c = 19 then some 5 else if c = 20 then some 6 else if c = 21 then some 8 else if c = 22 then some 9 else if c = 23 then some 10 else none
def nt (c k : Nat) : Option Nat := if c = 13 ∧ (k = 3 ∨ k = 4) then some 12 else none
def ok (g : CG) (b t z : Nat) : Prop := b ∈ g.1 ∧ g.2.1 b = t ∧ g.2.2 b = z
def WT (g : CG) (M : MM) : Prop := (∀ a ∈ g.1, ∀ k t z : Nat, rt (g.2.1 a) k = some (t, z) → ∃ b, gR M a k = some b ∧ ok g b t z) ∧ (∀ a ∈ g.1, ∀ k t : Nat, ek (g.2.1 a) = some t → k < g.2.2 a → ∃ b, gR M a k = some b ∧ ok g b t 0) ∧ (∀ a ∈ g.1, ∀ k t b : Nat, nt (g.2.1 a) k = some t → gR M a k = some b → ok g b t 0)
theorem WT.same {g : CG} {M M' : MM} (h : WT g M) (e : M'.2.2 = M.2.2) : WT g M' := by
  unfold WT gR at *
  rw [e]
  exact h
theorem WT.f {g : CG} {M : MM} (h : WT g M) {a c z : Nat} (ha : ok g a c z) (k : Nat) {t n : Nat} (hr : rt c k = some (t, n)) : va_rf (gR M a k) = .ref (dR M a k) ∧ ok g (dR M a k) t n := by
  obtain ⟨b, h1, h2⟩ := h.1 a ha.1 k t n (by rw [ha.2.1]; exact hr)
  have hd : dR M a k = b := by unfold dR; unfold gR at h1; rw [h1]; rfl
  rw [h1, hd]
  exact ⟨rfl, h2⟩
theorem WT.e {g : CG} {M : MM} (h : WT g M) {a c z : Nat} (ha : ok g a c z) {k : Nat} {t : Nat} (hr : ek c = some t) (hk : k < z) : va_rf (gR M a k) = .ref (dR M a k) ∧ ok g (dR M a k) t 0 := by
  obtain ⟨b, h1, h2⟩ := h.2.1 a ha.1 k t (by rw [ha.2.1]; exact hr) (by rw [ha.2.2]; exact hk)
  have hd : dR M a k = b := by unfold dR; unfold gR at h1; rw [h1]; rfl
  rw [h1, hd]
  exact ⟨rfl, h2⟩
theorem WT.n {g : CG} {M : MM} (h : WT g M) {a c z : Nat} (ha : ok g a c z) {k : Nat} {t b : Nat} (hr : nt c k = some t) (hb : gR M a k = some b) : ok g b t 0 := h.2.2 a ha.1 k t b (by rw [ha.2.1]; exact hr) hb
theorem WT.put {g : CG} {M : MM} (h : WT g M) {a c z : Nat} (ha : ok g a c z) {k b : Nat} (h1 : ∀ t n : Nat, rt c k = some (t, n) → ok g b t n) (h2 : ek c = none) (h3 : ∀ t : Nat, nt c k = some t → ok g b t 0) : WT g (pR M a k (some b)) := by
  refine ⟨fun a' ha' k' t n hr => ?_, fun a' ha' k' t hr hk => ?_, fun a' ha' k' t b' hr hb => ?_⟩
  · by_cases e : a' = a ∧ k' = k
    · obtain ⟨rfl, rfl⟩ := e
      exact ⟨b, up2_self _ _ _ _, h1 t n (by rw [← ha.2.1]; exact hr)⟩
    · obtain ⟨b', q1, q2⟩ := h.1 a' ha' k' t n hr
      exact ⟨b', (up2_ne _ _ (fun q1 q2 => e ⟨q1, q2⟩)).trans q1, q2⟩
  · by_cases e : a' = a
    · subst e
      rw [ha.2.1, h2] at hr
      cases hr
    · obtain ⟨b', q1, q2⟩ := h.2.1 a' ha' k' t hr hk
      exact ⟨b', (up2_ne _ _ (fun q1 _ => e q1)).trans q1, q2⟩
  · by_cases e : a' = a ∧ k' = k
    · obtain ⟨rfl, rfl⟩ := e
      have : b' = b := Option.some.inj (hb.symm.trans (up2_self _ _ _ _))
      subst this
      exact h3 t (by rw [← ha.2.1]; exact hr)
    · exact h.2.2 a' ha' k' t b' hr ((up2_ne _ _ (fun q1 q2 => e ⟨q1, q2⟩)).symm.trans hb)
/-- the array classes of the worlds -/
def tyL (cy : Nat → ClassId) : List (ClassId × FieldType) := [(cy 14, .byte), (cy 15, .int), (cy 16, .long), (cy 17, .boolean), (cy 18, .object "StoneWalk$Road"), (cy 19, .object "StoneWalk$Stone"), (cy 20, .object "StoneWalk$Story"), (cy 21, .object "StoneWalk$Teller"), (cy 22, .object "StoneWalk$Trial"), (cy 23, .object "StoneWalk$Way")]
/-- answers that may be wanting, one behind the other -/
def ob {α β : Type} (o : Option α) (k : α → Option β) : Option β := match o with
  | none => none
  | some x => k x
theorem ob_some {α β : Type} {o : Option α} {k : α → Option β} {r : β} (h : ob o k = some r) : ∃ x, o = some x ∧ k x = some r := by
  cases o with
  | none => cases h
  | some x => exact ⟨x, rfl, h⟩
theorem ob_some2 {α γ β : Type} {o : Option (α × γ)} {k : α × γ → Option β} {r : β} (h : ob o k = some r) : ∃ x y, o = some (x, y) ∧ k (x, y) = some r := by
  cases o with
  | none => cases h
  | some x => exact ⟨x.1, x.2, rfl, h⟩
def chk {β : Type} (c : Prop) [Decidable c] (o : Option β) : Option β := if c then none else o
theorem chk_some {β : Type} {c : Prop} [Decidable c] {o : Option β} {r : β} (h : chk c o = some r) : ¬ c ∧ o = some r := by
  unfold chk at h
  by_cases hc : c
  · rw [if_pos hc] at h; cases h
  · rw [if_neg hc] at h; exact ⟨hc, h⟩
def oc {β : Type} (r : Option Nat) (A : Option β) (B : Nat → Option β) : Option β := match r with
  | none => A
  | some b => B b
theorem ite_t {β : Type} {c : Prop} [Decidable c] {x y z : β} (hc : c) (h : (if c then x else y) = z) : x = z := (if_pos hc).symm.trans h
theorem ite_f {β : Type} {c : Prop} [Decidable c] {x y z : β} (hc : ¬ c) (h : (if c then x else y) = z) : y = z := (if_neg hc).symm.trans h
abbrev ix (i : Int32) : Nat := i.toNatClampNeg
def zb (x : Int32) : Prop := x = 0 ∨ x = 1
theorem zb_0 : zb 0 := Or.inl rfl
theorem zb_1 : zb 1 := Or.inr rfl
theorem zb_n {x : Int32} (h : zb x) : narrow .boolean (.int x) = .int x := by
  rcases h with rfl | rfl <;> rfl
theorem zb_nar {x : Int32} (h : zb x) : vp_nar .boolean x = x := by
  rcases h with rfl | rfl <;> rfl
