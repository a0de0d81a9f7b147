section MAKE
variable {p : Program} {l : Launch} {e : Env} {R : Room} {s : State} {m : MethodId} {args : Array Value} {below : List Frame} {meth : Method} {c : Code} {H : Heap} {locs : List Loc} {cells slots : Nat} {Q : State → Prop}
variable {cc : ByteArray} {pc : Nat} {ls : Array Slot} {rest : List Value} {D : va_G} {ad : Nat → Nat} {cy : Nat → ClassId} {A : Nat → Prop} {g : CG} {q : SE} {M : MM} {H0 : Heap}
theorem gR_z {o b k : Nat} (h : b ≠ o) : gR (zM M o) b k = gR M b k := congrFun (va_up_ne _ _ h) k
theorem gR_p {a j b k : Nat} {v : Option Nat} (h : b = a → k ≠ j) : gR (pR M a j v) b k = gR M b k := up2_ne _ _ h
theorem gR_s {a j : Nat} {v : Option Nat} : gR (pR M a j v) a j = v := up2_self _ _ _ _
theorem topA.nw1 {t o k n : Nat} (h : topA g t) (ho : t + 1 = o) : topA (gN g o k n) o := by subst ho; exact h.nw
theorem ok.up1 {t o k n b kd z : Nat} (h : ok g b kd z) (htop : topA g t) (ho : t + 1 = o) : ok (gN g o k n) b kd z := h.up (by rw [← ho]; exact htop.fr)
theorem old_up {o x : Nat} (h : o ∉ g.1) : ∀ y ∈ g.1, va_up ad o x y = ad y := fun y hy => va_up_ne _ _ (fun z => h (z ▸ hy))
/-- new X -/
theorem r_new (hx : p.tables.exec = Jvm.exec) (hb : c.code = cc) {own C : String} {T : u_T} {N ci index t nL : Nat} {Ts : List Cond} (hts : ∀ w ∈ Ts, w.before args s = true) (hin : ∀ w ∈ u_ws C T N, w ∈ Ts) (ty : Nat → FieldType) (hty : ∀ k, k < N → parseFieldDescriptor (T k).2.2.1 = some (ty k)) (hown : s.vm.findClass own = some m.cls) (hcl : (Cond.classLink own index C).before args s = true) (hinst : (Cond.instantiable C N).before args s = true) (hini : (Cond.initialized C).before args s = true)
    (hP : va_P D vwCl (wd ad cy g M) H) (hK : va_K D vwCl (tyL cy) s) (hD : va_D A (wd ad cy g M)) (hT : WT g M) (hS : va_S A H0 H locs) (hA : ∀ z, H0.size ≤ z → A z) (hci : ci < 14) (hc : vwCl[ci]? = some (C, T, N)) {o : Nat} (htop : topA g t) (ho1 : t + 1 = o) (hfs : ∀ j, j < N → defaultValue (ty j) = vp_V (fv ad (zM M o) o 0 (lays.getD ci [])) j) (hfd : ∀ x : Nat, fv (va_up ad o x) (zM M o) o 0 (lays.getD ci []) = fv ad (zM M o) o 0 (lays.getD ci [])) (hcells : cells + 1 ≤ R.cells) (hslots : slots + N ≤ R.slots)
    (lvf : (Nat → Nat) → List (Nat × Value)) (hl : lv_has ls nL (lvf ad)) (hlv : ∀ ad' : Nat → Nat, (∀ y ∈ g.1, ad' y = ad y) → lvf ad' = lvf ad) (rf : (Nat → Nat) → List Value) (hrf : ∀ ad' : Nat → Nat, (∀ y ∈ g.1, ad' y = ad y) → rf ad' = rf ad) (hr : rest = rf ad) (hdg : decode cc pc = .ok (.new index, 3))
    (kk : ∀ (ad' : Nat → Nat) (H : Heap), (∀ y ∈ g.1, ad' y = ad y) → va_P D vwCl (wd ad' cy (gN g o ci 0) (zM M o)) H → va_D A (wd ad' cy (gN g o ci 0) (zM M o)) → WT (gN g o ci 0) (zM M o) → va_S A H0 H locs → lv_has ls nL (lvf ad') →
      W p l e R s m args below meth c H locs (cells + 1) (slots + N) Q (F0 m (pc + 3) ls (.ref (ad' o) :: rf ad'))) : W p l e R s m args below meth c H locs cells slots Q (F0 m pc ls rest) := by
  have hfr : o ∉ g.1 := by rw [← ho1]; exact htop.fr
  refine va_new hx hb hts hin ty hty hown hcl hinst hini hK hP hD hS hA hc hfs hcells hslots hdg (fun x H1 hP1 hD1 hS1 => ?_)
  have e := wd_push (ad := ad) (cy := cy) (q := x) (k := ci) (n := 0) hT hfr (by rw [ent_ob (ci := ci) (va_up_self _ _ _) hci, hfd])
  rw [e] at hP1 hD1
  have ho := old_up (ad := ad) (x := x) hfr
  have := kk (va_up ad o x) H1 ho hP1 hD1 (hT.new hfr) hS1 (by rw [hlv _ ho]; exact hl)
  rw [va_up_self, hrf _ ho, ← hr] at this
  exact this
/-- new int[n] and its like -/
theorem r_newa (hx : p.tables.exec = Jvm.exec) (hb : c.code = cc) {atype : ArrayType} (harr : (Cond.arrayClass (newarray.typeOf atype)).before args s = true) {ty : FieldType} (hty : newarray.typeOf atype = ty) {t kd t0 nL : Nat} {o : Nat} (htop : topA g t) (ho1 : t + 1 = o) (hkd : ¬ kd < 14) (ht0 : (tyL cy)[t0]? = some (cy kd, ty)) (hra : ∀ cA : ClassId, va_RA s cA ty → va_RA s (cy kd) ty → cA = cy kd)
    (hP : va_P D vwCl (wd ad cy g M) H) (hK : va_K D vwCl (tyL cy) s) (hD : va_D A (wd ad cy g M)) (hT : WT g M) (hS : va_S A H0 H locs) (hA : ∀ z, H0.size ≤ z → A z)
    {n : Int32} {N' : Nat} (ha : ∀ cA : ClassId, vp_cell cA (N', arE ad (zM M o) o kd) = arrV cA N' (fun _ => defaultValue ty)) (har : ∀ x : Nat, arE (va_up ad o x) (zM M o) o kd = arE ad (zM M o) o kd) (hn : ¬ n < 0) (hN : n.toNatClampNeg = N') (hbytes : N' * componentBytes ty ≤ 536870912) (hcells : cells + 1 ≤ R.cells) (hslots : slots + N' ≤ R.slots)
    (lvf : (Nat → Nat) → List (Nat × Value)) (hl : lv_has ls nL (lvf ad)) (hlv : ∀ ad' : Nat → Nat, (∀ y ∈ g.1, ad' y = ad y) → lvf ad' = lvf ad) (rf : (Nat → Nat) → List Value) (hrf : ∀ ad' : Nat → Nat, (∀ y ∈ g.1, ad' y = ad y) → rf ad' = rf ad) (hr : rest = rf ad) (hdg : decode cc pc = .ok (.newarray atype, 2))
    (kk : ∀ (ad' : Nat → Nat) (H : Heap), (∀ y ∈ g.1, ad' y = ad y) → va_P D vwCl (wd ad' cy (gN g o kd N') (zM M o)) H → va_D A (wd ad' cy (gN g o kd N') (zM M o)) → WT (gN g o kd N') (zM M o) → va_S A H0 H locs → lv_has ls nL (lvf ad') →
      W p l e R s m args below meth c H locs (cells + 1) (slots + N') Q (F0 m (pc + 2) ls (.ref (ad' o) :: rf ad'))) : W p l e R s m args below meth c H locs cells slots Q (F0 m pc ls (.int n :: rest)) := by
  have hfr : o ∉ g.1 := by rw [← ho1]; exact htop.fr
  refine va_newa hx hb harr hty hK hP hD hS hA ha hn hN hbytes hcells hslots hdg (fun x cA H1 hK1 hP1 hD1 hS1 => ?_)
  have hcA : cA = cy kd := hra cA (hK1.2 10 (cA, ty) rfl).2 (hK.2 t0 _ ht0).2
  subst hcA
  have e := wd_push (ad := ad) (cy := cy) (q := x) (k := kd) (n := N') hT hfr (by rw [ent_ar (t := kd) (va_up_self _ _ _) hkd, har, show (gN g o kd N').2.2 o = N' from va_up_self _ _ _])
  rw [e] at hP1 hD1
  have ho := old_up (ad := ad) (x := x) hfr
  have := kk (va_up ad o x) H1 ho hP1 hD1 (hT.new hfr) hS1 (by rw [hlv _ ho]; exact hl)
  rw [va_up_self, hrf _ ho, ← hr] at this
  exact this
/-- new X[n] -/
theorem r_newq (hx : p.tables.exec = Jvm.exec) (hb : c.code = cc) {own C : String} {index : Nat} (hown : s.vm.findClass own = some m.cls) (hclink : (Cond.classLink own index C).before args s = true) (hover : va_AO C s) {t kd t0 nL : Nat} {o : Nat} (htop : topA g t) (ho1 : t + 1 = o) (hkd : ¬ kd < 14 ∧ ¬ kd = 16 ∧ ¬ kd < 18 ∧ kd < 24) (ht0 : (tyL cy)[t0]? = some (cy kd, .object C))
    (hP : va_P D vwCl (wd ad cy g M) H) (hK : va_K D vwCl (tyL cy) s) (hD : va_D A (wd ad cy g M)) (hT : WT g M) (hS : va_S A H0 H locs) (hA : ∀ z, H0.size ≤ z → A z)
    {n : Int32} {N' : Nat} (hn : ¬ n < 0) (hN : n.toNatClampNeg = N') (hbytes : N' * 4 ≤ 536870912) (hcells : cells + 1 ≤ R.cells) (hslots : slots + N' ≤ R.slots)
    (lvf : (Nat → Nat) → List (Nat × Value)) (hl : lv_has ls nL (lvf ad)) (hlv : ∀ ad' : Nat → Nat, (∀ y ∈ g.1, ad' y = ad y) → lvf ad' = lvf ad) (rf : (Nat → Nat) → List Value) (hrf : ∀ ad' : Nat → Nat, (∀ y ∈ g.1, ad' y = ad y) → rf ad' = rf ad) (hr : rest = rf ad) (hdg : decode cc pc = .ok (.anewarray index, 3))
    (kk : ∀ (ad' : Nat → Nat) (H : Heap), (∀ y ∈ g.1, ad' y = ad y) → va_P D vwCl (wd ad' cy (gN g o kd N') (zM M o)) H → va_D A (wd ad' cy (gN g o kd N') (zM M o)) → WT (gN g o kd N') (zM M o) → va_S A H0 H locs → lv_has ls nL (lvf ad') →
      W p l e R s m args below meth c H locs (cells + 1) (slots + N') Q (F0 m (pc + 3) ls (.ref (ad' o) :: rf ad'))) : W p l e R s m args below meth c H locs cells slots Q (F0 m pc ls (.int n :: rest)) := by
  have hfr : o ∉ g.1 := by rw [← ho1]; exact htop.fr
  refine va_newq hx hb hown hclink hover hK hP hD hS hA hn hN hbytes hcells hslots hdg (fun x cA H1 hK1 hP1 hD1 hS1 => ?_)
  have hcA : cA = cy kd := by
    obtain ⟨k1, c1, -, -, -, f1⟩ := (hK1.2 10 (cA, .object C) rfl).2
    obtain ⟨k2, c2, -, -, -, f2⟩ := (hK.2 t0 _ ht0).2
    exact Option.some.inj (f1.symm.trans f2)
  subst hcA
  have z0 : ∀ x : Nat, arE (va_up ad o x) (zM M o) o kd = .inr (.inr (.inr (.inr (fun _ => none)))) := by
    intro x
    unfold arE
    rw [if_neg hkd.2.1, if_neg hkd.2.2.1, if_pos hkd.2.2.2]
    congr 4
    funext j
    show (gR (zM M o) o j).map _ = none
    unfold gR zM
    simp [va_up]
  have e := wd_push (ad := ad) (cy := cy) (q := x) (k := kd) (n := N') hT hfr (by rw [ent_ar (t := kd) (va_up_self _ _ _) hkd.1, z0, show (gN g o kd N').2.2 o = N' from va_up_self _ _ _])
  rw [e] at hP1 hD1
  have ho := old_up (ad := ad) (x := x) hfr
  have := kk (va_up ad o x) H1 ho hP1 hD1 (hT.new hfr) hS1 (by rw [hlv _ ho]; exact hl)
  rw [va_up_self, hrf _ ho, ← hr] at this
  exact this
/-- a final reference in a constructor -/
theorem r_putF (hx : p.tables.exec = Jvm.exec) (hb : c.code = cc) {own C : String} {T : u_T} {N ci z index : Nat} {Ts : List Cond} (hts : ∀ w ∈ Ts, w.before args s = true) (hin : ∀ w ∈ u_ws C T N, w ∈ Ts) (ty0 : Nat → FieldType) (hty : ∀ k, k < N → parseFieldDescriptor (T k).2.2.1 = some (ty0 k)) (hnm : ∀ a, a < N → ∀ b, b < N → a ≠ b → (T a).2.1 ≠ (T b).2.1) (hown : s.vm.findClass own = some m.cls) (hK : va_K D vwCl (tyL cy) s) (hP : va_P D vwCl (wd ad cy g M) H) (hD : va_D A (wd ad cy g M)) (hT : WT g M) (hS : va_S A H0 H locs) {a : Nat} (ha : ok g a ci z) (hci : ci < 14) (hc : vwCl[ci]? = some (C, T, N)) (k : Nat) (hk : k < N)
    (hlink : (Cond.fieldLink own index C (T k).2.1 (T k).2.2.1).before args s = true) (hself : (T k).1 = C) (hfin : (T k).2.2.2 = true) (hin2 : meth.name = "<init>") (hdecl : (T k).1 = own) {ty : FieldType} {v : Nat} (hd : parseFieldDescriptor (T k).2.2.1 = some ty) (hn : narrow ty (.ref (ad v)) = .ref (ad v)) (hfit : fits ty (.ref (ad v)) = true) (ht : (lays.getD ci [])[k]? = some 2) (hw1 : ∀ t n : Nat, rt ci k = some (t, n) → ok g v t n) (hw2 : ek ci = none) (hdg : decode cc pc = .ok (.putfield index, 3))
    (kk : ∀ (H : Heap) (locs : List Loc), va_P D vwCl (wd ad cy g (pR M a k (some v))) H → va_D A (wd ad cy g (pR M a k (some v))) → WT g (pR M a k (some v)) → va_S A H0 H locs → W p l e R s m args below meth c H locs cells slots Q (F0 m (pc + 3) ls rest)) : W p l e R s m args below meth c H locs cells slots Q (F0 m pc ls (.ref (ad v) :: .ref (ad a) :: rest)) := by
  obtain ⟨q0, hq0⟩ := wd_at (ad := ad) (cy := cy) (M := M) ha.1
  have hq := hq0
  rw [ent_ob ha.2.1 hci] at hq
  have e := wd_put (M' := pR M a k (some v)) (v := .ref (ad v)) hD ha hci hq0 ht (congrArg (fun z : Option Nat => va_rf (z.map ad)) (up2_self M.2.2 a k (some v))) (fun i t h => vv_R h) (fun _ _ => rfl) (fun _ _ => rfl) (fun b h => up2_row _ _ h)
  refine va_putF hx hb hts hin ty0 hty hnm hown hK hP hD hS q0 hq hc k hk hlink (fun x hx2 => by rw [hself] at hx2; exact hx2) hfin hin2 hdecl hd hn hfit (by rw [fv_len]; exact (List.getElem?_eq_some_iff.mp ht).1) hdg (fun H1 locs1 hP1 hD1 hS1 => ?_)
  rw [e] at hP1 hD1
  exact kk H1 locs1 hP1 hD1 (hT.put ha hw1 (fun t h => by rw [hw2] at h; cases h)) hS1
/-- an object into an array of objects -/
theorem r_aast (hx : p.tables.exec = Jvm.exec) (hb : c.code = cc) (hP : va_P D vwCl (wd ad cy g M) H) (hK : va_K D vwCl (tyL cy) s) (hD : va_D A (wd ad cy g M)) (hT : WT g M) (hS : va_S A H0 H locs) {a kd t0 n v ci : Nat} {r : vw_C} (ha : ok g a kd n) (hkd : ¬ kd < 14 ∧ ¬ kd = 16 ∧ ¬ kd < 18 ∧ kd < 24) (ht0 : (tyL cy)[t0]? = some (cy kd, .object r.1)) (hv : ok g v ci 0) (hci : ci < 14) (hc : vwCl[ci]? = some r) (hrt : ∀ i, rt kd i = none) (hek : ek kd = some ci) {i : Int32} (hin : ¬ (i < 0 ∨ n ≤ ix i)) (hdg : decode cc pc = .ok (.aastore, 1))
    (kk : ∀ (H : Heap) (locs : List Loc), va_P D vwCl (wd ad cy g (pR M a (ix i) (some v))) H → va_D A (wd ad cy g (pR M a (ix i) (some v))) → WT g (pR M a (ix i) (some v)) → va_S A H0 H locs → W p l e R s m args below meth c H locs cells slots Q (F0 m (pc + 1) ls rest)) : W p l e R s m args below meth c H locs cells slots Q (F0 m pc ls (.ref (ad v) :: .int i :: .ref (ad a) :: rest)) := by
  obtain ⟨q0, hq0, hq⟩ := wd_ar (ad := ad) (cy := cy) (M := M) ha hkd.1
  obtain ⟨qk, hqk⟩ := wd_at (ad := ad) (cy := cy) (M := M) hv.1
  rw [ent_ob hv.2.1 hci] at hqk
  have e0 : ∀ M : MM, arE ad M a kd = .inr (.inr (.inr (.inr (fun j => (gR M a j).map ad)))) := fun M => by unfold arE; rw [if_neg hkd.2.1, if_neg hkd.2.2.1, if_pos hkd.2.2.2]
  rw [e0] at hq
  have e := wd_st (M' := pR M a (ix i) (some v)) (x := .inr (.inr (.inr (.inr (va_up (fun j => (gR M a j).map ad) (ix i) (some (ad v))))))) hD ha hkd.1 hq0 (by
    rw [e0]
    congr 4
    funext j
    show (up2 M.2.2 a (ix i) (some v) a j).map ad = _
    by_cases hj : j = ix i
    · subst hj; rw [up2_self, va_up_self]; rfl
    · rw [up2_ne _ _ (fun _ => hj), va_up_ne _ _ hj]; rfl) (fun _ _ => rfl) (fun _ _ => rfl) (fun b h => up2_row _ _ h)
  refine va_astq hx hb hK hP hD hS q0 t0 qk ci hq ht0 hqk hc hin hdg (fun H1 locs1 hP1 hD1 hS1 => ?_)
  rw [e] at hP1 hD1
  exact kk H1 locs1 hP1 hD1 (hT.put ha (fun t n h => by rw [hrt] at h; cases h) (fun t h => by rw [hek] at h; cases h; exact hv)) hS1
/-- what a constructor leaves -/
def WdN (D : va_G) (ad : Nat → Nat) (cy : Nat → ClassId) (A : Nat → Prop) (g g' : CG) (top : Nat) (q : SE) (M : MM) (U : State) : Prop := ∃ ad' : Nat → Nat, (∀ y ∈ g.1, ad' y = ad y) ∧ Wd D ad' cy A g' q M U ∧ topA g' top
/-- what a constructor begins with -/
def WdA (D : va_G) (ad : Nat → Nat) (cy : Nat → ClassId) (A : Nat → Prop) (g : CG) (q : SE) (M : MM) (U : State) : Prop := Wd D ad cy A g q M U ∧ ∀ z, U.heap.size ≤ z → A z
theorem WdA.blind {av : List Value} : FrameBlind (va_Pc av (WdA D ad cy A g q M)) := by
  intro a U fr mk h
  obtain ⟨e, h1, h2⟩ := h
  have := Wd.blind (av := av) a U fr mk ⟨e, h1⟩
  exact ⟨this.1, this.2, h2⟩
theorem pSA {As : List Value} (hP : va_P D vwCl (wd ad cy g M) H) (hK : va_K D vwCl (tyL cy) s) (hD : va_D A (wd ad cy g M)) (hT : WT g M) (hG : SF q A s s.heap) (hS : va_S A s.heap H locs) (hA : ∀ z, s.heap.size ≤ z → A z) : PreS s H (va_Pc As (WdA D ad cy A g q M)) As :=
  ⟨WdA.blind, fun U hU hW => ⟨rfl, Wd.at hP hK hD hT hG hS hW hU, fun z hz => hA z (Nat.le_trans hS.1 (by rw [← hU]; exact hz))⟩⟩
theorem k_n {mc ms nL top : Nat} {g' : CG} {M' : MM} {st0 : List Value} {a : Array Value} (hr : va_Run p l e R s m args below meth c H locs cells slots mc ms (F0 m pc ls st0) rest (va_Qv (fun u => u = M') (WdN D ad cy A g g' top q) A a) A) (hS : va_S A s.heap H locs)
    (lvf : (Nat → Nat) → List (Nat × Value)) (hl : lv_has ls nL (lvf ad)) (hlv : ∀ ad' : Nat → Nat, (∀ y ∈ g.1, ad' y = ad y) → lvf ad' = lvf ad) (rf : (Nat → Nat) → List Value) (hrf : ∀ ad' : Nat → Nat, (∀ y ∈ g.1, ad' y = ad y) → rf ad' = rf ad) (hre : rest = rf ad)
    (kk : ∀ (ad' : Nat → Nat) (H : Heap) (locs : List Loc), (∀ y ∈ g.1, ad' y = ad y) → va_P D vwCl (wd ad' cy g' M') H → va_D A (wd ad' cy g' M') → WT g' M' → topA g' top → va_S A s.heap H locs → lv_has ls nL (lvf ad') → W p l e R s m args below meth c H locs (cells + mc) (slots + ms) Q (F0 m (pc + 3) ls (rf ad'))) : W p l e R s m args below meth c H locs cells slots Q (F0 m pc ls st0) := by
  refine va_callv hr hS (fun _ _ h => h) (fun _ h => h) (fun u t H1 locs1 ht hvm hw hB hz1 hk1 hS1 => ?_)
  obtain rfl := hw
  obtain ⟨ad', ho, ⟨hP1, -, hD1, hT1, -⟩, htp⟩ := hB
  rw [ht] at hP1
  have := kk ad' H1 locs1 ho hP1 hD1 hT1 htp hS1 (by rw [hlv _ ho]; exact hl)
  rw [hrf _ ho, ← hre] at this
  exact this
theorem r_nret {ad0 : Nat → Nat} {g0 : CG} {top mc ms : Nat} {M' : MM} {g' : CG} (hx : p.tables.exec = Jvm.exec) (hb : c.code = cc) (hr : meth.sig.returnType = none) (hlocks : meth.locks = false) (hP : va_P D vwCl (wd ad cy g M) H) (hK : va_K D vwCl (tyL cy) s) (hD : va_D A (wd ad cy g M)) (hT : WT g M) (hG : SF q A s s.heap) (hS : va_S A s.heap H locs) (hold : ∀ y ∈ g0.1, ad y = ad0 y) (htop : topA g top) (hM : M = M') (hg : g = g') (hdg : decode cc pc = .ok (.return_, 1)) :
    W p l e R s m args below meth c H locs mc ms (MQ below (va_Qv (fun u => u = M') (WdN D ad0 cy A g0 g' top q) A) args s mc ms A) (F0 m pc ls []) := by
  subst hM; subst hg
  exact W.vret hx hb hr (fun t ht hW => ⟨⟨M, rfl, rfl, ad, hold, Wd.at hP hK hD hT hG hS hW ht, htop⟩, hS.F ht⟩) hS.2.2 hdg
end MAKE
