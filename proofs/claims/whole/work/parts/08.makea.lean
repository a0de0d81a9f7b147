theorem hdI_X10_init : yX10_init.cls ≠ "java/lang/invoke/MethodHandle" ∧ yX10_init.cls ≠ "java/lang/invoke/VarHandle" ∧ (parseMethodDescriptor yX10_init.desc).map (fun d => d.parameters.length) = some 0 := by decide +kernel
set_option maxHeartbeats 8000000 in
set_option maxRecDepth 100000 in
theorem c_X10_init {l : Launch} {D : va_G} {ad : Nat → Nat} {cy : Nat → ClassId} {A : Nat → Prop} {g : CG} {q : SE} (M : MM) (b : Nat) (k0 : ok g b 10 0) (htop : topA g b) : Met l yX10_init wsX10_init ({ frames := 1, cells := 0, slots := 0, locals := 12 }) (va_Pc [.ref (ad b)] (WdA D ad cy A g q M)) (va_Qv (fun u => u = f_X10_init M b) (WdN D ad cy A g (gF_X10_init g b) b q) A) 0 0 A := by
  refine Met.ofW (cc := cX10_init) (maxL := 1) (ret := none) (by decide) rfl ?_
  intro p e s m args below meth c s₁ B hml hv
  obtain ⟨rfl, ⟨hP, hK, hD, hT, hG⟩, hA⟩ := hv
  have hx := B.exec
  have hb := B.bytes
  have hr := B.returns
  have hts := atoms_spec (ws := wsX10_init) B.pre
  have hown : s.vm.findClass RX10 = some m.cls := findClass_of_methodNamed B.named
  have hlocks := B.notSynchronized
  have hin : meth.name = "<init>" := (name_of_methodNamed B.named B.method).1
  have hS : va_S A s.heap s.heap [] := va_S.rf
  have hl := lv_entry ([.ref (ad b)]) (n := 1) (Nat.le_of_ble_eq_true rfl)
  rw [lg_entry_eq]
  generalize (lg_sl ([.ref (ad b)]) ++ List.replicate (1 - (lg_sl ([.ref (ad b)])).length) Slot.unset).toArray = ls at hl ⊢
  have hl : lv_has ls 1 [(0, .ref (ad b))] := hl
  have hold : ∀ y ∈ g.1, ad y = ad y := fun _ _ => rfl
  have hsub : ∀ y ∈ g.1, y ∈ g.1 := fun _ h => h
  refine lv_aload_n hx hb dX10_init_0 rfl (lv_at hl 0 rfl) ?_
  refine W.objInit hx hb hown (hts (.methodLink RX10 3 objectInit) (List.mem_of_getElem? (i := 1) (by decide +kernel))) (hts (.instanceMethod objectInit) (List.mem_of_getElem? (i := 2) (by decide +kernel))) (hts (.code objectInit ⟨#[0xb1]⟩ 1 none) (List.mem_of_getElem? (i := 3) (by decide +kernel))) rfl (by rw [hml]; exact hl.1) rfl dX10_init_1 (Nat.le_of_ble_eq_true rfl) (Nat.le_of_ble_eq_true rfl) ?_
  refine W.eq (g2 := F0 m 4 ls []) rfl ?_
  refine W.widen (k := 0) (n := 0) (Nat.le_of_ble_eq_true rfl) (Nat.le_of_ble_eq_true rfl) ?_
  exact r_nret hx hb hr hlocks hP hK hD hT hG hS hold htop rfl rfl dX10_init_4
theorem hdI_X5_init : yX5_init.cls ≠ "java/lang/invoke/MethodHandle" ∧ yX5_init.cls ≠ "java/lang/invoke/VarHandle" ∧ (parseMethodDescriptor yX5_init.desc).map (fun d => d.parameters.length) = some 0 := by decide +kernel
set_option maxHeartbeats 8000000 in
set_option maxRecDepth 100000 in
theorem c_X5_init {l : Launch} {D : va_G} {ad : Nat → Nat} {cy : Nat → ClassId} {A : Nat → Prop} {g : CG} {q : SE} (M : MM) (b : Nat) (k0 : ok g b 5 0) (htop : topA g b) : Met l yX5_init wsX5_init ({ frames := 1, cells := 0, slots := 0, locals := 12 }) (va_Pc [.ref (ad b)] (WdA D ad cy A g q M)) (va_Qv (fun u => u = f_X5_init M b) (WdN D ad cy A g (gF_X5_init g b) b q) A) 0 0 A := by
  refine Met.ofW (cc := cX5_init) (maxL := 1) (ret := none) (by decide) rfl ?_
  intro p e s m args below meth c s₁ B hml hv
  obtain ⟨rfl, ⟨hP, hK, hD, hT, hG⟩, hA⟩ := hv
  have hx := B.exec
  have hb := B.bytes
  have hr := B.returns
  have hts := atoms_spec (ws := wsX5_init) B.pre
  have hown : s.vm.findClass RX5 = some m.cls := findClass_of_methodNamed B.named
  have hlocks := B.notSynchronized
  have hin : meth.name = "<init>" := (name_of_methodNamed B.named B.method).1
  have hS : va_S A s.heap s.heap [] := va_S.rf
  have hl := lv_entry ([.ref (ad b)]) (n := 1) (Nat.le_of_ble_eq_true rfl)
  rw [lg_entry_eq]
  generalize (lg_sl ([.ref (ad b)]) ++ List.replicate (1 - (lg_sl ([.ref (ad b)])).length) Slot.unset).toArray = ls at hl ⊢
  have hl : lv_has ls 1 [(0, .ref (ad b))] := hl
  have hold : ∀ y ∈ g.1, ad y = ad y := fun _ _ => rfl
  have hsub : ∀ y ∈ g.1, y ∈ g.1 := fun _ h => h
  refine lv_aload_n hx hb dX5_init_0 rfl (lv_at hl 0 rfl) ?_
  refine W.objInit hx hb hown (hts (.methodLink RX5 3 objectInit) (List.mem_of_getElem? (i := 1) (by decide +kernel))) (hts (.instanceMethod objectInit) (List.mem_of_getElem? (i := 2) (by decide +kernel))) (hts (.code objectInit ⟨#[0xb1]⟩ 1 none) (List.mem_of_getElem? (i := 3) (by decide +kernel))) rfl (by rw [hml]; exact hl.1) rfl dX5_init_1 (Nat.le_of_ble_eq_true rfl) (Nat.le_of_ble_eq_true rfl) ?_
  refine W.eq (g2 := F0 m 4 ls []) rfl ?_
  refine W.widen (k := 0) (n := 0) (Nat.le_of_ble_eq_true rfl) (Nat.le_of_ble_eq_true rfl) ?_
  exact r_nret hx hb hr hlocks hP hK hD hT hG hS hold htop rfl rfl dX5_init_4
theorem hdI_X9_init : yX9_init.cls ≠ "java/lang/invoke/MethodHandle" ∧ yX9_init.cls ≠ "java/lang/invoke/VarHandle" ∧ (parseMethodDescriptor yX9_init.desc).map (fun d => d.parameters.length) = some 0 := by decide +kernel
set_option maxHeartbeats 8000000 in
set_option maxRecDepth 100000 in
theorem c_X9_init {l : Launch} {D : va_G} {ad : Nat → Nat} {cy : Nat → ClassId} {A : Nat → Prop} {g : CG} {q : SE} (M : MM) (b : Nat) (k0 : ok g b 9 0) (htop : topA g b) : Met l yX9_init wsX9_init ({ frames := 1, cells := 0, slots := 0, locals := 12 }) (va_Pc [.ref (ad b)] (WdA D ad cy A g q M)) (va_Qv (fun u => u = f_X9_init M b) (WdN D ad cy A g (gF_X9_init g b) b q) A) 0 0 A := by
  refine Met.ofW (cc := cX9_init) (maxL := 1) (ret := none) (by decide) rfl ?_
  intro p e s m args below meth c s₁ B hml hv
  obtain ⟨rfl, ⟨hP, hK, hD, hT, hG⟩, hA⟩ := hv
  have hx := B.exec
  have hb := B.bytes
  have hr := B.returns
  have hts := atoms_spec (ws := wsX9_init) B.pre
  have hown : s.vm.findClass RX9 = some m.cls := findClass_of_methodNamed B.named
  have hlocks := B.notSynchronized
  have hin : meth.name = "<init>" := (name_of_methodNamed B.named B.method).1
  have hS : va_S A s.heap s.heap [] := va_S.rf
  have hl := lv_entry ([.ref (ad b)]) (n := 1) (Nat.le_of_ble_eq_true rfl)
  rw [lg_entry_eq]
  generalize (lg_sl ([.ref (ad b)]) ++ List.replicate (1 - (lg_sl ([.ref (ad b)])).length) Slot.unset).toArray = ls at hl ⊢
  have hl : lv_has ls 1 [(0, .ref (ad b))] := hl
  have hold : ∀ y ∈ g.1, ad y = ad y := fun _ _ => rfl
  have hsub : ∀ y ∈ g.1, y ∈ g.1 := fun _ h => h
  refine lv_aload_n hx hb dX9_init_0 rfl (lv_at hl 0 rfl) ?_
  refine W.objInit hx hb hown (hts (.methodLink RX9 1 objectInit) (List.mem_of_getElem? (i := 1) (by decide +kernel))) (hts (.instanceMethod objectInit) (List.mem_of_getElem? (i := 2) (by decide +kernel))) (hts (.code objectInit ⟨#[0xb1]⟩ 1 none) (List.mem_of_getElem? (i := 3) (by decide +kernel))) rfl (by rw [hml]; exact hl.1) rfl dX9_init_1 (Nat.le_of_ble_eq_true rfl) (Nat.le_of_ble_eq_true rfl) ?_
  refine W.eq (g2 := F0 m 4 ls []) rfl ?_
  refine W.widen (k := 0) (n := 0) (Nat.le_of_ble_eq_true rfl) (Nat.le_of_ble_eq_true rfl) ?_
  exact r_nret hx hb hr hlocks hP hK hD hT hG hS hold htop rfl rfl dX9_init_4
theorem hdI_X8_init : yX8_init.cls ≠ "java/lang/invoke/MethodHandle" ∧ yX8_init.cls ≠ "java/lang/invoke/VarHandle" ∧ (parseMethodDescriptor yX8_init.desc).map (fun d => d.parameters.length) = some 0 := by decide +kernel
set_option maxHeartbeats 8000000 in
set_option maxRecDepth 100000 in
theorem c_X8_init {l : Launch} {D : va_G} {ad : Nat → Nat} {cy : Nat → ClassId} {A : Nat → Prop} {g : CG} {q : SE} (M : MM) (b : Nat) (k0 : ok g b 8 0) (htop : topA g b) : Met l yX8_init wsX8_init ({ frames := 1, cells := 0, slots := 0, locals := 12 }) (va_Pc [.ref (ad b)] (WdA D ad cy A g q M)) (va_Qv (fun u => u = f_X8_init M b) (WdN D ad cy A g (gF_X8_init g b) b q) A) 0 0 A := by
  refine Met.ofW (cc := cX8_init) (maxL := 1) (ret := none) (by decide) rfl ?_
  intro p e s m args below meth c s₁ B hml hv
  obtain ⟨rfl, ⟨hP, hK, hD, hT, hG⟩, hA⟩ := hv
  have hx := B.exec
  have hb := B.bytes
  have hr := B.returns
  have hts := atoms_spec (ws := wsX8_init) B.pre
  have hown : s.vm.findClass RX8 = some m.cls := findClass_of_methodNamed B.named
  have hlocks := B.notSynchronized
  have hin : meth.name = "<init>" := (name_of_methodNamed B.named B.method).1
  have hS : va_S A s.heap s.heap [] := va_S.rf
  have hl := lv_entry ([.ref (ad b)]) (n := 1) (Nat.le_of_ble_eq_true rfl)
  rw [lg_entry_eq]
  generalize (lg_sl ([.ref (ad b)]) ++ List.replicate (1 - (lg_sl ([.ref (ad b)])).length) Slot.unset).toArray = ls at hl ⊢
  have hl : lv_has ls 1 [(0, .ref (ad b))] := hl
  have hold : ∀ y ∈ g.1, ad y = ad y := fun _ _ => rfl
  have hsub : ∀ y ∈ g.1, y ∈ g.1 := fun _ h => h
  refine lv_aload_n hx hb dX8_init_0 rfl (lv_at hl 0 rfl) ?_
  refine W.objInit hx hb hown (hts (.methodLink RX8 1 objectInit) (List.mem_of_getElem? (i := 1) (by decide +kernel))) (hts (.instanceMethod objectInit) (List.mem_of_getElem? (i := 2) (by decide +kernel))) (hts (.code objectInit ⟨#[0xb1]⟩ 1 none) (List.mem_of_getElem? (i := 3) (by decide +kernel))) rfl (by rw [hml]; exact hl.1) rfl dX8_init_1 (Nat.le_of_ble_eq_true rfl) (Nat.le_of_ble_eq_true rfl) ?_
  refine W.eq (g2 := F0 m 4 ls []) rfl ?_
  refine W.widen (k := 0) (n := 0) (Nat.le_of_ble_eq_true rfl) (Nat.le_of_ble_eq_true rfl) ?_
  exact r_nret hx hb hr hlocks hP hK hD hT hG hS hold htop rfl rfl dX8_init_4
theorem hdI_X1_init : yX1_init.cls ≠ "java/lang/invoke/MethodHandle" ∧ yX1_init.cls ≠ "java/lang/invoke/VarHandle" ∧ (parseMethodDescriptor yX1_init.desc).map (fun d => d.parameters.length) = some 0 := by decide +kernel
set_option maxHeartbeats 8000000 in
set_option maxRecDepth 100000 in
theorem c_X1_init {l : Launch} {D : va_G} {ad : Nat → Nat} {cy : Nat → ClassId} {A : Nat → Prop} {g : CG} {q : SE} (M : MM) (b : Nat) (k0 : ok g b 1 0) (htop : topA g b) : Met l yX1_init wsX1_init ({ frames := 1, cells := 0, slots := 0, locals := 12 }) (va_Pc [.ref (ad b)] (WdA D ad cy A g q M)) (va_Qv (fun u => u = f_X1_init M b) (WdN D ad cy A g (gF_X1_init g b) b q) A) 0 0 A := by
  refine Met.ofW (cc := cX1_init) (maxL := 1) (ret := none) (by decide) rfl ?_
  intro p e s m args below meth c s₁ B hml hv
  obtain ⟨rfl, ⟨hP, hK, hD, hT, hG⟩, hA⟩ := hv
  have hx := B.exec
  have hb := B.bytes
  have hr := B.returns
  have hts := atoms_spec (ws := wsX1_init) B.pre
  have hown : s.vm.findClass RX1 = some m.cls := findClass_of_methodNamed B.named
  have hlocks := B.notSynchronized
  have hin : meth.name = "<init>" := (name_of_methodNamed B.named B.method).1
  have hS : va_S A s.heap s.heap [] := va_S.rf
  have hl := lv_entry ([.ref (ad b)]) (n := 1) (Nat.le_of_ble_eq_true rfl)
  rw [lg_entry_eq]
  generalize (lg_sl ([.ref (ad b)]) ++ List.replicate (1 - (lg_sl ([.ref (ad b)])).length) Slot.unset).toArray = ls at hl ⊢
  have hl : lv_has ls 1 [(0, .ref (ad b))] := hl
  have hold : ∀ y ∈ g.1, ad y = ad y := fun _ _ => rfl
  have hsub : ∀ y ∈ g.1, y ∈ g.1 := fun _ h => h
  refine lv_aload_n hx hb dX1_init_0 rfl (lv_at hl 0 rfl) ?_
  refine W.objInit hx hb hown (hts (.methodLink RX1 3 objectInit) (List.mem_of_getElem? (i := 1) (by decide +kernel))) (hts (.instanceMethod objectInit) (List.mem_of_getElem? (i := 2) (by decide +kernel))) (hts (.code objectInit ⟨#[0xb1]⟩ 1 none) (List.mem_of_getElem? (i := 3) (by decide +kernel))) rfl (by rw [hml]; exact hl.1) rfl dX1_init_1 (Nat.le_of_ble_eq_true rfl) (Nat.le_of_ble_eq_true rfl) ?_
  refine W.eq (g2 := F0 m 4 ls []) rfl ?_
  refine W.widen (k := 0) (n := 0) (Nat.le_of_ble_eq_true rfl) (Nat.le_of_ble_eq_true rfl) ?_
  exact r_nret hx hb hr hlocks hP hK hD hT hG hS hold htop rfl rfl dX1_init_4
theorem hdI_X3_init : yX3_init.cls ≠ "java/lang/invoke/MethodHandle" ∧ yX3_init.cls ≠ "java/lang/invoke/VarHandle" ∧ (parseMethodDescriptor yX3_init.desc).map (fun d => d.parameters.length) = some 0 := by decide +kernel
theorem ok_X3_init {g : CG} {b y kd z : Nat} (htop : topA g b) (h : ok g y kd z) : ok (gF_X3_init g b) y kd z ∧ topA (gF_X3_init g b) (b + 1) := by
  have h := h.up1 (k := 15) (n := 6) (o := b + 1) htop rfl
  have htop := htop.nw1 (k := 15) (n := 6) (o := b + 1) rfl
  exact ⟨h, htop⟩
theorem sub_X3_init {g : CG} {b y : Nat} (h : y ∈ g.1) : y ∈ (gF_X3_init g b).1 := by
  have h := gN_sub (o := b + 1) (k := 15) (n := 6) h
  exact h
theorem gR_X3_init {M : MM} {b y k : Nat} (h : y < b) : gR (f_X3_init M b) y k = gR M y k := by
  unfold f_X3_init
  refine (gR_p (by omega)).trans ?_
  refine (gR_z (by omega)).trans ?_
  rfl
set_option maxHeartbeats 8000000 in
set_option maxRecDepth 100000 in
theorem c_X3_init {l : Launch} {D : va_G} {ad : Nat → Nat} {cy : Nat → ClassId} {A : Nat → Prop} {g : CG} {q : SE} (M : MM) (b : Nat) (k0 : ok g b 3 0) (htop : topA g b) : Met l yX3_init wsX3_init ({ frames := 1, cells := 1, slots := 6, locals := 12 }) (va_Pc [.ref (ad b)] (WdA D ad cy A g q M)) (va_Qv (fun u => u = f_X3_init M b) (WdN D ad cy A g (gF_X3_init g b) (b + 1) q) A) 1 6 A := by
  refine Met.ofW (cc := cX3_init) (maxL := 1) (ret := none) (by decide) rfl ?_
  intro p e s m args below meth c s₁ B hml hv
  obtain ⟨rfl, ⟨hP, hK, hD, hT, hG⟩, hA⟩ := hv
  have hx := B.exec
  have hb := B.bytes
  have hr := B.returns
  have hts := atoms_spec (ws := wsX3_init) B.pre
  have hown : s.vm.findClass RX3 = some m.cls := findClass_of_methodNamed B.named
  have hlocks := B.notSynchronized
  have hin : meth.name = "<init>" := (name_of_methodNamed B.named B.method).1
  have in3 : ∀ w ∈ u_ws RX3 TX3 3, w ∈ wsX3_init := fun w h => List.mem_cons_of_mem _ (List.mem_append_right _ h)
  have hS : va_S A s.heap s.heap [] := va_S.rf
  have hl := lv_entry ([.ref (ad b)]) (n := 1) (Nat.le_of_ble_eq_true rfl)
  rw [lg_entry_eq]
  generalize (lg_sl ([.ref (ad b)]) ++ List.replicate (1 - (lg_sl ([.ref (ad b)])).length) Slot.unset).toArray = ls at hl ⊢
  have hl : lv_has ls 1 [(0, .ref (ad b))] := hl
  have hold : ∀ y ∈ g.1, ad y = ad y := fun _ _ => rfl
  have hsub : ∀ y ∈ g.1, y ∈ g.1 := fun _ h => h
  refine lv_aload_n hx hb dX3_init_0 rfl (lv_at hl 0 rfl) ?_
  refine W.objInit hx hb hown (hts (.methodLink RX3 3 objectInit) (List.mem_of_getElem? (i := 1) (by decide +kernel))) (hts (.instanceMethod objectInit) (List.mem_of_getElem? (i := 2) (by decide +kernel))) (hts (.code objectInit ⟨#[0xb1]⟩ 1 none) (List.mem_of_getElem? (i := 3) (by decide +kernel))) rfl (by rw [hml]; exact hl.1) rfl dX3_init_1 (Nat.le_of_ble_eq_true rfl) (Nat.le_of_ble_eq_true rfl) ?_
  refine W.eq (g2 := F0 m 4 ls []) rfl ?_
  refine lv_aload_n hx hb dX3_init_4 rfl (lv_at hl 0 rfl) ?_
  refine lv_bipush (v := 6) hx hb dX3_init_5 rfl ?_
  refine r_newa (atype := .int) (o := b + 1) (kd := 15) (t0 := 1) (N' := 6) hx hb (hts (.arrayClass .int) (List.mem_of_getElem? (i := 4) (by decide +kernel))) rfl htop rfl (by decide) rfl (fun cA h1 h2 => Option.some.inj (h1.symm.trans h2)) hP hK hD hT hS hA new_i (fun _ => arE_e (by decide)) (by decide) rfl (Nat.le_of_ble_eq_true rfl) (Nat.le_of_ble_eq_true rfl) (Nat.le_of_ble_eq_true rfl) (fun ad => [(0, .ref (ad b))]) hl (fun ad' hh => by simp only [hh _ k0.1]) (fun ad => [.ref (ad b)]) (fun ad' hh => by simp only [hh _ k0.1]) rfl dX3_init_7 (fun ad H hh hP hD hT hS hl => ?_)
  have k0 := k0.up1 (k := 15) (n := 6) htop rfl
  have htop := htop.nw1 (k := 15) (n := 6) (o := (b + 1)) rfl
  have k1 := ok.nwt htop
  have hold := fun (y : Nat) hy => (hh y (hsub y hy)).trans (hold y hy)
  have hsub := fun (y : Nat) hy => gN_sub (o := b + 1) (k := 15) (n := 6) (hsub y hy)
  refine r_putF (T := TX3) (v := b + 1) hx hb hts in3 tyX3 tyX3_ok nmX3 hown hK hP hD hT hS k0 (by decide) rfl 2 (by decide) (hts (.fieldLink RX3 9 "StoneWalk$Road" "slopes" "[I") (List.mem_of_getElem? (i := 5) (by decide +kernel))) rfl rfl hin rfl (tyX3_ok 2 (by decide)) rfl rfl rfl (fun t n ht => by cases ht; exact k1) rfl dX3_init_9 (fun H locs hP hD hT hS => ?_)
  have n0 := gR_s (M := (zM M (b + 1))) (a := b) (j := 2) (v := some (b + 1))
  refine W.widen (k := 1) (n := 6) (Nat.le_of_ble_eq_true rfl) (Nat.le_of_ble_eq_true rfl) ?_
  exact r_nret hx hb hr hlocks hP hK hD hT hG hS hold htop rfl rfl dX3_init_12
theorem hdI_X6_init : yX6_init.cls ≠ "java/lang/invoke/MethodHandle" ∧ yX6_init.cls ≠ "java/lang/invoke/VarHandle" ∧ (parseMethodDescriptor yX6_init.desc).map (fun d => d.parameters.length) = some 0 := by decide +kernel
theorem ok_X6_init {g : CG} {b y kd z : Nat} (htop : topA g b) (h : ok g y kd z) : ok (gF_X6_init g b) y kd z ∧ topA (gF_X6_init g b) (b + 1) := by
  have h := h.up1 (k := 15) (n := 100) (o := b + 1) htop rfl
  have htop := htop.nw1 (k := 15) (n := 100) (o := b + 1) rfl
  exact ⟨h, htop⟩
theorem sub_X6_init {g : CG} {b y : Nat} (h : y ∈ g.1) : y ∈ (gF_X6_init g b).1 := by
  have h := gN_sub (o := b + 1) (k := 15) (n := 100) h
  exact h
theorem gR_X6_init {M : MM} {b y k : Nat} (h : y < b) : gR (f_X6_init M b) y k = gR M y k := by
  unfold f_X6_init
  refine (gR_p (by omega)).trans ?_
  refine (gR_z (by omega)).trans ?_
  rfl
set_option maxHeartbeats 8000000 in
set_option maxRecDepth 100000 in
theorem c_X6_init {l : Launch} {D : va_G} {ad : Nat → Nat} {cy : Nat → ClassId} {A : Nat → Prop} {g : CG} {q : SE} (M : MM) (b : Nat) (k0 : ok g b 6 0) (htop : topA g b) : Met l yX6_init wsX6_init ({ frames := 1, cells := 1, slots := 100, locals := 12 }) (va_Pc [.ref (ad b)] (WdA D ad cy A g q M)) (va_Qv (fun u => u = f_X6_init M b) (WdN D ad cy A g (gF_X6_init g b) (b + 1) q) A) 1 100 A := by
  refine Met.ofW (cc := cX6_init) (maxL := 1) (ret := none) (by decide) rfl ?_
  intro p e s m args below meth c s₁ B hml hv
  obtain ⟨rfl, ⟨hP, hK, hD, hT, hG⟩, hA⟩ := hv
  have hx := B.exec
  have hb := B.bytes
  have hr := B.returns
  have hts := atoms_spec (ws := wsX6_init) B.pre
  have hown : s.vm.findClass RX6 = some m.cls := findClass_of_methodNamed B.named
  have hlocks := B.notSynchronized
  have hin : meth.name = "<init>" := (name_of_methodNamed B.named B.method).1
  have in6 : ∀ w ∈ u_ws RX6 TX6 5, w ∈ wsX6_init := fun w h => List.mem_cons_of_mem _ (List.mem_append_right _ h)
  have hS : va_S A s.heap s.heap [] := va_S.rf
  have hl := lv_entry ([.ref (ad b)]) (n := 1) (Nat.le_of_ble_eq_true rfl)
  rw [lg_entry_eq]
  generalize (lg_sl ([.ref (ad b)]) ++ List.replicate (1 - (lg_sl ([.ref (ad b)])).length) Slot.unset).toArray = ls at hl ⊢
  have hl : lv_has ls 1 [(0, .ref (ad b))] := hl
  have hold : ∀ y ∈ g.1, ad y = ad y := fun _ _ => rfl
  have hsub : ∀ y ∈ g.1, y ∈ g.1 := fun _ h => h
  refine lv_aload_n hx hb dX6_init_0 rfl (lv_at hl 0 rfl) ?_
  refine W.objInit hx hb hown (hts (.methodLink RX6 3 objectInit) (List.mem_of_getElem? (i := 1) (by decide +kernel))) (hts (.instanceMethod objectInit) (List.mem_of_getElem? (i := 2) (by decide +kernel))) (hts (.code objectInit ⟨#[0xb1]⟩ 1 none) (List.mem_of_getElem? (i := 3) (by decide +kernel))) rfl (by rw [hml]; exact hl.1) rfl dX6_init_1 (Nat.le_of_ble_eq_true rfl) (Nat.le_of_ble_eq_true rfl) ?_
  refine W.eq (g2 := F0 m 4 ls []) rfl ?_
  refine lv_aload_n hx hb dX6_init_4 rfl (lv_at hl 0 rfl) ?_
  refine lv_bipush (v := 100) hx hb dX6_init_5 rfl ?_
  refine r_newa (atype := .int) (o := b + 1) (kd := 15) (t0 := 1) (N' := 100) hx hb (hts (.arrayClass .int) (List.mem_of_getElem? (i := 4) (by decide +kernel))) rfl htop rfl (by decide) rfl (fun cA h1 h2 => Option.some.inj (h1.symm.trans h2)) hP hK hD hT hS hA new_i (fun _ => arE_e (by decide)) (by decide) rfl (Nat.le_of_ble_eq_true rfl) (Nat.le_of_ble_eq_true rfl) (Nat.le_of_ble_eq_true rfl) (fun ad => [(0, .ref (ad b))]) hl (fun ad' hh => by simp only [hh _ k0.1]) (fun ad => [.ref (ad b)]) (fun ad' hh => by simp only [hh _ k0.1]) rfl dX6_init_7 (fun ad H hh hP hD hT hS hl => ?_)
  have k0 := k0.up1 (k := 15) (n := 100) htop rfl
  have htop := htop.nw1 (k := 15) (n := 100) (o := (b + 1)) rfl
  have k1 := ok.nwt htop
  have hold := fun (y : Nat) hy => (hh y (hsub y hy)).trans (hold y hy)
  have hsub := fun (y : Nat) hy => gN_sub (o := b + 1) (k := 15) (n := 100) (hsub y hy)
  refine r_putF (T := TX6) (v := b + 1) hx hb hts in6 tyX6 tyX6_ok nmX6 hown hK hP hD hT hS k0 (by decide) rfl 4 (by decide) (hts (.fieldLink RX6 9 "StoneWalk$Story" "counts" "[I") (List.mem_of_getElem? (i := 5) (by decide +kernel))) rfl rfl hin rfl (tyX6_ok 4 (by decide)) rfl rfl rfl (fun t n ht => by cases ht; exact k1) rfl dX6_init_9 (fun H locs hP hD hT hS => ?_)
  have n0 := gR_s (M := (zM M (b + 1))) (a := b) (j := 4) (v := some (b + 1))
  refine W.widen (k := 1) (n := 100) (Nat.le_of_ble_eq_true rfl) (Nat.le_of_ble_eq_true rfl) ?_
  exact r_nret hx hb hr hlocks hP hK hD hT hG hS hold htop rfl rfl dX6_init_12
theorem hdI_X7_init : yX7_init.cls ≠ "java/lang/invoke/MethodHandle" ∧ yX7_init.cls ≠ "java/lang/invoke/VarHandle" ∧ (parseMethodDescriptor yX7_init.desc).map (fun d => d.parameters.length) = some 0 := by decide +kernel
theorem ok_X7_init {g : CG} {b y kd z : Nat} (htop : topA g b) (h : ok g y kd z) : ok (gF_X7_init g b) y kd z ∧ topA (gF_X7_init g b) (b + 1) := by
  have h := h.up1 (k := 14) (n := 900) (o := b + 1) htop rfl
  have htop := htop.nw1 (k := 14) (n := 900) (o := b + 1) rfl
  exact ⟨h, htop⟩
theorem sub_X7_init {g : CG} {b y : Nat} (h : y ∈ g.1) : y ∈ (gF_X7_init g b).1 := by
  have h := gN_sub (o := b + 1) (k := 14) (n := 900) h
  exact h
theorem gR_X7_init {M : MM} {b y k : Nat} (h : y < b) : gR (f_X7_init M b) y k = gR M y k := by
  unfold f_X7_init
  refine (gR_p (by omega)).trans ?_
  refine (gR_z (by omega)).trans ?_
  rfl
set_option maxHeartbeats 8000000 in
set_option maxRecDepth 100000 in
theorem c_X7_init {l : Launch} {D : va_G} {ad : Nat → Nat} {cy : Nat → ClassId} {A : Nat → Prop} {g : CG} {q : SE} (M : MM) (b : Nat) (k0 : ok g b 7 0) (htop : topA g b) : Met l yX7_init wsX7_init ({ frames := 1, cells := 1, slots := 900, locals := 12 }) (va_Pc [.ref (ad b)] (WdA D ad cy A g q M)) (va_Qv (fun u => u = f_X7_init M b) (WdN D ad cy A g (gF_X7_init g b) (b + 1) q) A) 1 900 A := by
  refine Met.ofW (cc := cX7_init) (maxL := 1) (ret := none) (by decide) rfl ?_
  intro p e s m args below meth c s₁ B hml hv
  obtain ⟨rfl, ⟨hP, hK, hD, hT, hG⟩, hA⟩ := hv
  have hx := B.exec
  have hb := B.bytes
  have hr := B.returns
  have hts := atoms_spec (ws := wsX7_init) B.pre
  have hown : s.vm.findClass RX7 = some m.cls := findClass_of_methodNamed B.named
  have hlocks := B.notSynchronized
  have hin : meth.name = "<init>" := (name_of_methodNamed B.named B.method).1
  have in7 : ∀ w ∈ u_ws RX7 TX7 7, w ∈ wsX7_init := fun w h => List.mem_cons_of_mem _ (List.mem_append_right _ h)
  have hS : va_S A s.heap s.heap [] := va_S.rf
  have hl := lv_entry ([.ref (ad b)]) (n := 1) (Nat.le_of_ble_eq_true rfl)
  rw [lg_entry_eq]
  generalize (lg_sl ([.ref (ad b)]) ++ List.replicate (1 - (lg_sl ([.ref (ad b)])).length) Slot.unset).toArray = ls at hl ⊢
  have hl : lv_has ls 1 [(0, .ref (ad b))] := hl
  have hold : ∀ y ∈ g.1, ad y = ad y := fun _ _ => rfl
  have hsub : ∀ y ∈ g.1, y ∈ g.1 := fun _ h => h
  refine lv_aload_n hx hb dX7_init_0 rfl (lv_at hl 0 rfl) ?_
  refine W.objInit hx hb hown (hts (.methodLink RX7 3 objectInit) (List.mem_of_getElem? (i := 1) (by decide +kernel))) (hts (.instanceMethod objectInit) (List.mem_of_getElem? (i := 2) (by decide +kernel))) (hts (.code objectInit ⟨#[0xb1]⟩ 1 none) (List.mem_of_getElem? (i := 3) (by decide +kernel))) rfl (by rw [hml]; exact hl.1) rfl dX7_init_1 (Nat.le_of_ble_eq_true rfl) (Nat.le_of_ble_eq_true rfl) ?_
  refine W.eq (g2 := F0 m 4 ls []) rfl ?_
  refine lv_aload_n hx hb dX7_init_4 rfl (lv_at hl 0 rfl) ?_
  refine lv_sipush (v := 900) hx hb dX7_init_5 rfl ?_
  refine r_newa (atype := .byte) (o := b + 1) (kd := 14) (t0 := 0) (N' := 900) hx hb (hts (.arrayClass .byte) (List.mem_of_getElem? (i := 4) (by decide +kernel))) rfl htop rfl (by decide) rfl (fun cA h1 h2 => Option.some.inj (h1.symm.trans h2)) hP hK hD hT hS hA new_b (fun _ => arE_e (by decide)) (by decide) rfl (Nat.le_of_ble_eq_true rfl) (Nat.le_of_ble_eq_true rfl) (Nat.le_of_ble_eq_true rfl) (fun ad => [(0, .ref (ad b))]) hl (fun ad' hh => by simp only [hh _ k0.1]) (fun ad => [.ref (ad b)]) (fun ad' hh => by simp only [hh _ k0.1]) rfl dX7_init_8 (fun ad H hh hP hD hT hS hl => ?_)
  have k0 := k0.up1 (k := 14) (n := 900) htop rfl
  have htop := htop.nw1 (k := 14) (n := 900) (o := (b + 1)) rfl
  have k1 := ok.nwt htop
  have hold := fun (y : Nat) hy => (hh y (hsub y hy)).trans (hold y hy)
  have hsub := fun (y : Nat) hy => gN_sub (o := b + 1) (k := 14) (n := 900) (hsub y hy)
  refine r_putF (T := TX7) (v := b + 1) hx hb hts in7 tyX7 tyX7_ok nmX7 hown hK hP hD hT hS k0 (by decide) rfl 0 (by decide) (hts (.fieldLink RX7 9 "StoneWalk$Tape" "bytes" "[B") (List.mem_of_getElem? (i := 5) (by decide +kernel))) rfl rfl hin rfl (tyX7_ok 0 (by decide)) rfl rfl rfl (fun t n ht => by cases ht; exact k1) rfl dX7_init_10 (fun H locs hP hD hT hS => ?_)
  have n0 := gR_s (M := (zM M (b + 1))) (a := b) (j := 0) (v := some (b + 1))
  refine W.widen (k := 1) (n := 900) (Nat.le_of_ble_eq_true rfl) (Nat.le_of_ble_eq_true rfl) ?_
  exact r_nret hx hb hr hlocks hP hK hD hT hG hS hold htop rfl rfl dX7_init_13
theorem hdI_X2_init : yX2_init.cls ≠ "java/lang/invoke/MethodHandle" ∧ yX2_init.cls ≠ "java/lang/invoke/VarHandle" ∧ (parseMethodDescriptor yX2_init.desc).map (fun d => d.parameters.length) = some 1 := by decide +kernel
theorem ok_X2_init {g : CG} {b y kd z : Nat} (htop : topA g b) (h : ok g y kd z) : ok (gF_X2_init g b) y kd z ∧ topA (gF_X2_init g b) (b + 3) := by
  have h := h.up1 (k := 16) (n := 35) (o := b + 1) htop rfl
  have htop := htop.nw1 (k := 16) (n := 35) (o := b + 1) rfl
  have h := h.up1 (k := 15) (n := 35) (o := b + 2) htop rfl
  have htop := htop.nw1 (k := 15) (n := 35) (o := b + 2) rfl
  have h := h.up1 (k := 15) (n := 35) (o := b + 3) htop rfl
  have htop := htop.nw1 (k := 15) (n := 35) (o := b + 3) rfl
  exact ⟨h, htop⟩
theorem sub_X2_init {g : CG} {b y : Nat} (h : y ∈ g.1) : y ∈ (gF_X2_init g b).1 := by
  have h := gN_sub (o := b + 1) (k := 16) (n := 35) h
  have h := gN_sub (o := b + 2) (k := 15) (n := 35) h
  have h := gN_sub (o := b + 3) (k := 15) (n := 35) h
  exact h
theorem gR_X2_init {M : MM} {b a1 y k : Nat} (h : y < b) : gR (f_X2_init M b a1) y k = gR M y k := by
  unfold f_X2_init
  refine (gR_p (by omega)).trans ?_
  refine (gR_p (by omega)).trans ?_
  refine (gR_z (by omega)).trans ?_
  refine (gR_p (by omega)).trans ?_
  refine (gR_z (by omega)).trans ?_
  refine (gR_p (by omega)).trans ?_
  refine (gR_z (by omega)).trans ?_
  rfl
set_option maxHeartbeats 8000000 in
set_option maxRecDepth 100000 in
theorem c_X2_init {l : Launch} {D : va_G} {ad : Nat → Nat} {cy : Nat → ClassId} {A : Nat → Prop} {g : CG} {q : SE} (M : MM) (b : Nat) (a1 : Nat) (k0 : ok g b 2 0) (ka1 : ok g a1 7 0) (htop : topA g b) : Met l yX2_init wsX2_init ({ frames := 1, cells := 3, slots := 105, locals := 12 }) (va_Pc [.ref (ad b), .ref (ad a1)] (WdA D ad cy A g q M)) (va_Qv (fun u => u = f_X2_init M b a1) (WdN D ad cy A g (gF_X2_init g b) (b + 3) q) A) 3 105 A := by
  refine Met.ofW (cc := cX2_init) (maxL := 2) (ret := none) (by decide) rfl ?_
  intro p e s m args below meth c s₁ B hml hv
  obtain ⟨rfl, ⟨hP, hK, hD, hT, hG⟩, hA⟩ := hv
  have hx := B.exec
  have hb := B.bytes
  have hr := B.returns
  have hts := atoms_spec (ws := wsX2_init) B.pre
  have hown : s.vm.findClass RX2 = some m.cls := findClass_of_methodNamed B.named
  have hlocks := B.notSynchronized
  have hin : meth.name = "<init>" := (name_of_methodNamed B.named B.method).1
  have in2 : ∀ w ∈ u_ws RX2 TX2 7, w ∈ wsX2_init := fun w h => List.mem_cons_of_mem _ (List.mem_append_right _ h)
  have hS : va_S A s.heap s.heap [] := va_S.rf
  have hl := lv_entry ([.ref (ad b), .ref (ad a1)]) (n := 2) (Nat.le_of_ble_eq_true rfl)
  rw [lg_entry_eq]
  generalize (lg_sl ([.ref (ad b), .ref (ad a1)]) ++ List.replicate (2 - (lg_sl ([.ref (ad b), .ref (ad a1)])).length) Slot.unset).toArray = ls at hl ⊢
  have hl : lv_has ls 2 [(0, .ref (ad b)), (1, .ref (ad a1))] := hl
  have hold : ∀ y ∈ g.1, ad y = ad y := fun _ _ => rfl
  have hsub : ∀ y ∈ g.1, y ∈ g.1 := fun _ h => h
  refine lv_aload_n hx hb dX2_init_0 rfl (lv_at hl 0 rfl) ?_
  refine W.objInit hx hb hown (hts (.methodLink RX2 3 objectInit) (List.mem_of_getElem? (i := 1) (by decide +kernel))) (hts (.instanceMethod objectInit) (List.mem_of_getElem? (i := 2) (by decide +kernel))) (hts (.code objectInit ⟨#[0xb1]⟩ 1 none) (List.mem_of_getElem? (i := 3) (by decide +kernel))) rfl (by rw [hml]; exact hl.1) rfl dX2_init_1 (Nat.le_of_ble_eq_true rfl) (Nat.le_of_ble_eq_true rfl) ?_
  refine W.eq (g2 := F0 m 4 ls []) rfl ?_
  refine lv_aload_n hx hb dX2_init_4 rfl (lv_at hl 0 rfl) ?_
  refine lv_bipush (v := 35) hx hb dX2_init_5 rfl ?_
  refine r_newa (atype := .long) (o := b + 1) (kd := 16) (t0 := 2) (N' := 35) hx hb (hts (.arrayClass .long) (List.mem_of_getElem? (i := 4) (by decide +kernel))) rfl htop rfl (by decide) rfl (fun cA h1 h2 => Option.some.inj (h1.symm.trans h2)) hP hK hD hT hS hA new_l (fun _ => arE_e (by decide)) (by decide) rfl (Nat.le_of_ble_eq_true rfl) (Nat.le_of_ble_eq_true rfl) (Nat.le_of_ble_eq_true rfl) (fun ad => [(0, .ref (ad b)), (1, .ref (ad a1))]) hl (fun ad' hh => by simp only [hh _ k0.1, hh _ ka1.1]) (fun ad => [.ref (ad b)]) (fun ad' hh => by simp only [hh _ k0.1]) rfl dX2_init_7 (fun ad H hh hP hD hT hS hl => ?_)
  have k0 := k0.up1 (k := 16) (n := 35) htop rfl
  have ka1 := ka1.up1 (k := 16) (n := 35) htop rfl
  have htop := htop.nw1 (k := 16) (n := 35) (o := (b + 1)) rfl
  have k1 := ok.nwt htop
  have hold := fun (y : Nat) hy => (hh y (hsub y hy)).trans (hold y hy)
  have hsub := fun (y : Nat) hy => gN_sub (o := b + 1) (k := 16) (n := 35) (hsub y hy)
  refine r_putF (T := TX2) (v := b + 1) hx hb hts in2 tyX2 tyX2_ok nmX2 hown hK hP hD hT hS k0 (by decide) rfl 1 (by decide) (hts (.fieldLink RX2 9 "StoneWalk$Reader" "names" "[J") (List.mem_of_getElem? (i := 5) (by decide +kernel))) rfl rfl hin rfl (tyX2_ok 1 (by decide)) rfl rfl rfl (fun t n ht => by cases ht; exact k1) rfl dX2_init_9 (fun H locs hP hD hT hS => ?_)
  have n0 := gR_s (M := (zM M (b + 1))) (a := b) (j := 1) (v := some (b + 1))
  refine lv_aload_n hx hb dX2_init_12 rfl (lv_at hl 0 rfl) ?_
  refine lv_bipush (v := 35) hx hb dX2_init_13 rfl ?_
  refine r_newa (atype := .int) (o := b + 2) (kd := 15) (t0 := 1) (N' := 35) hx hb (hts (.arrayClass .int) (List.mem_of_getElem? (i := 6) (by decide +kernel))) rfl htop rfl (by decide) rfl (fun cA h1 h2 => Option.some.inj (h1.symm.trans h2)) hP hK hD hT hS hA new_i (fun _ => arE_e (by decide)) (by decide) rfl (Nat.le_of_ble_eq_true rfl) (Nat.le_of_ble_eq_true rfl) (Nat.le_of_ble_eq_true rfl) (fun ad => [(0, .ref (ad b)), (1, .ref (ad a1))]) hl (fun ad' hh => by simp only [hh _ k0.1, hh _ ka1.1]) (fun ad => [.ref (ad b)]) (fun ad' hh => by simp only [hh _ k0.1]) rfl dX2_init_15 (fun ad H hh hP hD hT hS hl => ?_)
  have k0 := k0.up1 (k := 15) (n := 35) htop rfl
  have ka1 := ka1.up1 (k := 15) (n := 35) htop rfl
  have htop := htop.nw1 (k := 15) (n := 35) (o := (b + 2)) rfl
  have k2 := ok.nwt htop
  have hold := fun (y : Nat) hy => (hh y (hsub y hy)).trans (hold y hy)
  have hsub := fun (y : Nat) hy => gN_sub (o := b + 2) (k := 15) (n := 35) (hsub y hy)
  refine r_putF (T := TX2) (v := b + 2) hx hb hts in2 tyX2 tyX2_ok nmX2 hown hK hP hD hT hS k0 (by decide) rfl 2 (by decide) (hts (.fieldLink RX2 15 "StoneWalk$Reader" "nameSorts" "[I") (List.mem_of_getElem? (i := 7) (by decide +kernel))) rfl rfl hin rfl (tyX2_ok 2 (by decide)) rfl rfl rfl (fun t n ht => by cases ht; exact k2) rfl dX2_init_17 (fun H locs hP hD hT hS => ?_)
  have n0 := gR_s (M := (zM (pR (zM M (b + 1)) (b) 1 (some (b + 1))) (b + 2))) (a := b) (j := 2) (v := some (b + 2))
  refine lv_aload_n hx hb dX2_init_20 rfl (lv_at hl 0 rfl) ?_
  refine lv_bipush (v := 35) hx hb dX2_init_21 rfl ?_
  refine r_newa (atype := .int) (o := b + 3) (kd := 15) (t0 := 1) (N' := 35) hx hb (hts (.arrayClass .int) (List.mem_of_getElem? (i := 6) (by decide +kernel))) rfl htop rfl (by decide) rfl (fun cA h1 h2 => Option.some.inj (h1.symm.trans h2)) hP hK hD hT hS hA new_i (fun _ => arE_e (by decide)) (by decide) rfl (Nat.le_of_ble_eq_true rfl) (Nat.le_of_ble_eq_true rfl) (Nat.le_of_ble_eq_true rfl) (fun ad => [(0, .ref (ad b)), (1, .ref (ad a1))]) hl (fun ad' hh => by simp only [hh _ k0.1, hh _ ka1.1]) (fun ad => [.ref (ad b)]) (fun ad' hh => by simp only [hh _ k0.1]) rfl dX2_init_23 (fun ad H hh hP hD hT hS hl => ?_)
  have k0 := k0.up1 (k := 15) (n := 35) htop rfl
  have ka1 := ka1.up1 (k := 15) (n := 35) htop rfl
  have htop := htop.nw1 (k := 15) (n := 35) (o := (b + 3)) rfl
  have k3 := ok.nwt htop
  have hold := fun (y : Nat) hy => (hh y (hsub y hy)).trans (hold y hy)
  have hsub := fun (y : Nat) hy => gN_sub (o := b + 3) (k := 15) (n := 35) (hsub y hy)
  refine r_putF (T := TX2) (v := b + 3) hx hb hts in2 tyX2 tyX2_ok nmX2 hown hK hP hD hT hS k0 (by decide) rfl 3 (by decide) (hts (.fieldLink RX2 19 "StoneWalk$Reader" "nameNumbers" "[I") (List.mem_of_getElem? (i := 8) (by decide +kernel))) rfl rfl hin rfl (tyX2_ok 3 (by decide)) rfl rfl rfl (fun t n ht => by cases ht; exact k3) rfl dX2_init_25 (fun H locs hP hD hT hS => ?_)
  have n0 := gR_s (M := (zM (pR (zM (pR (zM M (b + 1)) (b) 1 (some (b + 1))) (b + 2)) (b) 2 (some (b + 2))) (b + 3))) (a := b) (j := 3) (v := some (b + 3))
  refine lv_aload_n hx hb dX2_init_28 rfl (lv_at hl 0 rfl) ?_
  refine lv_aload_n hx hb dX2_init_29 rfl (lv_at hl 1 rfl) ?_
  refine r_putF (T := TX2) (v := a1) hx hb hts in2 tyX2 tyX2_ok nmX2 hown hK hP hD hT hS k0 (by decide) rfl 0 (by decide) (hts (.fieldLink RX2 22 "StoneWalk$Reader" "tape" "LStoneWalk$Tape;") (List.mem_of_getElem? (i := 9) (by decide +kernel))) rfl rfl hin rfl (tyX2_ok 0 (by decide)) rfl rfl rfl (fun t n ht => by cases ht; exact ka1) rfl dX2_init_30 (fun H locs hP hD hT hS => ?_)
  have n0 := gR_s (M := (pR (zM (pR (zM (pR (zM M (b + 1)) (b) 1 (some (b + 1))) (b + 2)) (b) 2 (some (b + 2))) (b + 3)) (b) 3 (some (b + 3)))) (a := b) (j := 0) (v := some (a1))
  refine W.widen (k := 3) (n := 105) (Nat.le_of_ble_eq_true rfl) (Nat.le_of_ble_eq_true rfl) ?_
  exact r_nret hx hb hr hlocks hP hK hD hT hG hS hold htop rfl rfl dX2_init_33
theorem hdI_X4_init : yX4_init.cls ≠ "java/lang/invoke/MethodHandle" ∧ yX4_init.cls ≠ "java/lang/invoke/VarHandle" ∧ (parseMethodDescriptor yX4_init.desc).map (fun d => d.parameters.length) = some 0 := by decide +kernel
theorem ok_X4_init {g : CG} {b y kd z : Nat} (htop : topA g b) (h : ok g y kd z) : ok (gF_X4_init g b) y kd z ∧ topA (gF_X4_init g b) (b + 3) := by
  have h := h.up1 (k := 15) (n := 12) (o := b + 1) htop rfl
  have htop := htop.nw1 (k := 15) (n := 12) (o := b + 1) rfl
  have h := h.up1 (k := 15) (n := 12) (o := b + 2) htop rfl
  have htop := htop.nw1 (k := 15) (n := 12) (o := b + 2) rfl
  have h := h.up1 (k := 15) (n := 12) (o := b + 3) htop rfl
  have htop := htop.nw1 (k := 15) (n := 12) (o := b + 3) rfl
  exact ⟨h, htop⟩
theorem sub_X4_init {g : CG} {b y : Nat} (h : y ∈ g.1) : y ∈ (gF_X4_init g b).1 := by
  have h := gN_sub (o := b + 1) (k := 15) (n := 12) h
  have h := gN_sub (o := b + 2) (k := 15) (n := 12) h
  have h := gN_sub (o := b + 3) (k := 15) (n := 12) h
  exact h
theorem gR_X4_init {M : MM} {b y k : Nat} (h : y < b) : gR (f_X4_init M b) y k = gR M y k := by
  unfold f_X4_init
  refine (gR_p (by omega)).trans ?_
  refine (gR_z (by omega)).trans ?_
  refine (gR_p (by omega)).trans ?_
  refine (gR_z (by omega)).trans ?_
  refine (gR_p (by omega)).trans ?_
  refine (gR_z (by omega)).trans ?_
  rfl
set_option maxHeartbeats 8000000 in
set_option maxRecDepth 100000 in
theorem c_X4_init {l : Launch} {D : va_G} {ad : Nat → Nat} {cy : Nat → ClassId} {A : Nat → Prop} {g : CG} {q : SE} (M : MM) (b : Nat) (k0 : ok g b 4 0) (htop : topA g b) : Met l yX4_init wsX4_init ({ frames := 1, cells := 3, slots := 36, locals := 12 }) (va_Pc [.ref (ad b)] (WdA D ad cy A g q M)) (va_Qv (fun u => u = f_X4_init M b) (WdN D ad cy A g (gF_X4_init g b) (b + 3) q) A) 3 36 A := by
  refine Met.ofW (cc := cX4_init) (maxL := 1) (ret := none) (by decide) rfl ?_
  intro p e s m args below meth c s₁ B hml hv
  obtain ⟨rfl, ⟨hP, hK, hD, hT, hG⟩, hA⟩ := hv
  have hx := B.exec
  have hb := B.bytes
  have hr := B.returns
  have hts := atoms_spec (ws := wsX4_init) B.pre
  have hown : s.vm.findClass RX4 = some m.cls := findClass_of_methodNamed B.named
  have hlocks := B.notSynchronized
  have hin : meth.name = "<init>" := (name_of_methodNamed B.named B.method).1
  have in4 : ∀ w ∈ u_ws RX4 TX4 4, w ∈ wsX4_init := fun w h => List.mem_cons_of_mem _ (List.mem_append_right _ h)
  have hS : va_S A s.heap s.heap [] := va_S.rf
  have hl := lv_entry ([.ref (ad b)]) (n := 1) (Nat.le_of_ble_eq_true rfl)
  rw [lg_entry_eq]
  generalize (lg_sl ([.ref (ad b)]) ++ List.replicate (1 - (lg_sl ([.ref (ad b)])).length) Slot.unset).toArray = ls at hl ⊢
  have hl : lv_has ls 1 [(0, .ref (ad b))] := hl
  have hold : ∀ y ∈ g.1, ad y = ad y := fun _ _ => rfl
  have hsub : ∀ y ∈ g.1, y ∈ g.1 := fun _ h => h
  refine lv_aload_n hx hb dX4_init_0 rfl (lv_at hl 0 rfl) ?_
  refine W.objInit hx hb hown (hts (.methodLink RX4 3 objectInit) (List.mem_of_getElem? (i := 1) (by decide +kernel))) (hts (.instanceMethod objectInit) (List.mem_of_getElem? (i := 2) (by decide +kernel))) (hts (.code objectInit ⟨#[0xb1]⟩ 1 none) (List.mem_of_getElem? (i := 3) (by decide +kernel))) rfl (by rw [hml]; exact hl.1) rfl dX4_init_1 (Nat.le_of_ble_eq_true rfl) (Nat.le_of_ble_eq_true rfl) ?_
  refine W.eq (g2 := F0 m 4 ls []) rfl ?_
  refine lv_aload_n hx hb dX4_init_4 rfl (lv_at hl 0 rfl) ?_
  refine lv_bipush (v := 12) hx hb dX4_init_5 rfl ?_
  refine r_newa (atype := .int) (o := b + 1) (kd := 15) (t0 := 1) (N' := 12) hx hb (hts (.arrayClass .int) (List.mem_of_getElem? (i := 4) (by decide +kernel))) rfl htop rfl (by decide) rfl (fun cA h1 h2 => Option.some.inj (h1.symm.trans h2)) hP hK hD hT hS hA new_i (fun _ => arE_e (by decide)) (by decide) rfl (Nat.le_of_ble_eq_true rfl) (Nat.le_of_ble_eq_true rfl) (Nat.le_of_ble_eq_true rfl) (fun ad => [(0, .ref (ad b))]) hl (fun ad' hh => by simp only [hh _ k0.1]) (fun ad => [.ref (ad b)]) (fun ad' hh => by simp only [hh _ k0.1]) rfl dX4_init_7 (fun ad H hh hP hD hT hS hl => ?_)
  have k0 := k0.up1 (k := 15) (n := 12) htop rfl
  have htop := htop.nw1 (k := 15) (n := 12) (o := (b + 1)) rfl
  have k1 := ok.nwt htop
  have hold := fun (y : Nat) hy => (hh y (hsub y hy)).trans (hold y hy)
  have hsub := fun (y : Nat) hy => gN_sub (o := b + 1) (k := 15) (n := 12) (hsub y hy)
  refine r_putF (T := TX4) (v := b + 1) hx hb hts in4 tyX4 tyX4_ok nmX4 hown hK hP hD hT hS k0 (by decide) rfl 0 (by decide) (hts (.fieldLink RX4 9 "StoneWalk$Sights" "years" "[I") (List.mem_of_getElem? (i := 5) (by decide +kernel))) rfl rfl hin rfl (tyX4_ok 0 (by decide)) rfl rfl rfl (fun t n ht => by cases ht; exact k1) rfl dX4_init_9 (fun H locs hP hD hT hS => ?_)
  have n0 := gR_s (M := (zM M (b + 1))) (a := b) (j := 0) (v := some (b + 1))
  refine lv_aload_n hx hb dX4_init_12 rfl (lv_at hl 0 rfl) ?_
  refine lv_bipush (v := 12) hx hb dX4_init_13 rfl ?_
  refine r_newa (atype := .int) (o := b + 2) (kd := 15) (t0 := 1) (N' := 12) hx hb (hts (.arrayClass .int) (List.mem_of_getElem? (i := 4) (by decide +kernel))) rfl htop rfl (by decide) rfl (fun cA h1 h2 => Option.some.inj (h1.symm.trans h2)) hP hK hD hT hS hA new_i (fun _ => arE_e (by decide)) (by decide) rfl (Nat.le_of_ble_eq_true rfl) (Nat.le_of_ble_eq_true rfl) (Nat.le_of_ble_eq_true rfl) (fun ad => [(0, .ref (ad b))]) hl (fun ad' hh => by simp only [hh _ k0.1]) (fun ad => [.ref (ad b)]) (fun ad' hh => by simp only [hh _ k0.1]) rfl dX4_init_15 (fun ad H hh hP hD hT hS hl => ?_)
  have k0 := k0.up1 (k := 15) (n := 12) htop rfl
  have htop := htop.nw1 (k := 15) (n := 12) (o := (b + 2)) rfl
  have k2 := ok.nwt htop
  have hold := fun (y : Nat) hy => (hh y (hsub y hy)).trans (hold y hy)
  have hsub := fun (y : Nat) hy => gN_sub (o := b + 2) (k := 15) (n := 12) (hsub y hy)
  refine r_putF (T := TX4) (v := b + 2) hx hb hts in4 tyX4 tyX4_ok nmX4 hown hK hP hD hT hS k0 (by decide) rfl 1 (by decide) (hts (.fieldLink RX4 15 "StoneWalk$Sights" "counts" "[I") (List.mem_of_getElem? (i := 6) (by decide +kernel))) rfl rfl hin rfl (tyX4_ok 1 (by decide)) rfl rfl rfl (fun t n ht => by cases ht; exact k2) rfl dX4_init_17 (fun H locs hP hD hT hS => ?_)
  have n0 := gR_s (M := (zM (pR (zM M (b + 1)) (b) 0 (some (b + 1))) (b + 2))) (a := b) (j := 1) (v := some (b + 2))
  refine lv_aload_n hx hb dX4_init_20 rfl (lv_at hl 0 rfl) ?_
  refine lv_bipush (v := 12) hx hb dX4_init_21 rfl ?_
  refine r_newa (atype := .int) (o := b + 3) (kd := 15) (t0 := 1) (N' := 12) hx hb (hts (.arrayClass .int) (List.mem_of_getElem? (i := 4) (by decide +kernel))) rfl htop rfl (by decide) rfl (fun cA h1 h2 => Option.some.inj (h1.symm.trans h2)) hP hK hD hT hS hA new_i (fun _ => arE_e (by decide)) (by decide) rfl (Nat.le_of_ble_eq_true rfl) (Nat.le_of_ble_eq_true rfl) (Nat.le_of_ble_eq_true rfl) (fun ad => [(0, .ref (ad b))]) hl (fun ad' hh => by simp only [hh _ k0.1]) (fun ad => [.ref (ad b)]) (fun ad' hh => by simp only [hh _ k0.1]) rfl dX4_init_23 (fun ad H hh hP hD hT hS hl => ?_)
  have k0 := k0.up1 (k := 15) (n := 12) htop rfl
  have htop := htop.nw1 (k := 15) (n := 12) (o := (b + 3)) rfl
  have k3 := ok.nwt htop
  have hold := fun (y : Nat) hy => (hh y (hsub y hy)).trans (hold y hy)
  have hsub := fun (y : Nat) hy => gN_sub (o := b + 3) (k := 15) (n := 12) (hsub y hy)
  refine r_putF (T := TX4) (v := b + 3) hx hb hts in4 tyX4 tyX4_ok nmX4 hown hK hP hD hT hS k0 (by decide) rfl 2 (by decide) (hts (.fieldLink RX4 18 "StoneWalk$Sights" "offs" "[I") (List.mem_of_getElem? (i := 7) (by decide +kernel))) rfl rfl hin rfl (tyX4_ok 2 (by decide)) rfl rfl rfl (fun t n ht => by cases ht; exact k3) rfl dX4_init_25 (fun H locs hP hD hT hS => ?_)
  have n0 := gR_s (M := (zM (pR (zM (pR (zM M (b + 1)) (b) 0 (some (b + 1))) (b + 2)) (b) 1 (some (b + 2))) (b + 3))) (a := b) (j := 2) (v := some (b + 3))
  refine W.widen (k := 3) (n := 36) (Nat.le_of_ble_eq_true rfl) (Nat.le_of_ble_eq_true rfl) ?_
  exact r_nret hx hb hr hlocks hP hK hD hT hG hS hold htop rfl rfl dX4_init_28
