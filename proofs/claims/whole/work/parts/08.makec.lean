theorem hdI_X0_init : yX0_init.cls ≠ "java/lang/invoke/MethodHandle" ∧ yX0_init.cls ≠ "java/lang/invoke/VarHandle" ∧ (parseMethodDescriptor yX0_init.desc).map (fun d => d.parameters.length) = some 0 := by decide +kernel
theorem ok_X0_init {g : CG} {b y kd z : Nat} (htop : topA g b) (h : ok g y kd z) : ok (gF_X0_init g b) y kd z ∧ topA (gF_X0_init g b) (b + 51) := by
  have h := h.up1 (k := 23) (n := 4) (o := b + 1) htop rfl
  have htop := htop.nw1 (k := 23) (n := 4) (o := b + 1) rfl
  have h := h.up1 (k := 18) (n := 3) (o := b + 2) htop rfl
  have htop := htop.nw1 (k := 18) (n := 3) (o := b + 2) rfl
  have h := h.up1 (k := 19) (n := 10) (o := b + 3) htop rfl
  have htop := htop.nw1 (k := 19) (n := 10) (o := b + 3) rfl
  have h := h.up1 (k := 22) (n := 5) (o := b + 4) htop rfl
  have htop := htop.nw1 (k := 22) (n := 5) (o := b + 4) rfl
  have h := h.up1 (k := 20) (n := 5) (o := b + 5) htop rfl
  have htop := htop.nw1 (k := 20) (n := 5) (o := b + 5) rfl
  have h := h.up1 (k := 21) (n := 3) (o := b + 6) htop rfl
  have htop := htop.nw1 (k := 21) (n := 3) (o := b + 6) rfl
  have h := h.up1 (k := 19) (n := 5) (o := b + 7) htop rfl
  have htop := htop.nw1 (k := 19) (n := 5) (o := b + 7) rfl
  have h := h.up1 (k := 15) (n := 10) (o := b + 8) htop rfl
  have htop := htop.nw1 (k := 15) (n := 10) (o := b + 8) rfl
  have h := h.up1 (k := 10) (n := 0) (o := b + 9) htop rfl
  have htop := htop.nw1 (k := 10) (n := 0) (o := b + 9) rfl
  have h := h.up1 (k := 10) (n := 0) (o := b + 10) htop rfl
  have htop := htop.nw1 (k := 10) (n := 0) (o := b + 10) rfl
  have h := h.up1 (k := 10) (n := 0) (o := b + 11) htop rfl
  have htop := htop.nw1 (k := 10) (n := 0) (o := b + 11) rfl
  have h := h.up1 (k := 10) (n := 0) (o := b + 12) htop rfl
  have htop := htop.nw1 (k := 10) (n := 0) (o := b + 12) rfl
  have h := h.up1 (k := 3) (n := 0) (o := b + 13) htop rfl
  have htop := htop.nw1 (k := 3) (n := 0) (o := b + 13) rfl
  obtain ⟨h, htop⟩ := ok_X3_init (b := b + 13) htop h
  have h := h.up1 (k := 3) (n := 0) (o := b + 15) htop rfl
  have htop := htop.nw1 (k := 3) (n := 0) (o := b + 15) rfl
  obtain ⟨h, htop⟩ := ok_X3_init (b := b + 15) htop h
  have h := h.up1 (k := 3) (n := 0) (o := b + 17) htop rfl
  have htop := htop.nw1 (k := 3) (n := 0) (o := b + 17) rfl
  obtain ⟨h, htop⟩ := ok_X3_init (b := b + 17) htop h
  have h := h.up1 (k := 5) (n := 0) (o := b + 19) htop rfl
  have htop := htop.nw1 (k := 5) (n := 0) (o := b + 19) rfl
  have h := h.up1 (k := 5) (n := 0) (o := b + 20) htop rfl
  have htop := htop.nw1 (k := 5) (n := 0) (o := b + 20) rfl
  have h := h.up1 (k := 5) (n := 0) (o := b + 21) htop rfl
  have htop := htop.nw1 (k := 5) (n := 0) (o := b + 21) rfl
  have h := h.up1 (k := 5) (n := 0) (o := b + 22) htop rfl
  have htop := htop.nw1 (k := 5) (n := 0) (o := b + 22) rfl
  have h := h.up1 (k := 5) (n := 0) (o := b + 23) htop rfl
  have htop := htop.nw1 (k := 5) (n := 0) (o := b + 23) rfl
  have h := h.up1 (k := 5) (n := 0) (o := b + 24) htop rfl
  have htop := htop.nw1 (k := 5) (n := 0) (o := b + 24) rfl
  have h := h.up1 (k := 5) (n := 0) (o := b + 25) htop rfl
  have htop := htop.nw1 (k := 5) (n := 0) (o := b + 25) rfl
  have h := h.up1 (k := 5) (n := 0) (o := b + 26) htop rfl
  have htop := htop.nw1 (k := 5) (n := 0) (o := b + 26) rfl
  have h := h.up1 (k := 5) (n := 0) (o := b + 27) htop rfl
  have htop := htop.nw1 (k := 5) (n := 0) (o := b + 27) rfl
  have h := h.up1 (k := 5) (n := 0) (o := b + 28) htop rfl
  have htop := htop.nw1 (k := 5) (n := 0) (o := b + 28) rfl
  have h := h.up1 (k := 9) (n := 0) (o := b + 29) htop rfl
  have htop := htop.nw1 (k := 9) (n := 0) (o := b + 29) rfl
  have h := h.up1 (k := 9) (n := 0) (o := b + 30) htop rfl
  have htop := htop.nw1 (k := 9) (n := 0) (o := b + 30) rfl
  have h := h.up1 (k := 9) (n := 0) (o := b + 31) htop rfl
  have htop := htop.nw1 (k := 9) (n := 0) (o := b + 31) rfl
  have h := h.up1 (k := 9) (n := 0) (o := b + 32) htop rfl
  have htop := htop.nw1 (k := 9) (n := 0) (o := b + 32) rfl
  have h := h.up1 (k := 9) (n := 0) (o := b + 33) htop rfl
  have htop := htop.nw1 (k := 9) (n := 0) (o := b + 33) rfl
  have h := h.up1 (k := 6) (n := 0) (o := b + 34) htop rfl
  have htop := htop.nw1 (k := 6) (n := 0) (o := b + 34) rfl
  obtain ⟨h, htop⟩ := ok_X6_init (b := b + 34) htop h
  have h := h.up1 (k := 6) (n := 0) (o := b + 36) htop rfl
  have htop := htop.nw1 (k := 6) (n := 0) (o := b + 36) rfl
  obtain ⟨h, htop⟩ := ok_X6_init (b := b + 36) htop h
  have h := h.up1 (k := 6) (n := 0) (o := b + 38) htop rfl
  have htop := htop.nw1 (k := 6) (n := 0) (o := b + 38) rfl
  obtain ⟨h, htop⟩ := ok_X6_init (b := b + 38) htop h
  have h := h.up1 (k := 6) (n := 0) (o := b + 40) htop rfl
  have htop := htop.nw1 (k := 6) (n := 0) (o := b + 40) rfl
  obtain ⟨h, htop⟩ := ok_X6_init (b := b + 40) htop h
  have h := h.up1 (k := 6) (n := 0) (o := b + 42) htop rfl
  have htop := htop.nw1 (k := 6) (n := 0) (o := b + 42) rfl
  obtain ⟨h, htop⟩ := ok_X6_init (b := b + 42) htop h
  have h := h.up1 (k := 8) (n := 0) (o := b + 44) htop rfl
  have htop := htop.nw1 (k := 8) (n := 0) (o := b + 44) rfl
  have h := h.up1 (k := 8) (n := 0) (o := b + 45) htop rfl
  have htop := htop.nw1 (k := 8) (n := 0) (o := b + 45) rfl
  have h := h.up1 (k := 8) (n := 0) (o := b + 46) htop rfl
  have htop := htop.nw1 (k := 8) (n := 0) (o := b + 46) rfl
  have h := h.up1 (k := 5) (n := 0) (o := b + 47) htop rfl
  have htop := htop.nw1 (k := 5) (n := 0) (o := b + 47) rfl
  have h := h.up1 (k := 5) (n := 0) (o := b + 48) htop rfl
  have htop := htop.nw1 (k := 5) (n := 0) (o := b + 48) rfl
  have h := h.up1 (k := 5) (n := 0) (o := b + 49) htop rfl
  have htop := htop.nw1 (k := 5) (n := 0) (o := b + 49) rfl
  have h := h.up1 (k := 5) (n := 0) (o := b + 50) htop rfl
  have htop := htop.nw1 (k := 5) (n := 0) (o := b + 50) rfl
  have h := h.up1 (k := 5) (n := 0) (o := b + 51) htop rfl
  have htop := htop.nw1 (k := 5) (n := 0) (o := b + 51) rfl
  exact ⟨h, htop⟩
theorem sub_X0_init {g : CG} {b y : Nat} (h : y ∈ g.1) : y ∈ (gF_X0_init g b).1 := by
  have h := gN_sub (o := b + 1) (k := 23) (n := 4) h
  have h := gN_sub (o := b + 2) (k := 18) (n := 3) h
  have h := gN_sub (o := b + 3) (k := 19) (n := 10) h
  have h := gN_sub (o := b + 4) (k := 22) (n := 5) h
  have h := gN_sub (o := b + 5) (k := 20) (n := 5) h
  have h := gN_sub (o := b + 6) (k := 21) (n := 3) h
  have h := gN_sub (o := b + 7) (k := 19) (n := 5) h
  have h := gN_sub (o := b + 8) (k := 15) (n := 10) h
  have h := gN_sub (o := b + 9) (k := 10) (n := 0) h
  have h := gN_sub (o := b + 10) (k := 10) (n := 0) h
  have h := gN_sub (o := b + 11) (k := 10) (n := 0) h
  have h := gN_sub (o := b + 12) (k := 10) (n := 0) h
  have h := gN_sub (o := b + 13) (k := 3) (n := 0) h
  have h := sub_X3_init (b := b + 13) h
  have h := gN_sub (o := b + 15) (k := 3) (n := 0) h
  have h := sub_X3_init (b := b + 15) h
  have h := gN_sub (o := b + 17) (k := 3) (n := 0) h
  have h := sub_X3_init (b := b + 17) h
  have h := gN_sub (o := b + 19) (k := 5) (n := 0) h
  have h := gN_sub (o := b + 20) (k := 5) (n := 0) h
  have h := gN_sub (o := b + 21) (k := 5) (n := 0) h
  have h := gN_sub (o := b + 22) (k := 5) (n := 0) h
  have h := gN_sub (o := b + 23) (k := 5) (n := 0) h
  have h := gN_sub (o := b + 24) (k := 5) (n := 0) h
  have h := gN_sub (o := b + 25) (k := 5) (n := 0) h
  have h := gN_sub (o := b + 26) (k := 5) (n := 0) h
  have h := gN_sub (o := b + 27) (k := 5) (n := 0) h
  have h := gN_sub (o := b + 28) (k := 5) (n := 0) h
  have h := gN_sub (o := b + 29) (k := 9) (n := 0) h
  have h := gN_sub (o := b + 30) (k := 9) (n := 0) h
  have h := gN_sub (o := b + 31) (k := 9) (n := 0) h
  have h := gN_sub (o := b + 32) (k := 9) (n := 0) h
  have h := gN_sub (o := b + 33) (k := 9) (n := 0) h
  have h := gN_sub (o := b + 34) (k := 6) (n := 0) h
  have h := sub_X6_init (b := b + 34) h
  have h := gN_sub (o := b + 36) (k := 6) (n := 0) h
  have h := sub_X6_init (b := b + 36) h
  have h := gN_sub (o := b + 38) (k := 6) (n := 0) h
  have h := sub_X6_init (b := b + 38) h
  have h := gN_sub (o := b + 40) (k := 6) (n := 0) h
  have h := sub_X6_init (b := b + 40) h
  have h := gN_sub (o := b + 42) (k := 6) (n := 0) h
  have h := sub_X6_init (b := b + 42) h
  have h := gN_sub (o := b + 44) (k := 8) (n := 0) h
  have h := gN_sub (o := b + 45) (k := 8) (n := 0) h
  have h := gN_sub (o := b + 46) (k := 8) (n := 0) h
  have h := gN_sub (o := b + 47) (k := 5) (n := 0) h
  have h := gN_sub (o := b + 48) (k := 5) (n := 0) h
  have h := gN_sub (o := b + 49) (k := 5) (n := 0) h
  have h := gN_sub (o := b + 50) (k := 5) (n := 0) h
  have h := gN_sub (o := b + 51) (k := 5) (n := 0) h
  exact h
theorem gR_X0_init {M : MM} {b y k : Nat} (h : y < b) : gR (f_X0_init M b) y k = gR M y k := by
  unfold f_X0_init
  refine (gR_p (by omega)).trans ?_
  refine (gR_z (by omega)).trans ?_
  refine (gR_p (by omega)).trans ?_
  refine (gR_z (by omega)).trans ?_
  refine (gR_p (by omega)).trans ?_
  refine (gR_z (by omega)).trans ?_
  refine (gR_p (by omega)).trans ?_
  refine (gR_z (by omega)).trans ?_
  refine (gR_p (by omega)).trans ?_
  refine (gR_z (by omega)).trans ?_
  refine (gR_p (by omega)).trans ?_
  refine (gR_z (by omega)).trans ?_
  refine (gR_p (by omega)).trans ?_
  refine (gR_z (by omega)).trans ?_
  refine (gR_p (by omega)).trans ?_
  refine (gR_z (by omega)).trans ?_
  refine (gR_p (by omega)).trans ?_
  refine (gR_X6_init (by omega)).trans ?_
  refine (gR_z (by omega)).trans ?_
  refine (gR_p (by omega)).trans ?_
  refine (gR_X6_init (by omega)).trans ?_
  refine (gR_z (by omega)).trans ?_
  refine (gR_p (by omega)).trans ?_
  refine (gR_X6_init (by omega)).trans ?_
  refine (gR_z (by omega)).trans ?_
  refine (gR_p (by omega)).trans ?_
  refine (gR_X6_init (by omega)).trans ?_
  refine (gR_z (by omega)).trans ?_
  refine (gR_p (by omega)).trans ?_
  refine (gR_X6_init (by omega)).trans ?_
  refine (gR_z (by omega)).trans ?_
  refine (gR_p (by omega)).trans ?_
  refine (gR_z (by omega)).trans ?_
  refine (gR_p (by omega)).trans ?_
  refine (gR_z (by omega)).trans ?_
  refine (gR_p (by omega)).trans ?_
  refine (gR_z (by omega)).trans ?_
  refine (gR_p (by omega)).trans ?_
  refine (gR_z (by omega)).trans ?_
  refine (gR_p (by omega)).trans ?_
  refine (gR_z (by omega)).trans ?_
  refine (gR_p (by omega)).trans ?_
  refine (gR_z (by omega)).trans ?_
  refine (gR_p (by omega)).trans ?_
  refine (gR_z (by omega)).trans ?_
  refine (gR_p (by omega)).trans ?_
  refine (gR_z (by omega)).trans ?_
  refine (gR_p (by omega)).trans ?_
  refine (gR_z (by omega)).trans ?_
  refine (gR_p (by omega)).trans ?_
  refine (gR_z (by omega)).trans ?_
  refine (gR_p (by omega)).trans ?_
  refine (gR_z (by omega)).trans ?_
  refine (gR_p (by omega)).trans ?_
  refine (gR_z (by omega)).trans ?_
  refine (gR_p (by omega)).trans ?_
  refine (gR_z (by omega)).trans ?_
  refine (gR_p (by omega)).trans ?_
  refine (gR_z (by omega)).trans ?_
  refine (gR_p (by omega)).trans ?_
  refine (gR_z (by omega)).trans ?_
  refine (gR_p (by omega)).trans ?_
  refine (gR_X3_init (by omega)).trans ?_
  refine (gR_z (by omega)).trans ?_
  refine (gR_p (by omega)).trans ?_
  refine (gR_X3_init (by omega)).trans ?_
  refine (gR_z (by omega)).trans ?_
  refine (gR_p (by omega)).trans ?_
  refine (gR_X3_init (by omega)).trans ?_
  refine (gR_z (by omega)).trans ?_
  refine (gR_p (by omega)).trans ?_
  refine (gR_z (by omega)).trans ?_
  refine (gR_p (by omega)).trans ?_
  refine (gR_z (by omega)).trans ?_
  refine (gR_p (by omega)).trans ?_
  refine (gR_z (by omega)).trans ?_
  refine (gR_p (by omega)).trans ?_
  refine (gR_z (by omega)).trans ?_
  refine (gR_p (by omega)).trans ?_
  refine (gR_z (by omega)).trans ?_
  refine (gR_p (by omega)).trans ?_
  refine (gR_z (by omega)).trans ?_
  refine (gR_p (by omega)).trans ?_
  refine (gR_z (by omega)).trans ?_
  refine (gR_p (by omega)).trans ?_
  refine (gR_z (by omega)).trans ?_
  refine (gR_p (by omega)).trans ?_
  refine (gR_z (by omega)).trans ?_
  refine (gR_p (by omega)).trans ?_
  refine (gR_z (by omega)).trans ?_
  refine (gR_p (by omega)).trans ?_
  refine (gR_z (by omega)).trans ?_
  refine (gR_p (by omega)).trans ?_
  refine (gR_z (by omega)).trans ?_
  rfl
set_option maxHeartbeats 8000000 in
set_option maxRecDepth 100000 in
theorem c_X0_init {l : Launch} {D : va_G} {ad : Nat → Nat} {cy : Nat → ClassId} {A : Nat → Prop} {g : CG} {q : SE} (M : MM) (b : Nat) (k0 : ok g b 0 0) (htop : topA g b) : Met l yX0_init wsX0_init ({ frames := 2, cells := 51, slots := 760, locals := 32 }) (va_Pc [.ref (ad b)] (WdA D ad cy A g q M)) (va_Qv (fun u => u = f_X0_init M b) (WdN D ad cy A g (gF_X0_init g b) (b + 51) q) A) 51 760 A := by
  refine Met.ofW (cc := cX0_init) (maxL := 2) (ret := none) (by decide) rfl ?_
  intro p e s m args below meth c s₁ B hml hv
  obtain ⟨rfl, ⟨hP, hK, hD, hT, hG⟩, hA⟩ := hv
  have hx := B.exec
  have hb := B.bytes
  have hr := B.returns
  have hts := atoms_spec (ws := wsX0_init) B.pre
  have hown : s.vm.findClass RX0 = some m.cls := findClass_of_methodNamed B.named
  have hlocks := B.notSynchronized
  have hin : meth.name = "<init>" := (name_of_methodNamed B.named B.method).1
  have in0 : ∀ w ∈ u_ws RX0 TX0 17, w ∈ wsX0_init := fun w h => List.mem_cons_of_mem _ (List.mem_append_left _ (List.mem_append_left _ (List.mem_append_left _ (List.mem_append_left _ (List.mem_append_left _ (List.mem_append_left _ (List.mem_append_right _ h)))))))
  have in3 : ∀ w ∈ u_ws RX3 TX3 3, w ∈ wsX0_init := fun w h => List.mem_cons_of_mem _ (List.mem_append_left _ (List.mem_append_left _ (List.mem_append_left _ (List.mem_append_left _ (List.mem_append_right _ h)))))
  have in5 : ∀ w ∈ u_ws RX5 TX5 8, w ∈ wsX0_init := fun w h => List.mem_cons_of_mem _ (List.mem_append_left _ (List.mem_append_left _ (List.mem_append_left _ (List.mem_append_right _ h))))
  have in6 : ∀ w ∈ u_ws RX6 TX6 5, w ∈ wsX0_init := fun w h => List.mem_cons_of_mem _ (List.mem_append_left _ (List.mem_append_right _ h))
  have in8 : ∀ w ∈ u_ws RX8 TX8 2, w ∈ wsX0_init := fun w h => List.mem_cons_of_mem _ (List.mem_append_right _ h)
  have in9 : ∀ w ∈ u_ws RX9 TX9 5, w ∈ wsX0_init := fun w h => List.mem_cons_of_mem _ (List.mem_append_left _ (List.mem_append_left _ (List.mem_append_right _ h)))
  have in10 : ∀ w ∈ u_ws RX10 TX10 3, w ∈ wsX0_init := fun w h => List.mem_cons_of_mem _ (List.mem_append_left _ (List.mem_append_left _ (List.mem_append_left _ (List.mem_append_left _ (List.mem_append_left _ (List.mem_append_right _ h))))))
  have hS : va_S A s.heap s.heap [] := va_S.rf
  have hl := lv_entry ([.ref (ad b)]) (n := 2) (Nat.le_of_ble_eq_true rfl)
  rw [lg_entry_eq]
  generalize (lg_sl ([.ref (ad b)]) ++ List.replicate (2 - (lg_sl ([.ref (ad b)])).length) Slot.unset).toArray = ls at hl ⊢
  have hl : lv_has ls 2 [(0, .ref (ad b))] := hl
  have hold : ∀ y ∈ g.1, ad y = ad y := fun _ _ => rfl
  have hsub : ∀ y ∈ g.1, y ∈ g.1 := fun _ h => h
  refine lv_aload_n hx hb dX0_init_0 rfl (lv_at hl 0 rfl) ?_
  refine W.objInit hx hb hown (hts (.methodLink RX0 3 objectInit) (List.mem_of_getElem? (i := 1) (by decide +kernel))) (hts (.instanceMethod objectInit) (List.mem_of_getElem? (i := 2) (by decide +kernel))) (hts (.code objectInit ⟨#[0xb1]⟩ 1 none) (List.mem_of_getElem? (i := 3) (by decide +kernel))) rfl (by rw [hml]; exact hl.1) rfl dX0_init_1 (Nat.le_of_ble_eq_true rfl) (Nat.le_of_ble_eq_true rfl) ?_
  refine W.eq (g2 := F0 m 4 ls []) rfl ?_
  refine lv_aload_n hx hb dX0_init_4 rfl (lv_at hl 0 rfl) ?_
  refine lv_iconst (v := 4) hx hb dX0_init_5 rfl ?_
  refine r_newq (o := b + 1) (kd := 23) (t0 := 9) (N' := 4) hx hb hown (hts (.classLink RX0 9 RX10) (List.mem_of_getElem? (i := 4) (by decide +kernel))) (hG.2.2.2.2.2.2.2 _ (by decide)) htop rfl ⟨by decide, by decide, by decide, by decide⟩ rfl hP hK hD hT hS hA (by decide) rfl (Nat.le_of_ble_eq_true rfl) (Nat.le_of_ble_eq_true rfl) (Nat.le_of_ble_eq_true rfl) (fun ad => [(0, .ref (ad b))]) hl (fun ad' hh => by simp only [hh _ k0.1]) (fun ad => [.ref (ad b)]) (fun ad' hh => by simp only [hh _ k0.1]) rfl dX0_init_6 (fun ad H hh hP hD hT hS hl => ?_)
  have k0 := k0.up1 (k := 23) (n := 4) htop rfl
  have htop := htop.nw1 (k := 23) (n := 4) (o := (b + 1)) rfl
  have k1 := ok.nwt htop
  have hold := fun (y : Nat) hy => (hh y (hsub y hy)).trans (hold y hy)
  have hsub := fun (y : Nat) hy => gN_sub (o := b + 1) (k := 23) (n := 4) (hsub y hy)
  refine r_putF (T := TX0) (v := b + 1) hx hb hts in0 tyX0 tyX0_ok nmX0 hown hK hP hD hT hS k0 (by decide) rfl 0 (by decide) (hts (.fieldLink RX0 11 "StoneWalk$Island" "ways" "[LStoneWalk$Way;") (List.mem_of_getElem? (i := 5) (by decide +kernel))) rfl rfl hin rfl (tyX0_ok 0 (by decide)) rfl rfl rfl (fun t n ht => by cases ht; exact k1) rfl dX0_init_9 (fun H locs hP hD hT hS => ?_)
  have n0 := gR_s (M := (zM M (b + 1))) (a := b) (j := 0) (v := some (b + 1))
  refine lv_aload_n hx hb dX0_init_12 rfl (lv_at hl 0 rfl) ?_
  refine lv_iconst (v := 3) hx hb dX0_init_13 rfl ?_
  refine r_newq (o := b + 2) (kd := 18) (t0 := 4) (N' := 3) hx hb hown (hts (.classLink RX0 17 RX3) (List.mem_of_getElem? (i := 6) (by decide +kernel))) (hG.2.2.2.2.2.2.2 _ (by decide)) htop rfl ⟨by decide, by decide, by decide, by decide⟩ rfl hP hK hD hT hS hA (by decide) rfl (Nat.le_of_ble_eq_true rfl) (Nat.le_of_ble_eq_true rfl) (Nat.le_of_ble_eq_true rfl) (fun ad => [(0, .ref (ad b))]) hl (fun ad' hh => by simp only [hh _ k0.1]) (fun ad => [.ref (ad b)]) (fun ad' hh => by simp only [hh _ k0.1]) rfl dX0_init_14 (fun ad H hh hP hD hT hS hl => ?_)
  have k0 := k0.up1 (k := 18) (n := 3) htop rfl
  have k1 := k1.up1 (k := 18) (n := 3) htop rfl
  have htop := htop.nw1 (k := 18) (n := 3) (o := (b + 2)) rfl
  have k2 := ok.nwt htop
  have n0 := (gR_z (o := (b + 2)) (by omega)).trans n0
  have hold := fun (y : Nat) hy => (hh y (hsub y hy)).trans (hold y hy)
  have hsub := fun (y : Nat) hy => gN_sub (o := b + 2) (k := 18) (n := 3) (hsub y hy)
  refine r_putF (T := TX0) (v := b + 2) hx hb hts in0 tyX0 tyX0_ok nmX0 hown hK hP hD hT hS k0 (by decide) rfl 1 (by decide) (hts (.fieldLink RX0 19 "StoneWalk$Island" "roads" "[LStoneWalk$Road;") (List.mem_of_getElem? (i := 7) (by decide +kernel))) rfl rfl hin rfl (tyX0_ok 1 (by decide)) rfl rfl rfl (fun t n ht => by cases ht; exact k2) rfl dX0_init_17 (fun H locs hP hD hT hS => ?_)
  have n0 := (gR_p (a := b) (j := 1) (v := some (b + 2)) (by omega)).trans n0
  have n1 := gR_s (M := (zM (pR (zM M (b + 1)) (b) 0 (some (b + 1))) (b + 2))) (a := b) (j := 1) (v := some (b + 2))
  refine lv_aload_n hx hb dX0_init_20 rfl (lv_at hl 0 rfl) ?_
  refine lv_bipush (v := 10) hx hb dX0_init_21 rfl ?_
  refine r_newq (o := b + 3) (kd := 19) (t0 := 5) (N' := 10) hx hb hown (hts (.classLink RX0 23 RX5) (List.mem_of_getElem? (i := 8) (by decide +kernel))) (hG.2.2.2.2.2.2.2 _ (by decide)) htop rfl ⟨by decide, by decide, by decide, by decide⟩ rfl hP hK hD hT hS hA (by decide) rfl (Nat.le_of_ble_eq_true rfl) (Nat.le_of_ble_eq_true rfl) (Nat.le_of_ble_eq_true rfl) (fun ad => [(0, .ref (ad b))]) hl (fun ad' hh => by simp only [hh _ k0.1]) (fun ad => [.ref (ad b)]) (fun ad' hh => by simp only [hh _ k0.1]) rfl dX0_init_23 (fun ad H hh hP hD hT hS hl => ?_)
  have k0 := k0.up1 (k := 19) (n := 10) htop rfl
  have k1 := k1.up1 (k := 19) (n := 10) htop rfl
  have k2 := k2.up1 (k := 19) (n := 10) htop rfl
  have htop := htop.nw1 (k := 19) (n := 10) (o := (b + 3)) rfl
  have k3 := ok.nwt htop
  have n0 := (gR_z (o := (b + 3)) (by omega)).trans n0
  have n1 := (gR_z (o := (b + 3)) (by omega)).trans n1
  have hold := fun (y : Nat) hy => (hh y (hsub y hy)).trans (hold y hy)
  have hsub := fun (y : Nat) hy => gN_sub (o := b + 3) (k := 19) (n := 10) (hsub y hy)
  refine r_putF (T := TX0) (v := b + 3) hx hb hts in0 tyX0 tyX0_ok nmX0 hown hK hP hD hT hS k0 (by decide) rfl 2 (by decide) (hts (.fieldLink RX0 25 "StoneWalk$Island" "statues" "[LStoneWalk$Stone;") (List.mem_of_getElem? (i := 9) (by decide +kernel))) rfl rfl hin rfl (tyX0_ok 2 (by decide)) rfl rfl rfl (fun t n ht => by cases ht; exact k3) rfl dX0_init_26 (fun H locs hP hD hT hS => ?_)
  have n0 := (gR_p (a := b) (j := 2) (v := some (b + 3)) (by omega)).trans n0
  have n1 := (gR_p (a := b) (j := 2) (v := some (b + 3)) (by omega)).trans n1
  have n2 := gR_s (M := (zM (pR (zM (pR (zM M (b + 1)) (b) 0 (some (b + 1))) (b + 2)) (b) 1 (some (b + 2))) (b + 3))) (a := b) (j := 2) (v := some (b + 3))
  refine lv_aload_n hx hb dX0_init_29 rfl (lv_at hl 0 rfl) ?_
  refine lv_iconst (v := 5) hx hb dX0_init_30 rfl ?_
  refine r_newq (o := b + 4) (kd := 22) (t0 := 8) (N' := 5) hx hb hown (hts (.classLink RX0 29 RX9) (List.mem_of_getElem? (i := 10) (by decide +kernel))) (hG.2.2.2.2.2.2.2 _ (by decide)) htop rfl ⟨by decide, by decide, by decide, by decide⟩ rfl hP hK hD hT hS hA (by decide) rfl (Nat.le_of_ble_eq_true rfl) (Nat.le_of_ble_eq_true rfl) (Nat.le_of_ble_eq_true rfl) (fun ad => [(0, .ref (ad b))]) hl (fun ad' hh => by simp only [hh _ k0.1]) (fun ad => [.ref (ad b)]) (fun ad' hh => by simp only [hh _ k0.1]) rfl dX0_init_31 (fun ad H hh hP hD hT hS hl => ?_)
  have k0 := k0.up1 (k := 22) (n := 5) htop rfl
  have k1 := k1.up1 (k := 22) (n := 5) htop rfl
  have k2 := k2.up1 (k := 22) (n := 5) htop rfl
  have k3 := k3.up1 (k := 22) (n := 5) htop rfl
  have htop := htop.nw1 (k := 22) (n := 5) (o := (b + 4)) rfl
  have k4 := ok.nwt htop
  have n0 := (gR_z (o := (b + 4)) (by omega)).trans n0
  have n1 := (gR_z (o := (b + 4)) (by omega)).trans n1
  have n2 := (gR_z (o := (b + 4)) (by omega)).trans n2
  have hold := fun (y : Nat) hy => (hh y (hsub y hy)).trans (hold y hy)
  have hsub := fun (y : Nat) hy => gN_sub (o := b + 4) (k := 22) (n := 5) (hsub y hy)
  refine r_putF (T := TX0) (v := b + 4) hx hb hts in0 tyX0 tyX0_ok nmX0 hown hK hP hD hT hS k0 (by decide) rfl 3 (by decide) (hts (.fieldLink RX0 31 "StoneWalk$Island" "trials" "[LStoneWalk$Trial;") (List.mem_of_getElem? (i := 11) (by decide +kernel))) rfl rfl hin rfl (tyX0_ok 3 (by decide)) rfl rfl rfl (fun t n ht => by cases ht; exact k4) rfl dX0_init_34 (fun H locs hP hD hT hS => ?_)
  have n0 := (gR_p (a := b) (j := 3) (v := some (b + 4)) (by omega)).trans n0
  have n1 := (gR_p (a := b) (j := 3) (v := some (b + 4)) (by omega)).trans n1
  have n2 := (gR_p (a := b) (j := 3) (v := some (b + 4)) (by omega)).trans n2
  have n3 := gR_s (M := (zM (pR (zM (pR (zM (pR (zM M (b + 1)) (b) 0 (some (b + 1))) (b + 2)) (b) 1 (some (b + 2))) (b + 3)) (b) 2 (some (b + 3))) (b + 4))) (a := b) (j := 3) (v := some (b + 4))
  refine lv_aload_n hx hb dX0_init_37 rfl (lv_at hl 0 rfl) ?_
  refine lv_iconst (v := 5) hx hb dX0_init_38 rfl ?_
  refine r_newq (o := b + 5) (kd := 20) (t0 := 6) (N' := 5) hx hb hown (hts (.classLink RX0 35 RX6) (List.mem_of_getElem? (i := 12) (by decide +kernel))) (hG.2.2.2.2.2.2.2 _ (by decide)) htop rfl ⟨by decide, by decide, by decide, by decide⟩ rfl hP hK hD hT hS hA (by decide) rfl (Nat.le_of_ble_eq_true rfl) (Nat.le_of_ble_eq_true rfl) (Nat.le_of_ble_eq_true rfl) (fun ad => [(0, .ref (ad b))]) hl (fun ad' hh => by simp only [hh _ k0.1]) (fun ad => [.ref (ad b)]) (fun ad' hh => by simp only [hh _ k0.1]) rfl dX0_init_39 (fun ad H hh hP hD hT hS hl => ?_)
  have k0 := k0.up1 (k := 20) (n := 5) htop rfl
  have k1 := k1.up1 (k := 20) (n := 5) htop rfl
  have k2 := k2.up1 (k := 20) (n := 5) htop rfl
  have k3 := k3.up1 (k := 20) (n := 5) htop rfl
  have k4 := k4.up1 (k := 20) (n := 5) htop rfl
  have htop := htop.nw1 (k := 20) (n := 5) (o := (b + 5)) rfl
  have k5 := ok.nwt htop
  have n0 := (gR_z (o := (b + 5)) (by omega)).trans n0
  have n1 := (gR_z (o := (b + 5)) (by omega)).trans n1
  have n2 := (gR_z (o := (b + 5)) (by omega)).trans n2
  have n3 := (gR_z (o := (b + 5)) (by omega)).trans n3
  have hold := fun (y : Nat) hy => (hh y (hsub y hy)).trans (hold y hy)
  have hsub := fun (y : Nat) hy => gN_sub (o := b + 5) (k := 20) (n := 5) (hsub y hy)
  refine r_putF (T := TX0) (v := b + 5) hx hb hts in0 tyX0 tyX0_ok nmX0 hown hK hP hD hT hS k0 (by decide) rfl 4 (by decide) (hts (.fieldLink RX0 37 "StoneWalk$Island" "stories" "[LStoneWalk$Story;") (List.mem_of_getElem? (i := 13) (by decide +kernel))) rfl rfl hin rfl (tyX0_ok 4 (by decide)) rfl rfl rfl (fun t n ht => by cases ht; exact k5) rfl dX0_init_42 (fun H locs hP hD hT hS => ?_)
  have n0 := (gR_p (a := b) (j := 4) (v := some (b + 5)) (by omega)).trans n0
  have n1 := (gR_p (a := b) (j := 4) (v := some (b + 5)) (by omega)).trans n1
  have n2 := (gR_p (a := b) (j := 4) (v := some (b + 5)) (by omega)).trans n2
  have n3 := (gR_p (a := b) (j := 4) (v := some (b + 5)) (by omega)).trans n3
  have n4 := gR_s (M := (zM (pR (zM (pR (zM (pR (zM (pR (zM M (b + 1)) (b) 0 (some (b + 1))) (b + 2)) (b) 1 (some (b + 2))) (b + 3)) (b) 2 (some (b + 3))) (b + 4)) (b) 3 (some (b + 4))) (b + 5))) (a := b) (j := 4) (v := some (b + 5))
  refine lv_aload_n hx hb dX0_init_45 rfl (lv_at hl 0 rfl) ?_
  refine lv_iconst (v := 3) hx hb dX0_init_46 rfl ?_
  refine r_newq (o := b + 6) (kd := 21) (t0 := 7) (N' := 3) hx hb hown (hts (.classLink RX0 41 RX8) (List.mem_of_getElem? (i := 14) (by decide +kernel))) (hG.2.2.2.2.2.2.2 _ (by decide)) htop rfl ⟨by decide, by decide, by decide, by decide⟩ rfl hP hK hD hT hS hA (by decide) rfl (Nat.le_of_ble_eq_true rfl) (Nat.le_of_ble_eq_true rfl) (Nat.le_of_ble_eq_true rfl) (fun ad => [(0, .ref (ad b))]) hl (fun ad' hh => by simp only [hh _ k0.1]) (fun ad => [.ref (ad b)]) (fun ad' hh => by simp only [hh _ k0.1]) rfl dX0_init_47 (fun ad H hh hP hD hT hS hl => ?_)
  have k0 := k0.up1 (k := 21) (n := 3) htop rfl
  have k1 := k1.up1 (k := 21) (n := 3) htop rfl
  have k2 := k2.up1 (k := 21) (n := 3) htop rfl
  have k3 := k3.up1 (k := 21) (n := 3) htop rfl
  have k4 := k4.up1 (k := 21) (n := 3) htop rfl
  have k5 := k5.up1 (k := 21) (n := 3) htop rfl
  have htop := htop.nw1 (k := 21) (n := 3) (o := (b + 6)) rfl
  have k6 := ok.nwt htop
  have n0 := (gR_z (o := (b + 6)) (by omega)).trans n0
  have n1 := (gR_z (o := (b + 6)) (by omega)).trans n1
  have n2 := (gR_z (o := (b + 6)) (by omega)).trans n2
  have n3 := (gR_z (o := (b + 6)) (by omega)).trans n3
  have n4 := (gR_z (o := (b + 6)) (by omega)).trans n4
  have hold := fun (y : Nat) hy => (hh y (hsub y hy)).trans (hold y hy)
  have hsub := fun (y : Nat) hy => gN_sub (o := b + 6) (k := 21) (n := 3) (hsub y hy)
  refine r_putF (T := TX0) (v := b + 6) hx hb hts in0 tyX0 tyX0_ok nmX0 hown hK hP hD hT hS k0 (by decide) rfl 5 (by decide) (hts (.fieldLink RX0 43 "StoneWalk$Island" "tellers" "[LStoneWalk$Teller;") (List.mem_of_getElem? (i := 15) (by decide +kernel))) rfl rfl hin rfl (tyX0_ok 5 (by decide)) rfl rfl rfl (fun t n ht => by cases ht; exact k6) rfl dX0_init_50 (fun H locs hP hD hT hS => ?_)
  have n0 := (gR_p (a := b) (j := 5) (v := some (b + 6)) (by omega)).trans n0
  have n1 := (gR_p (a := b) (j := 5) (v := some (b + 6)) (by omega)).trans n1
  have n2 := (gR_p (a := b) (j := 5) (v := some (b + 6)) (by omega)).trans n2
  have n3 := (gR_p (a := b) (j := 5) (v := some (b + 6)) (by omega)).trans n3
  have n4 := (gR_p (a := b) (j := 5) (v := some (b + 6)) (by omega)).trans n4
  have n5 := gR_s (M := (zM (pR (zM (pR (zM (pR (zM (pR (zM (pR (zM M (b + 1)) (b) 0 (some (b + 1))) (b + 2)) (b) 1 (some (b + 2))) (b + 3)) (b) 2 (some (b + 3))) (b + 4)) (b) 3 (some (b + 4))) (b + 5)) (b) 4 (some (b + 5))) (b + 6))) (a := b) (j := 5) (v := some (b + 6))
  refine lv_aload_n hx hb dX0_init_53 rfl (lv_at hl 0 rfl) ?_
  refine lv_iconst (v := 5) hx hb dX0_init_54 rfl ?_
  refine r_newq (o := b + 7) (kd := 19) (t0 := 5) (N' := 5) hx hb hown (hts (.classLink RX0 23 RX5) (List.mem_of_getElem? (i := 8) (by decide +kernel))) (hG.2.2.2.2.2.2.2 _ (by decide)) htop rfl ⟨by decide, by decide, by decide, by decide⟩ rfl hP hK hD hT hS hA (by decide) rfl (Nat.le_of_ble_eq_true rfl) (Nat.le_of_ble_eq_true rfl) (Nat.le_of_ble_eq_true rfl) (fun ad => [(0, .ref (ad b))]) hl (fun ad' hh => by simp only [hh _ k0.1]) (fun ad => [.ref (ad b)]) (fun ad' hh => by simp only [hh _ k0.1]) rfl dX0_init_55 (fun ad H hh hP hD hT hS hl => ?_)
  have k0 := k0.up1 (k := 19) (n := 5) htop rfl
  have k1 := k1.up1 (k := 19) (n := 5) htop rfl
  have k2 := k2.up1 (k := 19) (n := 5) htop rfl
  have k3 := k3.up1 (k := 19) (n := 5) htop rfl
  have k4 := k4.up1 (k := 19) (n := 5) htop rfl
  have k5 := k5.up1 (k := 19) (n := 5) htop rfl
  have k6 := k6.up1 (k := 19) (n := 5) htop rfl
  have htop := htop.nw1 (k := 19) (n := 5) (o := (b + 7)) rfl
  have k7 := ok.nwt htop
  have n0 := (gR_z (o := (b + 7)) (by omega)).trans n0
  have n1 := (gR_z (o := (b + 7)) (by omega)).trans n1
  have n2 := (gR_z (o := (b + 7)) (by omega)).trans n2
  have n3 := (gR_z (o := (b + 7)) (by omega)).trans n3
  have n4 := (gR_z (o := (b + 7)) (by omega)).trans n4
  have n5 := (gR_z (o := (b + 7)) (by omega)).trans n5
  have hold := fun (y : Nat) hy => (hh y (hsub y hy)).trans (hold y hy)
  have hsub := fun (y : Nat) hy => gN_sub (o := b + 7) (k := 19) (n := 5) (hsub y hy)
  refine r_putF (T := TX0) (v := b + 7) hx hb hts in0 tyX0 tyX0_ok nmX0 hown hK hP hD hT hS k0 (by decide) rfl 6 (by decide) (hts (.fieldLink RX0 47 "StoneWalk$Island" "things" "[LStoneWalk$Stone;") (List.mem_of_getElem? (i := 16) (by decide +kernel))) rfl rfl hin rfl (tyX0_ok 6 (by decide)) rfl rfl rfl (fun t n ht => by cases ht; exact k7) rfl dX0_init_58 (fun H locs hP hD hT hS => ?_)
  have n0 := (gR_p (a := b) (j := 6) (v := some (b + 7)) (by omega)).trans n0
  have n1 := (gR_p (a := b) (j := 6) (v := some (b + 7)) (by omega)).trans n1
  have n2 := (gR_p (a := b) (j := 6) (v := some (b + 7)) (by omega)).trans n2
  have n3 := (gR_p (a := b) (j := 6) (v := some (b + 7)) (by omega)).trans n3
  have n4 := (gR_p (a := b) (j := 6) (v := some (b + 7)) (by omega)).trans n4
  have n5 := (gR_p (a := b) (j := 6) (v := some (b + 7)) (by omega)).trans n5
  have n6 := gR_s (M := (zM (pR (zM (pR (zM (pR (zM (pR (zM (pR (zM (pR (zM M (b + 1)) (b) 0 (some (b + 1))) (b + 2)) (b) 1 (some (b + 2))) (b + 3)) (b) 2 (some (b + 3))) (b + 4)) (b) 3 (some (b + 4))) (b + 5)) (b) 4 (some (b + 5))) (b + 6)) (b) 5 (some (b + 6))) (b + 7))) (a := b) (j := 6) (v := some (b + 7))
  refine lv_aload_n hx hb dX0_init_61 rfl (lv_at hl 0 rfl) ?_
  refine lv_bipush (v := 10) hx hb dX0_init_62 rfl ?_
  refine r_newa (atype := .int) (o := b + 8) (kd := 15) (t0 := 1) (N' := 10) hx hb (hts (.arrayClass .int) (List.mem_of_getElem? (i := 17) (by decide +kernel))) rfl htop rfl (by decide) rfl (fun cA h1 h2 => Option.some.inj (h1.symm.trans h2)) hP hK hD hT hS hA new_i (fun _ => arE_e (by decide)) (by decide) rfl (Nat.le_of_ble_eq_true rfl) (Nat.le_of_ble_eq_true rfl) (Nat.le_of_ble_eq_true rfl) (fun ad => [(0, .ref (ad b))]) hl (fun ad' hh => by simp only [hh _ k0.1]) (fun ad => [.ref (ad b)]) (fun ad' hh => by simp only [hh _ k0.1]) rfl dX0_init_64 (fun ad H hh hP hD hT hS hl => ?_)
  have k0 := k0.up1 (k := 15) (n := 10) htop rfl
  have k1 := k1.up1 (k := 15) (n := 10) htop rfl
  have k2 := k2.up1 (k := 15) (n := 10) htop rfl
  have k3 := k3.up1 (k := 15) (n := 10) htop rfl
  have k4 := k4.up1 (k := 15) (n := 10) htop rfl
  have k5 := k5.up1 (k := 15) (n := 10) htop rfl
  have k6 := k6.up1 (k := 15) (n := 10) htop rfl
  have k7 := k7.up1 (k := 15) (n := 10) htop rfl
  have htop := htop.nw1 (k := 15) (n := 10) (o := (b + 8)) rfl
  have k8 := ok.nwt htop
  have n0 := (gR_z (o := (b + 8)) (by omega)).trans n0
  have n1 := (gR_z (o := (b + 8)) (by omega)).trans n1
  have n2 := (gR_z (o := (b + 8)) (by omega)).trans n2
  have n3 := (gR_z (o := (b + 8)) (by omega)).trans n3
  have n4 := (gR_z (o := (b + 8)) (by omega)).trans n4
  have n5 := (gR_z (o := (b + 8)) (by omega)).trans n5
  have n6 := (gR_z (o := (b + 8)) (by omega)).trans n6
  have hold := fun (y : Nat) hy => (hh y (hsub y hy)).trans (hold y hy)
  have hsub := fun (y : Nat) hy => gN_sub (o := b + 8) (k := 15) (n := 10) (hsub y hy)
  refine r_putF (T := TX0) (v := b + 8) hx hb hts in0 tyX0 tyX0_ok nmX0 hown hK hP hD hT hS k0 (by decide) rfl 7 (by decide) (hts (.fieldLink RX0 50 "StoneWalk$Island" "counts" "[I") (List.mem_of_getElem? (i := 18) (by decide +kernel))) rfl rfl hin rfl (tyX0_ok 7 (by decide)) rfl rfl rfl (fun t n ht => by cases ht; exact k8) rfl dX0_init_66 (fun H locs hP hD hT hS => ?_)
  have n0 := (gR_p (a := b) (j := 7) (v := some (b + 8)) (by omega)).trans n0
  have n1 := (gR_p (a := b) (j := 7) (v := some (b + 8)) (by omega)).trans n1
  have n2 := (gR_p (a := b) (j := 7) (v := some (b + 8)) (by omega)).trans n2
  have n3 := (gR_p (a := b) (j := 7) (v := some (b + 8)) (by omega)).trans n3
  have n4 := (gR_p (a := b) (j := 7) (v := some (b + 8)) (by omega)).trans n4
  have n5 := (gR_p (a := b) (j := 7) (v := some (b + 8)) (by omega)).trans n5
  have n6 := (gR_p (a := b) (j := 7) (v := some (b + 8)) (by omega)).trans n6
  have n7 := gR_s (M := (zM (pR (zM (pR (zM (pR (zM (pR (zM (pR (zM (pR (zM (pR (zM M (b + 1)) (b) 0 (some (b + 1))) (b + 2)) (b) 1 (some (b + 2))) (b + 3)) (b) 2 (some (b + 3))) (b + 4)) (b) 3 (some (b + 4))) (b + 5)) (b) 4 (some (b + 5))) (b + 6)) (b) 5 (some (b + 6))) (b + 7)) (b) 6 (some (b + 7))) (b + 8))) (a := b) (j := 7) (v := some (b + 8))
  refine lv_iconst (v := 0) hx hb dX0_init_69 rfl ?_
  refine lv_istore_n (lv' := [(1, .int 0), (0, .ref (ad b))]) hx hb dX0_init_70 rfl hl (by decide) rfl (fun ls hl => ?_)
  refine lv_iload_n hx hb dX0_init_71 rfl (lv_at hl 0 rfl) ?_
  refine lv_aload_n hx hb dX0_init_72 rfl (lv_at hl 1 rfl) ?_
  refine r_get (T := TX0) (v := .ref (ad (b + 1))) hx hb hts in0 hown hK hP k0 (by decide) rfl 0 (by decide) (hts (.fieldLink RX0 11 "StoneWalk$Island" "ways" "[LStoneWalk$Way;") (List.mem_of_getElem? (i := 5) (by decide +kernel))) rfl (t := 2) rfl (congrArg (fun z : Option Nat => va_rf (z.map ad)) n0) dX0_init_73 ?_
  refine r_alen (t0 := 9) (v := 4) hx hb hK hP k1 (by decide) rfl rfl dX0_init_76 ?_
  refine lv_icmp_ge (tgt := 99) hx hb dX0_init_77 rfl (fun c => absurd c (by decide)) (fun _ => ?_)
  refine lv_aload_n hx hb dX0_init_80 rfl (lv_at hl 1 rfl) ?_
  refine r_get (T := TX0) (v := .ref (ad (b + 1))) hx hb hts in0 hown hK hP k0 (by decide) rfl 0 (by decide) (hts (.fieldLink RX0 11 "StoneWalk$Island" "ways" "[LStoneWalk$Way;") (List.mem_of_getElem? (i := 5) (by decide +kernel))) rfl (t := 2) rfl (congrArg (fun z : Option Nat => va_rf (z.map ad)) n0) dX0_init_81 ?_
  refine lv_iload_n hx hb dX0_init_84 rfl (lv_at hl 0 rfl) ?_
  refine r_new (T := TX10) (ci := 10) (o := b + 9) hx hb hts in10 tyX10 tyX10_ok hown (hts (.classLink RX0 9 RX10) (List.mem_of_getElem? (i := 4) (by decide +kernel))) (hts (.instantiable RX10 3) (List.mem_of_getElem? (i := 19) (by decide +kernel))) (hts (.initialized RX10) (List.mem_of_getElem? (i := 20) (by decide +kernel))) hP hK hD hT hS hA (by decide) rfl htop rfl (fun j hj => by rw [fv_z]; rcases (show j = 0 ∨ j = 1 ∨ j = 2 by omega) with rfl | rfl | rfl <;> rfl) (fun _ => fv_e) (Nat.le_of_ble_eq_true rfl) (Nat.le_of_ble_eq_true rfl) (fun ad => [(1, .int 0), (0, .ref (ad b))]) hl (fun ad' hh => by simp only [hh _ k0.1]) (fun ad => [.int 0, .ref (ad (b + 1))]) (fun ad' hh => by simp only [hh _ k1.1]) rfl dX0_init_85 (fun ad H hh hP hD hT hS hl => ?_)
  have k0 := k0.up1 (k := 10) (n := 0) htop rfl
  have k1 := k1.up1 (k := 10) (n := 0) htop rfl
  have k2 := k2.up1 (k := 10) (n := 0) htop rfl
  have k3 := k3.up1 (k := 10) (n := 0) htop rfl
  have k4 := k4.up1 (k := 10) (n := 0) htop rfl
  have k5 := k5.up1 (k := 10) (n := 0) htop rfl
  have k6 := k6.up1 (k := 10) (n := 0) htop rfl
  have k7 := k7.up1 (k := 10) (n := 0) htop rfl
  have k8 := k8.up1 (k := 10) (n := 0) htop rfl
  have htop := htop.nw1 (k := 10) (n := 0) (o := (b + 9)) rfl
  have k9 := ok.nwt htop
  have n0 := (gR_z (o := (b + 9)) (by omega)).trans n0
  have n1 := (gR_z (o := (b + 9)) (by omega)).trans n1
  have n2 := (gR_z (o := (b + 9)) (by omega)).trans n2
  have n3 := (gR_z (o := (b + 9)) (by omega)).trans n3
  have n4 := (gR_z (o := (b + 9)) (by omega)).trans n4
  have n5 := (gR_z (o := (b + 9)) (by omega)).trans n5
  have n6 := (gR_z (o := (b + 9)) (by omega)).trans n6
  have n7 := (gR_z (o := (b + 9)) (by omega)).trans n7
  have hold := fun (y : Nat) hy => (hh y (hsub y hy)).trans (hold y hy)
  have hsub := fun (y : Nat) hy => gN_sub (o := b + 9) (k := 10) (n := 0) (hsub y hy)
  refine lv_dup hx hb dX0_init_88 rfl ?_
  refine k_n (va_runIN (As := []) (rest := [.ref (ad (b + 9)), .int 0, .ref (ad (b + 1))]) ⟨hx, hb, hml, hown, hts⟩ (c_X10_init (l := l) _ (b + 9) k9 htop) ⟨va_cnB 0 hts gX0_init_X10_init_n54 rfl rfl rfl (hG.2.1 ("StoneWalk$Island", 54, ⟨"StoneWalk$Way", "<init>", "()V"⟩, "StoneWalk") (List.mem_of_getElem? (i := 3) rfl)) (hts (.initialized RX10) (List.mem_of_getElem? (i := 20) (by decide +kernel))) hdI_X10_init ⟨Nat.le_of_ble_eq_true rfl, Nat.le_of_ble_eq_true rfl⟩, rfl, (hts (.instanceMethod yX10_init) (List.mem_of_getElem? (i := 31) (by decide +kernel)))⟩ (pSA hP hK hD hT hG hS hA) rfl rfl hl.1 rfl (lv_room (Nat.le_of_ble_eq_true rfl)) dX0_init_89 ⟨Nat.le_of_ble_eq_true rfl, Nat.le_of_ble_eq_true rfl⟩) hS (fun ad => [(1, .int 0), (0, .ref (ad b))]) hl (fun ad' hh => by simp only [hh _ k0.1]) (fun ad => [.ref (ad (b + 9)), .int 0, .ref (ad (b + 1))]) (fun ad' hh => by simp only [hh _ k9.1, hh _ k1.1]) rfl (fun ad H locs hh hP hD hT htop1 hS hl => ?_)
  have hold := fun (y : Nat) hy => (hh y (hsub y hy)).trans (hold y hy)
  have htop := htop1
  refine r_aast (t0 := 9) hx hb hP hK hD hT hS k1 ⟨by decide, by decide, by decide, by decide⟩ rfl k9 (by decide) rfl (fun _ => rfl) rfl (i := 0) (by decide) dX0_init_92 (fun H locs hP hD hT hS => ?_)
  have n0 := (gR_p (a := (b + 1)) (j := ix 0) (v := some (b + 9)) (by omega)).trans n0
  have n1 := (gR_p (a := (b + 1)) (j := ix 0) (v := some (b + 9)) (by omega)).trans n1
  have n2 := (gR_p (a := (b + 1)) (j := ix 0) (v := some (b + 9)) (by omega)).trans n2
  have n3 := (gR_p (a := (b + 1)) (j := ix 0) (v := some (b + 9)) (by omega)).trans n3
  have n4 := (gR_p (a := (b + 1)) (j := ix 0) (v := some (b + 9)) (by omega)).trans n4
  have n5 := (gR_p (a := (b + 1)) (j := ix 0) (v := some (b + 9)) (by omega)).trans n5
  have n6 := (gR_p (a := (b + 1)) (j := ix 0) (v := some (b + 9)) (by omega)).trans n6
  have n7 := (gR_p (a := (b + 1)) (j := ix 0) (v := some (b + 9)) (by omega)).trans n7
  refine lv_iinc (v := 1) (lv' := [(1, .int 1), (0, .ref (ad b))]) hx hb dX0_init_93 hl (k := 0) rfl (by decide) (by decide) rfl (fun ls hl => ?_)
  refine lv_goto (tgt := 71) hx hb dX0_init_96 rfl ?_
  refine lv_iload_n hx hb dX0_init_71 rfl (lv_at hl 0 rfl) ?_
  refine lv_aload_n hx hb dX0_init_72 rfl (lv_at hl 1 rfl) ?_
  refine r_get (T := TX0) (v := .ref (ad (b + 1))) hx hb hts in0 hown hK hP k0 (by decide) rfl 0 (by decide) (hts (.fieldLink RX0 11 "StoneWalk$Island" "ways" "[LStoneWalk$Way;") (List.mem_of_getElem? (i := 5) (by decide +kernel))) rfl (t := 2) rfl (congrArg (fun z : Option Nat => va_rf (z.map ad)) n0) dX0_init_73 ?_
  refine r_alen (t0 := 9) (v := 4) hx hb hK hP k1 (by decide) rfl rfl dX0_init_76 ?_
  refine lv_icmp_ge (tgt := 99) hx hb dX0_init_77 rfl (fun c => absurd c (by decide)) (fun _ => ?_)
  refine lv_aload_n hx hb dX0_init_80 rfl (lv_at hl 1 rfl) ?_
  refine r_get (T := TX0) (v := .ref (ad (b + 1))) hx hb hts in0 hown hK hP k0 (by decide) rfl 0 (by decide) (hts (.fieldLink RX0 11 "StoneWalk$Island" "ways" "[LStoneWalk$Way;") (List.mem_of_getElem? (i := 5) (by decide +kernel))) rfl (t := 2) rfl (congrArg (fun z : Option Nat => va_rf (z.map ad)) n0) dX0_init_81 ?_
  refine lv_iload_n hx hb dX0_init_84 rfl (lv_at hl 0 rfl) ?_
  refine r_new (T := TX10) (ci := 10) (o := b + 10) hx hb hts in10 tyX10 tyX10_ok hown (hts (.classLink RX0 9 RX10) (List.mem_of_getElem? (i := 4) (by decide +kernel))) (hts (.instantiable RX10 3) (List.mem_of_getElem? (i := 19) (by decide +kernel))) (hts (.initialized RX10) (List.mem_of_getElem? (i := 20) (by decide +kernel))) hP hK hD hT hS hA (by decide) rfl htop rfl (fun j hj => by rw [fv_z]; rcases (show j = 0 ∨ j = 1 ∨ j = 2 by omega) with rfl | rfl | rfl <;> rfl) (fun _ => fv_e) (Nat.le_of_ble_eq_true rfl) (Nat.le_of_ble_eq_true rfl) (fun ad => [(1, .int 1), (0, .ref (ad b))]) hl (fun ad' hh => by simp only [hh _ k0.1]) (fun ad => [.int 1, .ref (ad (b + 1))]) (fun ad' hh => by simp only [hh _ k1.1]) rfl dX0_init_85 (fun ad H hh hP hD hT hS hl => ?_)
  have k0 := k0.up1 (k := 10) (n := 0) htop rfl
  have k1 := k1.up1 (k := 10) (n := 0) htop rfl
  have k2 := k2.up1 (k := 10) (n := 0) htop rfl
  have k3 := k3.up1 (k := 10) (n := 0) htop rfl
  have k4 := k4.up1 (k := 10) (n := 0) htop rfl
  have k5 := k5.up1 (k := 10) (n := 0) htop rfl
  have k6 := k6.up1 (k := 10) (n := 0) htop rfl
  have k7 := k7.up1 (k := 10) (n := 0) htop rfl
  have k8 := k8.up1 (k := 10) (n := 0) htop rfl
  have htop := htop.nw1 (k := 10) (n := 0) (o := (b + 10)) rfl
  have k10 := ok.nwt htop
  have n0 := (gR_z (o := (b + 10)) (by omega)).trans n0
  have n1 := (gR_z (o := (b + 10)) (by omega)).trans n1
  have n2 := (gR_z (o := (b + 10)) (by omega)).trans n2
  have n3 := (gR_z (o := (b + 10)) (by omega)).trans n3
  have n4 := (gR_z (o := (b + 10)) (by omega)).trans n4
  have n5 := (gR_z (o := (b + 10)) (by omega)).trans n5
  have n6 := (gR_z (o := (b + 10)) (by omega)).trans n6
  have n7 := (gR_z (o := (b + 10)) (by omega)).trans n7
  have hold := fun (y : Nat) hy => (hh y (hsub y hy)).trans (hold y hy)
  have hsub := fun (y : Nat) hy => gN_sub (o := b + 10) (k := 10) (n := 0) (hsub y hy)
  refine lv_dup hx hb dX0_init_88 rfl ?_
  refine k_n (va_runIN (As := []) (rest := [.ref (ad (b + 10)), .int 1, .ref (ad (b + 1))]) ⟨hx, hb, hml, hown, hts⟩ (c_X10_init (l := l) _ (b + 10) k10 htop) ⟨va_cnB 0 hts gX0_init_X10_init_n54 rfl rfl rfl (hG.2.1 ("StoneWalk$Island", 54, ⟨"StoneWalk$Way", "<init>", "()V"⟩, "StoneWalk") (List.mem_of_getElem? (i := 3) rfl)) (hts (.initialized RX10) (List.mem_of_getElem? (i := 20) (by decide +kernel))) hdI_X10_init ⟨Nat.le_of_ble_eq_true rfl, Nat.le_of_ble_eq_true rfl⟩, rfl, (hts (.instanceMethod yX10_init) (List.mem_of_getElem? (i := 31) (by decide +kernel)))⟩ (pSA hP hK hD hT hG hS hA) rfl rfl hl.1 rfl (lv_room (Nat.le_of_ble_eq_true rfl)) dX0_init_89 ⟨Nat.le_of_ble_eq_true rfl, Nat.le_of_ble_eq_true rfl⟩) hS (fun ad => [(1, .int 1), (0, .ref (ad b))]) hl (fun ad' hh => by simp only [hh _ k0.1]) (fun ad => [.ref (ad (b + 10)), .int 1, .ref (ad (b + 1))]) (fun ad' hh => by simp only [hh _ k10.1, hh _ k1.1]) rfl (fun ad H locs hh hP hD hT htop1 hS hl => ?_)
  have hold := fun (y : Nat) hy => (hh y (hsub y hy)).trans (hold y hy)
  have htop := htop1
  refine r_aast (t0 := 9) hx hb hP hK hD hT hS k1 ⟨by decide, by decide, by decide, by decide⟩ rfl k10 (by decide) rfl (fun _ => rfl) rfl (i := 1) (by decide) dX0_init_92 (fun H locs hP hD hT hS => ?_)
  have n0 := (gR_p (a := (b + 1)) (j := ix 1) (v := some (b + 10)) (by omega)).trans n0
  have n1 := (gR_p (a := (b + 1)) (j := ix 1) (v := some (b + 10)) (by omega)).trans n1
  have n2 := (gR_p (a := (b + 1)) (j := ix 1) (v := some (b + 10)) (by omega)).trans n2
  have n3 := (gR_p (a := (b + 1)) (j := ix 1) (v := some (b + 10)) (by omega)).trans n3
  have n4 := (gR_p (a := (b + 1)) (j := ix 1) (v := some (b + 10)) (by omega)).trans n4
  have n5 := (gR_p (a := (b + 1)) (j := ix 1) (v := some (b + 10)) (by omega)).trans n5
  have n6 := (gR_p (a := (b + 1)) (j := ix 1) (v := some (b + 10)) (by omega)).trans n6
  have n7 := (gR_p (a := (b + 1)) (j := ix 1) (v := some (b + 10)) (by omega)).trans n7
  refine lv_iinc (v := 2) (lv' := [(1, .int 2), (0, .ref (ad b))]) hx hb dX0_init_93 hl (k := 0) rfl (by decide) (by decide) rfl (fun ls hl => ?_)
  refine lv_goto (tgt := 71) hx hb dX0_init_96 rfl ?_
  refine lv_iload_n hx hb dX0_init_71 rfl (lv_at hl 0 rfl) ?_
  refine lv_aload_n hx hb dX0_init_72 rfl (lv_at hl 1 rfl) ?_
  refine r_get (T := TX0) (v := .ref (ad (b + 1))) hx hb hts in0 hown hK hP k0 (by decide) rfl 0 (by decide) (hts (.fieldLink RX0 11 "StoneWalk$Island" "ways" "[LStoneWalk$Way;") (List.mem_of_getElem? (i := 5) (by decide +kernel))) rfl (t := 2) rfl (congrArg (fun z : Option Nat => va_rf (z.map ad)) n0) dX0_init_73 ?_
  refine r_alen (t0 := 9) (v := 4) hx hb hK hP k1 (by decide) rfl rfl dX0_init_76 ?_
  refine lv_icmp_ge (tgt := 99) hx hb dX0_init_77 rfl (fun c => absurd c (by decide)) (fun _ => ?_)
  refine lv_aload_n hx hb dX0_init_80 rfl (lv_at hl 1 rfl) ?_
  refine r_get (T := TX0) (v := .ref (ad (b + 1))) hx hb hts in0 hown hK hP k0 (by decide) rfl 0 (by decide) (hts (.fieldLink RX0 11 "StoneWalk$Island" "ways" "[LStoneWalk$Way;") (List.mem_of_getElem? (i := 5) (by decide +kernel))) rfl (t := 2) rfl (congrArg (fun z : Option Nat => va_rf (z.map ad)) n0) dX0_init_81 ?_
  refine lv_iload_n hx hb dX0_init_84 rfl (lv_at hl 0 rfl) ?_
  refine r_new (T := TX10) (ci := 10) (o := b + 11) hx hb hts in10 tyX10 tyX10_ok hown (hts (.classLink RX0 9 RX10) (List.mem_of_getElem? (i := 4) (by decide +kernel))) (hts (.instantiable RX10 3) (List.mem_of_getElem? (i := 19) (by decide +kernel))) (hts (.initialized RX10) (List.mem_of_getElem? (i := 20) (by decide +kernel))) hP hK hD hT hS hA (by decide) rfl htop rfl (fun j hj => by rw [fv_z]; rcases (show j = 0 ∨ j = 1 ∨ j = 2 by omega) with rfl | rfl | rfl <;> rfl) (fun _ => fv_e) (Nat.le_of_ble_eq_true rfl) (Nat.le_of_ble_eq_true rfl) (fun ad => [(1, .int 2), (0, .ref (ad b))]) hl (fun ad' hh => by simp only [hh _ k0.1]) (fun ad => [.int 2, .ref (ad (b + 1))]) (fun ad' hh => by simp only [hh _ k1.1]) rfl dX0_init_85 (fun ad H hh hP hD hT hS hl => ?_)
  have k0 := k0.up1 (k := 10) (n := 0) htop rfl
  have k1 := k1.up1 (k := 10) (n := 0) htop rfl
  have k2 := k2.up1 (k := 10) (n := 0) htop rfl
  have k3 := k3.up1 (k := 10) (n := 0) htop rfl
  have k4 := k4.up1 (k := 10) (n := 0) htop rfl
  have k5 := k5.up1 (k := 10) (n := 0) htop rfl
  have k6 := k6.up1 (k := 10) (n := 0) htop rfl
  have k7 := k7.up1 (k := 10) (n := 0) htop rfl
  have k8 := k8.up1 (k := 10) (n := 0) htop rfl
  have htop := htop.nw1 (k := 10) (n := 0) (o := (b + 11)) rfl
  have k11 := ok.nwt htop
  have n0 := (gR_z (o := (b + 11)) (by omega)).trans n0
  have n1 := (gR_z (o := (b + 11)) (by omega)).trans n1
  have n2 := (gR_z (o := (b + 11)) (by omega)).trans n2
  have n3 := (gR_z (o := (b + 11)) (by omega)).trans n3
  have n4 := (gR_z (o := (b + 11)) (by omega)).trans n4
  have n5 := (gR_z (o := (b + 11)) (by omega)).trans n5
  have n6 := (gR_z (o := (b + 11)) (by omega)).trans n6
  have n7 := (gR_z (o := (b + 11)) (by omega)).trans n7
  have hold := fun (y : Nat) hy => (hh y (hsub y hy)).trans (hold y hy)
  have hsub := fun (y : Nat) hy => gN_sub (o := b + 11) (k := 10) (n := 0) (hsub y hy)
  refine lv_dup hx hb dX0_init_88 rfl ?_
  refine k_n (va_runIN (As := []) (rest := [.ref (ad (b + 11)), .int 2, .ref (ad (b + 1))]) ⟨hx, hb, hml, hown, hts⟩ (c_X10_init (l := l) _ (b + 11) k11 htop) ⟨va_cnB 0 hts gX0_init_X10_init_n54 rfl rfl rfl (hG.2.1 ("StoneWalk$Island", 54, ⟨"StoneWalk$Way", "<init>", "()V"⟩, "StoneWalk") (List.mem_of_getElem? (i := 3) rfl)) (hts (.initialized RX10) (List.mem_of_getElem? (i := 20) (by decide +kernel))) hdI_X10_init ⟨Nat.le_of_ble_eq_true rfl, Nat.le_of_ble_eq_true rfl⟩, rfl, (hts (.instanceMethod yX10_init) (List.mem_of_getElem? (i := 31) (by decide +kernel)))⟩ (pSA hP hK hD hT hG hS hA) rfl rfl hl.1 rfl (lv_room (Nat.le_of_ble_eq_true rfl)) dX0_init_89 ⟨Nat.le_of_ble_eq_true rfl, Nat.le_of_ble_eq_true rfl⟩) hS (fun ad => [(1, .int 2), (0, .ref (ad b))]) hl (fun ad' hh => by simp only [hh _ k0.1]) (fun ad => [.ref (ad (b + 11)), .int 2, .ref (ad (b + 1))]) (fun ad' hh => by simp only [hh _ k11.1, hh _ k1.1]) rfl (fun ad H locs hh hP hD hT htop1 hS hl => ?_)
  have hold := fun (y : Nat) hy => (hh y (hsub y hy)).trans (hold y hy)
  have htop := htop1
  refine r_aast (t0 := 9) hx hb hP hK hD hT hS k1 ⟨by decide, by decide, by decide, by decide⟩ rfl k11 (by decide) rfl (fun _ => rfl) rfl (i := 2) (by decide) dX0_init_92 (fun H locs hP hD hT hS => ?_)
  have n0 := (gR_p (a := (b + 1)) (j := ix 2) (v := some (b + 11)) (by omega)).trans n0
  have n1 := (gR_p (a := (b + 1)) (j := ix 2) (v := some (b + 11)) (by omega)).trans n1
  have n2 := (gR_p (a := (b + 1)) (j := ix 2) (v := some (b + 11)) (by omega)).trans n2
  have n3 := (gR_p (a := (b + 1)) (j := ix 2) (v := some (b + 11)) (by omega)).trans n3
  have n4 := (gR_p (a := (b + 1)) (j := ix 2) (v := some (b + 11)) (by omega)).trans n4
  have n5 := (gR_p (a := (b + 1)) (j := ix 2) (v := some (b + 11)) (by omega)).trans n5
  have n6 := (gR_p (a := (b + 1)) (j := ix 2) (v := some (b + 11)) (by omega)).trans n6
  have n7 := (gR_p (a := (b + 1)) (j := ix 2) (v := some (b + 11)) (by omega)).trans n7
  refine lv_iinc (v := 3) (lv' := [(1, .int 3), (0, .ref (ad b))]) hx hb dX0_init_93 hl (k := 0) rfl (by decide) (by decide) rfl (fun ls hl => ?_)
  refine lv_goto (tgt := 71) hx hb dX0_init_96 rfl ?_
  refine lv_iload_n hx hb dX0_init_71 rfl (lv_at hl 0 rfl) ?_
  refine lv_aload_n hx hb dX0_init_72 rfl (lv_at hl 1 rfl) ?_
  refine r_get (T := TX0) (v := .ref (ad (b + 1))) hx hb hts in0 hown hK hP k0 (by decide) rfl 0 (by decide) (hts (.fieldLink RX0 11 "StoneWalk$Island" "ways" "[LStoneWalk$Way;") (List.mem_of_getElem? (i := 5) (by decide +kernel))) rfl (t := 2) rfl (congrArg (fun z : Option Nat => va_rf (z.map ad)) n0) dX0_init_73 ?_
  refine r_alen (t0 := 9) (v := 4) hx hb hK hP k1 (by decide) rfl rfl dX0_init_76 ?_
  refine lv_icmp_ge (tgt := 99) hx hb dX0_init_77 rfl (fun c => absurd c (by decide)) (fun _ => ?_)
  refine lv_aload_n hx hb dX0_init_80 rfl (lv_at hl 1 rfl) ?_
  refine r_get (T := TX0) (v := .ref (ad (b + 1))) hx hb hts in0 hown hK hP k0 (by decide) rfl 0 (by decide) (hts (.fieldLink RX0 11 "StoneWalk$Island" "ways" "[LStoneWalk$Way;") (List.mem_of_getElem? (i := 5) (by decide +kernel))) rfl (t := 2) rfl (congrArg (fun z : Option Nat => va_rf (z.map ad)) n0) dX0_init_81 ?_
  refine lv_iload_n hx hb dX0_init_84 rfl (lv_at hl 0 rfl) ?_
  refine r_new (T := TX10) (ci := 10) (o := b + 12) hx hb hts in10 tyX10 tyX10_ok hown (hts (.classLink RX0 9 RX10) (List.mem_of_getElem? (i := 4) (by decide +kernel))) (hts (.instantiable RX10 3) (List.mem_of_getElem? (i := 19) (by decide +kernel))) (hts (.initialized RX10) (List.mem_of_getElem? (i := 20) (by decide +kernel))) hP hK hD hT hS hA (by decide) rfl htop rfl (fun j hj => by rw [fv_z]; rcases (show j = 0 ∨ j = 1 ∨ j = 2 by omega) with rfl | rfl | rfl <;> rfl) (fun _ => fv_e) (Nat.le_of_ble_eq_true rfl) (Nat.le_of_ble_eq_true rfl) (fun ad => [(1, .int 3), (0, .ref (ad b))]) hl (fun ad' hh => by simp only [hh _ k0.1]) (fun ad => [.int 3, .ref (ad (b + 1))]) (fun ad' hh => by simp only [hh _ k1.1]) rfl dX0_init_85 (fun ad H hh hP hD hT hS hl => ?_)
  have k0 := k0.up1 (k := 10) (n := 0) htop rfl
  have k1 := k1.up1 (k := 10) (n := 0) htop rfl
  have k2 := k2.up1 (k := 10) (n := 0) htop rfl
  have k3 := k3.up1 (k := 10) (n := 0) htop rfl
  have k4 := k4.up1 (k := 10) (n := 0) htop rfl
  have k5 := k5.up1 (k := 10) (n := 0) htop rfl
  have k6 := k6.up1 (k := 10) (n := 0) htop rfl
  have k7 := k7.up1 (k := 10) (n := 0) htop rfl
  have k8 := k8.up1 (k := 10) (n := 0) htop rfl
  have htop := htop.nw1 (k := 10) (n := 0) (o := (b + 12)) rfl
  have k12 := ok.nwt htop
  have n0 := (gR_z (o := (b + 12)) (by omega)).trans n0
  have n1 := (gR_z (o := (b + 12)) (by omega)).trans n1
  have n2 := (gR_z (o := (b + 12)) (by omega)).trans n2
  have n3 := (gR_z (o := (b + 12)) (by omega)).trans n3
  have n4 := (gR_z (o := (b + 12)) (by omega)).trans n4
  have n5 := (gR_z (o := (b + 12)) (by omega)).trans n5
  have n6 := (gR_z (o := (b + 12)) (by omega)).trans n6
  have n7 := (gR_z (o := (b + 12)) (by omega)).trans n7
  have hold := fun (y : Nat) hy => (hh y (hsub y hy)).trans (hold y hy)
  have hsub := fun (y : Nat) hy => gN_sub (o := b + 12) (k := 10) (n := 0) (hsub y hy)
  refine lv_dup hx hb dX0_init_88 rfl ?_
  refine k_n (va_runIN (As := []) (rest := [.ref (ad (b + 12)), .int 3, .ref (ad (b + 1))]) ⟨hx, hb, hml, hown, hts⟩ (c_X10_init (l := l) _ (b + 12) k12 htop) ⟨va_cnB 0 hts gX0_init_X10_init_n54 rfl rfl rfl (hG.2.1 ("StoneWalk$Island", 54, ⟨"StoneWalk$Way", "<init>", "()V"⟩, "StoneWalk") (List.mem_of_getElem? (i := 3) rfl)) (hts (.initialized RX10) (List.mem_of_getElem? (i := 20) (by decide +kernel))) hdI_X10_init ⟨Nat.le_of_ble_eq_true rfl, Nat.le_of_ble_eq_true rfl⟩, rfl, (hts (.instanceMethod yX10_init) (List.mem_of_getElem? (i := 31) (by decide +kernel)))⟩ (pSA hP hK hD hT hG hS hA) rfl rfl hl.1 rfl (lv_room (Nat.le_of_ble_eq_true rfl)) dX0_init_89 ⟨Nat.le_of_ble_eq_true rfl, Nat.le_of_ble_eq_true rfl⟩) hS (fun ad => [(1, .int 3), (0, .ref (ad b))]) hl (fun ad' hh => by simp only [hh _ k0.1]) (fun ad => [.ref (ad (b + 12)), .int 3, .ref (ad (b + 1))]) (fun ad' hh => by simp only [hh _ k12.1, hh _ k1.1]) rfl (fun ad H locs hh hP hD hT htop1 hS hl => ?_)
  have hold := fun (y : Nat) hy => (hh y (hsub y hy)).trans (hold y hy)
  have htop := htop1
  refine r_aast (t0 := 9) hx hb hP hK hD hT hS k1 ⟨by decide, by decide, by decide, by decide⟩ rfl k12 (by decide) rfl (fun _ => rfl) rfl (i := 3) (by decide) dX0_init_92 (fun H locs hP hD hT hS => ?_)
  have n0 := (gR_p (a := (b + 1)) (j := ix 3) (v := some (b + 12)) (by omega)).trans n0
  have n1 := (gR_p (a := (b + 1)) (j := ix 3) (v := some (b + 12)) (by omega)).trans n1
  have n2 := (gR_p (a := (b + 1)) (j := ix 3) (v := some (b + 12)) (by omega)).trans n2
  have n3 := (gR_p (a := (b + 1)) (j := ix 3) (v := some (b + 12)) (by omega)).trans n3
  have n4 := (gR_p (a := (b + 1)) (j := ix 3) (v := some (b + 12)) (by omega)).trans n4
  have n5 := (gR_p (a := (b + 1)) (j := ix 3) (v := some (b + 12)) (by omega)).trans n5
  have n6 := (gR_p (a := (b + 1)) (j := ix 3) (v := some (b + 12)) (by omega)).trans n6
  have n7 := (gR_p (a := (b + 1)) (j := ix 3) (v := some (b + 12)) (by omega)).trans n7
  refine lv_iinc (v := 4) (lv' := [(1, .int 4), (0, .ref (ad b))]) hx hb dX0_init_93 hl (k := 0) rfl (by decide) (by decide) rfl (fun ls hl => ?_)
  refine lv_goto (tgt := 71) hx hb dX0_init_96 rfl ?_
  refine lv_iload_n hx hb dX0_init_71 rfl (lv_at hl 0 rfl) ?_
  refine lv_aload_n hx hb dX0_init_72 rfl (lv_at hl 1 rfl) ?_
  refine r_get (T := TX0) (v := .ref (ad (b + 1))) hx hb hts in0 hown hK hP k0 (by decide) rfl 0 (by decide) (hts (.fieldLink RX0 11 "StoneWalk$Island" "ways" "[LStoneWalk$Way;") (List.mem_of_getElem? (i := 5) (by decide +kernel))) rfl (t := 2) rfl (congrArg (fun z : Option Nat => va_rf (z.map ad)) n0) dX0_init_73 ?_
  refine r_alen (t0 := 9) (v := 4) hx hb hK hP k1 (by decide) rfl rfl dX0_init_76 ?_
  refine lv_icmp_ge (tgt := 99) hx hb dX0_init_77 rfl (fun _ => ?_) (fun c => absurd (by decide) c)
  refine lv_iconst (v := 0) hx hb dX0_init_99 rfl ?_
  refine lv_istore_n (lv' := [(1, .int 0), (0, .ref (ad b))]) hx hb dX0_init_100 rfl hl (by decide) rfl (fun ls hl => ?_)
  refine lv_iload_n hx hb dX0_init_101 rfl (lv_at hl 0 rfl) ?_
  refine lv_aload_n hx hb dX0_init_102 rfl (lv_at hl 1 rfl) ?_
  refine r_get (T := TX0) (v := .ref (ad (b + 2))) hx hb hts in0 hown hK hP k0 (by decide) rfl 1 (by decide) (hts (.fieldLink RX0 19 "StoneWalk$Island" "roads" "[LStoneWalk$Road;") (List.mem_of_getElem? (i := 7) (by decide +kernel))) rfl (t := 2) rfl (congrArg (fun z : Option Nat => va_rf (z.map ad)) n1) dX0_init_103 ?_
  refine r_alen (t0 := 4) (v := 3) hx hb hK hP k2 (by decide) rfl rfl dX0_init_106 ?_
  refine lv_icmp_ge (tgt := 129) hx hb dX0_init_107 rfl (fun c => absurd c (by decide)) (fun _ => ?_)
  refine lv_aload_n hx hb dX0_init_110 rfl (lv_at hl 1 rfl) ?_
  refine r_get (T := TX0) (v := .ref (ad (b + 2))) hx hb hts in0 hown hK hP k0 (by decide) rfl 1 (by decide) (hts (.fieldLink RX0 19 "StoneWalk$Island" "roads" "[LStoneWalk$Road;") (List.mem_of_getElem? (i := 7) (by decide +kernel))) rfl (t := 2) rfl (congrArg (fun z : Option Nat => va_rf (z.map ad)) n1) dX0_init_111 ?_
  refine lv_iload_n hx hb dX0_init_114 rfl (lv_at hl 0 rfl) ?_
  refine r_new (T := TX3) (ci := 3) (o := b + 13) hx hb hts in3 tyX3 tyX3_ok hown (hts (.classLink RX0 17 RX3) (List.mem_of_getElem? (i := 6) (by decide +kernel))) (hts (.instantiable RX3 3) (List.mem_of_getElem? (i := 21) (by decide +kernel))) (hts (.initialized RX3) (List.mem_of_getElem? (i := 22) (by decide +kernel))) hP hK hD hT hS hA (by decide) rfl htop rfl (fun j hj => by rw [fv_z]; rcases (show j = 0 ∨ j = 1 ∨ j = 2 by omega) with rfl | rfl | rfl <;> rfl) (fun _ => fv_e) (Nat.le_of_ble_eq_true rfl) (Nat.le_of_ble_eq_true rfl) (fun ad => [(1, .int 0), (0, .ref (ad b))]) hl (fun ad' hh => by simp only [hh _ k0.1]) (fun ad => [.int 0, .ref (ad (b + 2))]) (fun ad' hh => by simp only [hh _ k2.1]) rfl dX0_init_115 (fun ad H hh hP hD hT hS hl => ?_)
  have k0 := k0.up1 (k := 3) (n := 0) htop rfl
  have k1 := k1.up1 (k := 3) (n := 0) htop rfl
  have k2 := k2.up1 (k := 3) (n := 0) htop rfl
  have k3 := k3.up1 (k := 3) (n := 0) htop rfl
  have k4 := k4.up1 (k := 3) (n := 0) htop rfl
  have k5 := k5.up1 (k := 3) (n := 0) htop rfl
  have k6 := k6.up1 (k := 3) (n := 0) htop rfl
  have k7 := k7.up1 (k := 3) (n := 0) htop rfl
  have k8 := k8.up1 (k := 3) (n := 0) htop rfl
  have htop := htop.nw1 (k := 3) (n := 0) (o := (b + 13)) rfl
  have k13 := ok.nwt htop
  have n0 := (gR_z (o := (b + 13)) (by omega)).trans n0
  have n1 := (gR_z (o := (b + 13)) (by omega)).trans n1
  have n2 := (gR_z (o := (b + 13)) (by omega)).trans n2
  have n3 := (gR_z (o := (b + 13)) (by omega)).trans n3
  have n4 := (gR_z (o := (b + 13)) (by omega)).trans n4
  have n5 := (gR_z (o := (b + 13)) (by omega)).trans n5
  have n6 := (gR_z (o := (b + 13)) (by omega)).trans n6
  have n7 := (gR_z (o := (b + 13)) (by omega)).trans n7
  have hold := fun (y : Nat) hy => (hh y (hsub y hy)).trans (hold y hy)
  have hsub := fun (y : Nat) hy => gN_sub (o := b + 13) (k := 3) (n := 0) (hsub y hy)
  refine lv_dup hx hb dX0_init_118 rfl ?_
  refine k_n (va_runIN (As := []) (rest := [.ref (ad (b + 13)), .int 0, .ref (ad (b + 2))]) ⟨hx, hb, hml, hown, hts⟩ (c_X3_init (l := l) _ (b + 13) k13 htop) ⟨va_cnB 0 hts gX0_init_X3_init_n55 rfl rfl rfl (hG.2.1 ("StoneWalk$Island", 55, ⟨"StoneWalk$Road", "<init>", "()V"⟩, "StoneWalk") (List.mem_of_getElem? (i := 4) rfl)) (hts (.initialized RX3) (List.mem_of_getElem? (i := 22) (by decide +kernel))) hdI_X3_init ⟨Nat.le_of_ble_eq_true rfl, Nat.le_of_ble_eq_true rfl⟩, rfl, (hts (.instanceMethod yX3_init) (List.mem_of_getElem? (i := 34) (by decide +kernel)))⟩ (pSA hP hK hD hT hG hS hA) rfl rfl hl.1 rfl (lv_room (Nat.le_of_ble_eq_true rfl)) dX0_init_119 ⟨Nat.le_of_ble_eq_true rfl, Nat.le_of_ble_eq_true rfl⟩) hS (fun ad => [(1, .int 0), (0, .ref (ad b))]) hl (fun ad' hh => by simp only [hh _ k0.1]) (fun ad => [.ref (ad (b + 13)), .int 0, .ref (ad (b + 2))]) (fun ad' hh => by simp only [hh _ k13.1, hh _ k2.1]) rfl (fun ad H locs hh hP hD hT htop1 hS hl => ?_)
  have k0 := (ok_X3_init (b := b + 13) htop k0).1
  have k1 := (ok_X3_init (b := b + 13) htop k1).1
  have k2 := (ok_X3_init (b := b + 13) htop k2).1
  have k3 := (ok_X3_init (b := b + 13) htop k3).1
  have k4 := (ok_X3_init (b := b + 13) htop k4).1
  have k5 := (ok_X3_init (b := b + 13) htop k5).1
  have k6 := (ok_X3_init (b := b + 13) htop k6).1
  have k7 := (ok_X3_init (b := b + 13) htop k7).1
  have k8 := (ok_X3_init (b := b + 13) htop k8).1
  have k13 := (ok_X3_init (b := b + 13) htop k13).1
  have n0 := (gR_X3_init (b := b + 13) (by omega)).trans n0
  have n1 := (gR_X3_init (b := b + 13) (by omega)).trans n1
  have n2 := (gR_X3_init (b := b + 13) (by omega)).trans n2
  have n3 := (gR_X3_init (b := b + 13) (by omega)).trans n3
  have n4 := (gR_X3_init (b := b + 13) (by omega)).trans n4
  have n5 := (gR_X3_init (b := b + 13) (by omega)).trans n5
  have n6 := (gR_X3_init (b := b + 13) (by omega)).trans n6
  have n7 := (gR_X3_init (b := b + 13) (by omega)).trans n7
  have hold := fun (y : Nat) hy => (hh y (hsub y hy)).trans (hold y hy)
  have hsub := fun (y : Nat) hy => sub_X3_init (b := b + 13) (hsub y hy)
  have htop := htop1
  refine r_aast (t0 := 4) hx hb hP hK hD hT hS k2 ⟨by decide, by decide, by decide, by decide⟩ rfl k13 (by decide) rfl (fun _ => rfl) rfl (i := 0) (by decide) dX0_init_122 (fun H locs hP hD hT hS => ?_)
  have n0 := (gR_p (a := (b + 2)) (j := ix 0) (v := some (b + 13)) (by omega)).trans n0
  have n1 := (gR_p (a := (b + 2)) (j := ix 0) (v := some (b + 13)) (by omega)).trans n1
  have n2 := (gR_p (a := (b + 2)) (j := ix 0) (v := some (b + 13)) (by omega)).trans n2
  have n3 := (gR_p (a := (b + 2)) (j := ix 0) (v := some (b + 13)) (by omega)).trans n3
  have n4 := (gR_p (a := (b + 2)) (j := ix 0) (v := some (b + 13)) (by omega)).trans n4
  have n5 := (gR_p (a := (b + 2)) (j := ix 0) (v := some (b + 13)) (by omega)).trans n5
  have n6 := (gR_p (a := (b + 2)) (j := ix 0) (v := some (b + 13)) (by omega)).trans n6
  have n7 := (gR_p (a := (b + 2)) (j := ix 0) (v := some (b + 13)) (by omega)).trans n7
  refine lv_iinc (v := 1) (lv' := [(1, .int 1), (0, .ref (ad b))]) hx hb dX0_init_123 hl (k := 0) rfl (by decide) (by decide) rfl (fun ls hl => ?_)
  refine lv_goto (tgt := 101) hx hb dX0_init_126 rfl ?_
  refine lv_iload_n hx hb dX0_init_101 rfl (lv_at hl 0 rfl) ?_
  refine lv_aload_n hx hb dX0_init_102 rfl (lv_at hl 1 rfl) ?_
  refine r_get (T := TX0) (v := .ref (ad (b + 2))) hx hb hts in0 hown hK hP k0 (by decide) rfl 1 (by decide) (hts (.fieldLink RX0 19 "StoneWalk$Island" "roads" "[LStoneWalk$Road;") (List.mem_of_getElem? (i := 7) (by decide +kernel))) rfl (t := 2) rfl (congrArg (fun z : Option Nat => va_rf (z.map ad)) n1) dX0_init_103 ?_
  refine r_alen (t0 := 4) (v := 3) hx hb hK hP k2 (by decide) rfl rfl dX0_init_106 ?_
  refine lv_icmp_ge (tgt := 129) hx hb dX0_init_107 rfl (fun c => absurd c (by decide)) (fun _ => ?_)
  refine lv_aload_n hx hb dX0_init_110 rfl (lv_at hl 1 rfl) ?_
  refine r_get (T := TX0) (v := .ref (ad (b + 2))) hx hb hts in0 hown hK hP k0 (by decide) rfl 1 (by decide) (hts (.fieldLink RX0 19 "StoneWalk$Island" "roads" "[LStoneWalk$Road;") (List.mem_of_getElem? (i := 7) (by decide +kernel))) rfl (t := 2) rfl (congrArg (fun z : Option Nat => va_rf (z.map ad)) n1) dX0_init_111 ?_
  refine lv_iload_n hx hb dX0_init_114 rfl (lv_at hl 0 rfl) ?_
  refine r_new (T := TX3) (ci := 3) (o := b + 15) hx hb hts in3 tyX3 tyX3_ok hown (hts (.classLink RX0 17 RX3) (List.mem_of_getElem? (i := 6) (by decide +kernel))) (hts (.instantiable RX3 3) (List.mem_of_getElem? (i := 21) (by decide +kernel))) (hts (.initialized RX3) (List.mem_of_getElem? (i := 22) (by decide +kernel))) hP hK hD hT hS hA (by decide) rfl htop rfl (fun j hj => by rw [fv_z]; rcases (show j = 0 ∨ j = 1 ∨ j = 2 by omega) with rfl | rfl | rfl <;> rfl) (fun _ => fv_e) (Nat.le_of_ble_eq_true rfl) (Nat.le_of_ble_eq_true rfl) (fun ad => [(1, .int 1), (0, .ref (ad b))]) hl (fun ad' hh => by simp only [hh _ k0.1]) (fun ad => [.int 1, .ref (ad (b + 2))]) (fun ad' hh => by simp only [hh _ k2.1]) rfl dX0_init_115 (fun ad H hh hP hD hT hS hl => ?_)
  have k0 := k0.up1 (k := 3) (n := 0) htop rfl
  have k1 := k1.up1 (k := 3) (n := 0) htop rfl
  have k2 := k2.up1 (k := 3) (n := 0) htop rfl
  have k3 := k3.up1 (k := 3) (n := 0) htop rfl
  have k4 := k4.up1 (k := 3) (n := 0) htop rfl
  have k5 := k5.up1 (k := 3) (n := 0) htop rfl
  have k6 := k6.up1 (k := 3) (n := 0) htop rfl
  have k7 := k7.up1 (k := 3) (n := 0) htop rfl
  have k8 := k8.up1 (k := 3) (n := 0) htop rfl
  have htop := htop.nw1 (k := 3) (n := 0) (o := (b + 15)) rfl
  have k14 := ok.nwt htop
  have n0 := (gR_z (o := (b + 15)) (by omega)).trans n0
  have n1 := (gR_z (o := (b + 15)) (by omega)).trans n1
  have n2 := (gR_z (o := (b + 15)) (by omega)).trans n2
  have n3 := (gR_z (o := (b + 15)) (by omega)).trans n3
  have n4 := (gR_z (o := (b + 15)) (by omega)).trans n4
  have n5 := (gR_z (o := (b + 15)) (by omega)).trans n5
  have n6 := (gR_z (o := (b + 15)) (by omega)).trans n6
  have n7 := (gR_z (o := (b + 15)) (by omega)).trans n7
  have hold := fun (y : Nat) hy => (hh y (hsub y hy)).trans (hold y hy)
  have hsub := fun (y : Nat) hy => gN_sub (o := b + 15) (k := 3) (n := 0) (hsub y hy)
  refine lv_dup hx hb dX0_init_118 rfl ?_
  refine k_n (va_runIN (As := []) (rest := [.ref (ad (b + 15)), .int 1, .ref (ad (b + 2))]) ⟨hx, hb, hml, hown, hts⟩ (c_X3_init (l := l) _ (b + 15) k14 htop) ⟨va_cnB 0 hts gX0_init_X3_init_n55 rfl rfl rfl (hG.2.1 ("StoneWalk$Island", 55, ⟨"StoneWalk$Road", "<init>", "()V"⟩, "StoneWalk") (List.mem_of_getElem? (i := 4) rfl)) (hts (.initialized RX3) (List.mem_of_getElem? (i := 22) (by decide +kernel))) hdI_X3_init ⟨Nat.le_of_ble_eq_true rfl, Nat.le_of_ble_eq_true rfl⟩, rfl, (hts (.instanceMethod yX3_init) (List.mem_of_getElem? (i := 34) (by decide +kernel)))⟩ (pSA hP hK hD hT hG hS hA) rfl rfl hl.1 rfl (lv_room (Nat.le_of_ble_eq_true rfl)) dX0_init_119 ⟨Nat.le_of_ble_eq_true rfl, Nat.le_of_ble_eq_true rfl⟩) hS (fun ad => [(1, .int 1), (0, .ref (ad b))]) hl (fun ad' hh => by simp only [hh _ k0.1]) (fun ad => [.ref (ad (b + 15)), .int 1, .ref (ad (b + 2))]) (fun ad' hh => by simp only [hh _ k14.1, hh _ k2.1]) rfl (fun ad H locs hh hP hD hT htop1 hS hl => ?_)
  have k0 := (ok_X3_init (b := b + 15) htop k0).1
  have k1 := (ok_X3_init (b := b + 15) htop k1).1
  have k2 := (ok_X3_init (b := b + 15) htop k2).1
  have k3 := (ok_X3_init (b := b + 15) htop k3).1
  have k4 := (ok_X3_init (b := b + 15) htop k4).1
  have k5 := (ok_X3_init (b := b + 15) htop k5).1
  have k6 := (ok_X3_init (b := b + 15) htop k6).1
  have k7 := (ok_X3_init (b := b + 15) htop k7).1
  have k8 := (ok_X3_init (b := b + 15) htop k8).1
  have k14 := (ok_X3_init (b := b + 15) htop k14).1
  have n0 := (gR_X3_init (b := b + 15) (by omega)).trans n0
  have n1 := (gR_X3_init (b := b + 15) (by omega)).trans n1
  have n2 := (gR_X3_init (b := b + 15) (by omega)).trans n2
  have n3 := (gR_X3_init (b := b + 15) (by omega)).trans n3
  have n4 := (gR_X3_init (b := b + 15) (by omega)).trans n4
  have n5 := (gR_X3_init (b := b + 15) (by omega)).trans n5
  have n6 := (gR_X3_init (b := b + 15) (by omega)).trans n6
  have n7 := (gR_X3_init (b := b + 15) (by omega)).trans n7
  have hold := fun (y : Nat) hy => (hh y (hsub y hy)).trans (hold y hy)
  have hsub := fun (y : Nat) hy => sub_X3_init (b := b + 15) (hsub y hy)
  have htop := htop1
  refine r_aast (t0 := 4) hx hb hP hK hD hT hS k2 ⟨by decide, by decide, by decide, by decide⟩ rfl k14 (by decide) rfl (fun _ => rfl) rfl (i := 1) (by decide) dX0_init_122 (fun H locs hP hD hT hS => ?_)
  have n0 := (gR_p (a := (b + 2)) (j := ix 1) (v := some (b + 15)) (by omega)).trans n0
  have n1 := (gR_p (a := (b + 2)) (j := ix 1) (v := some (b + 15)) (by omega)).trans n1
  have n2 := (gR_p (a := (b + 2)) (j := ix 1) (v := some (b + 15)) (by omega)).trans n2
  have n3 := (gR_p (a := (b + 2)) (j := ix 1) (v := some (b + 15)) (by omega)).trans n3
  have n4 := (gR_p (a := (b + 2)) (j := ix 1) (v := some (b + 15)) (by omega)).trans n4
  have n5 := (gR_p (a := (b + 2)) (j := ix 1) (v := some (b + 15)) (by omega)).trans n5
  have n6 := (gR_p (a := (b + 2)) (j := ix 1) (v := some (b + 15)) (by omega)).trans n6
  have n7 := (gR_p (a := (b + 2)) (j := ix 1) (v := some (b + 15)) (by omega)).trans n7
  refine lv_iinc (v := 2) (lv' := [(1, .int 2), (0, .ref (ad b))]) hx hb dX0_init_123 hl (k := 0) rfl (by decide) (by decide) rfl (fun ls hl => ?_)
  refine lv_goto (tgt := 101) hx hb dX0_init_126 rfl ?_
  refine lv_iload_n hx hb dX0_init_101 rfl (lv_at hl 0 rfl) ?_
  refine lv_aload_n hx hb dX0_init_102 rfl (lv_at hl 1 rfl) ?_
  refine r_get (T := TX0) (v := .ref (ad (b + 2))) hx hb hts in0 hown hK hP k0 (by decide) rfl 1 (by decide) (hts (.fieldLink RX0 19 "StoneWalk$Island" "roads" "[LStoneWalk$Road;") (List.mem_of_getElem? (i := 7) (by decide +kernel))) rfl (t := 2) rfl (congrArg (fun z : Option Nat => va_rf (z.map ad)) n1) dX0_init_103 ?_
  refine r_alen (t0 := 4) (v := 3) hx hb hK hP k2 (by decide) rfl rfl dX0_init_106 ?_
  refine lv_icmp_ge (tgt := 129) hx hb dX0_init_107 rfl (fun c => absurd c (by decide)) (fun _ => ?_)
  refine lv_aload_n hx hb dX0_init_110 rfl (lv_at hl 1 rfl) ?_
  refine r_get (T := TX0) (v := .ref (ad (b + 2))) hx hb hts in0 hown hK hP k0 (by decide) rfl 1 (by decide) (hts (.fieldLink RX0 19 "StoneWalk$Island" "roads" "[LStoneWalk$Road;") (List.mem_of_getElem? (i := 7) (by decide +kernel))) rfl (t := 2) rfl (congrArg (fun z : Option Nat => va_rf (z.map ad)) n1) dX0_init_111 ?_
  refine lv_iload_n hx hb dX0_init_114 rfl (lv_at hl 0 rfl) ?_
  refine r_new (T := TX3) (ci := 3) (o := b + 17) hx hb hts in3 tyX3 tyX3_ok hown (hts (.classLink RX0 17 RX3) (List.mem_of_getElem? (i := 6) (by decide +kernel))) (hts (.instantiable RX3 3) (List.mem_of_getElem? (i := 21) (by decide +kernel))) (hts (.initialized RX3) (List.mem_of_getElem? (i := 22) (by decide +kernel))) hP hK hD hT hS hA (by decide) rfl htop rfl (fun j hj => by rw [fv_z]; rcases (show j = 0 ∨ j = 1 ∨ j = 2 by omega) with rfl | rfl | rfl <;> rfl) (fun _ => fv_e) (Nat.le_of_ble_eq_true rfl) (Nat.le_of_ble_eq_true rfl) (fun ad => [(1, .int 2), (0, .ref (ad b))]) hl (fun ad' hh => by simp only [hh _ k0.1]) (fun ad => [.int 2, .ref (ad (b + 2))]) (fun ad' hh => by simp only [hh _ k2.1]) rfl dX0_init_115 (fun ad H hh hP hD hT hS hl => ?_)
  have k0 := k0.up1 (k := 3) (n := 0) htop rfl
  have k1 := k1.up1 (k := 3) (n := 0) htop rfl
  have k2 := k2.up1 (k := 3) (n := 0) htop rfl
  have k3 := k3.up1 (k := 3) (n := 0) htop rfl
  have k4 := k4.up1 (k := 3) (n := 0) htop rfl
  have k5 := k5.up1 (k := 3) (n := 0) htop rfl
  have k6 := k6.up1 (k := 3) (n := 0) htop rfl
  have k7 := k7.up1 (k := 3) (n := 0) htop rfl
  have k8 := k8.up1 (k := 3) (n := 0) htop rfl
  have htop := htop.nw1 (k := 3) (n := 0) (o := (b + 17)) rfl
  have k15 := ok.nwt htop
  have n0 := (gR_z (o := (b + 17)) (by omega)).trans n0
  have n1 := (gR_z (o := (b + 17)) (by omega)).trans n1
  have n2 := (gR_z (o := (b + 17)) (by omega)).trans n2
  have n3 := (gR_z (o := (b + 17)) (by omega)).trans n3
  have n4 := (gR_z (o := (b + 17)) (by omega)).trans n4
  have n5 := (gR_z (o := (b + 17)) (by omega)).trans n5
  have n6 := (gR_z (o := (b + 17)) (by omega)).trans n6
  have n7 := (gR_z (o := (b + 17)) (by omega)).trans n7
  have hold := fun (y : Nat) hy => (hh y (hsub y hy)).trans (hold y hy)
  have hsub := fun (y : Nat) hy => gN_sub (o := b + 17) (k := 3) (n := 0) (hsub y hy)
  refine lv_dup hx hb dX0_init_118 rfl ?_
  refine k_n (va_runIN (As := []) (rest := [.ref (ad (b + 17)), .int 2, .ref (ad (b + 2))]) ⟨hx, hb, hml, hown, hts⟩ (c_X3_init (l := l) _ (b + 17) k15 htop) ⟨va_cnB 0 hts gX0_init_X3_init_n55 rfl rfl rfl (hG.2.1 ("StoneWalk$Island", 55, ⟨"StoneWalk$Road", "<init>", "()V"⟩, "StoneWalk") (List.mem_of_getElem? (i := 4) rfl)) (hts (.initialized RX3) (List.mem_of_getElem? (i := 22) (by decide +kernel))) hdI_X3_init ⟨Nat.le_of_ble_eq_true rfl, Nat.le_of_ble_eq_true rfl⟩, rfl, (hts (.instanceMethod yX3_init) (List.mem_of_getElem? (i := 34) (by decide +kernel)))⟩ (pSA hP hK hD hT hG hS hA) rfl rfl hl.1 rfl (lv_room (Nat.le_of_ble_eq_true rfl)) dX0_init_119 ⟨Nat.le_of_ble_eq_true rfl, Nat.le_of_ble_eq_true rfl⟩) hS (fun ad => [(1, .int 2), (0, .ref (ad b))]) hl (fun ad' hh => by simp only [hh _ k0.1]) (fun ad => [.ref (ad (b + 17)), .int 2, .ref (ad (b + 2))]) (fun ad' hh => by simp only [hh _ k15.1, hh _ k2.1]) rfl (fun ad H locs hh hP hD hT htop1 hS hl => ?_)
  have k0 := (ok_X3_init (b := b + 17) htop k0).1
  have k1 := (ok_X3_init (b := b + 17) htop k1).1
  have k2 := (ok_X3_init (b := b + 17) htop k2).1
  have k3 := (ok_X3_init (b := b + 17) htop k3).1
  have k4 := (ok_X3_init (b := b + 17) htop k4).1
  have k5 := (ok_X3_init (b := b + 17) htop k5).1
  have k6 := (ok_X3_init (b := b + 17) htop k6).1
  have k7 := (ok_X3_init (b := b + 17) htop k7).1
  have k8 := (ok_X3_init (b := b + 17) htop k8).1
  have k15 := (ok_X3_init (b := b + 17) htop k15).1
  have n0 := (gR_X3_init (b := b + 17) (by omega)).trans n0
  have n1 := (gR_X3_init (b := b + 17) (by omega)).trans n1
  have n2 := (gR_X3_init (b := b + 17) (by omega)).trans n2
  have n3 := (gR_X3_init (b := b + 17) (by omega)).trans n3
  have n4 := (gR_X3_init (b := b + 17) (by omega)).trans n4
  have n5 := (gR_X3_init (b := b + 17) (by omega)).trans n5
  have n6 := (gR_X3_init (b := b + 17) (by omega)).trans n6
  have n7 := (gR_X3_init (b := b + 17) (by omega)).trans n7
  have hold := fun (y : Nat) hy => (hh y (hsub y hy)).trans (hold y hy)
  have hsub := fun (y : Nat) hy => sub_X3_init (b := b + 17) (hsub y hy)
  have htop := htop1
  refine r_aast (t0 := 4) hx hb hP hK hD hT hS k2 ⟨by decide, by decide, by decide, by decide⟩ rfl k15 (by decide) rfl (fun _ => rfl) rfl (i := 2) (by decide) dX0_init_122 (fun H locs hP hD hT hS => ?_)
  have n0 := (gR_p (a := (b + 2)) (j := ix 2) (v := some (b + 17)) (by omega)).trans n0
  have n1 := (gR_p (a := (b + 2)) (j := ix 2) (v := some (b + 17)) (by omega)).trans n1
  have n2 := (gR_p (a := (b + 2)) (j := ix 2) (v := some (b + 17)) (by omega)).trans n2
  have n3 := (gR_p (a := (b + 2)) (j := ix 2) (v := some (b + 17)) (by omega)).trans n3
  have n4 := (gR_p (a := (b + 2)) (j := ix 2) (v := some (b + 17)) (by omega)).trans n4
  have n5 := (gR_p (a := (b + 2)) (j := ix 2) (v := some (b + 17)) (by omega)).trans n5
  have n6 := (gR_p (a := (b + 2)) (j := ix 2) (v := some (b + 17)) (by omega)).trans n6
  have n7 := (gR_p (a := (b + 2)) (j := ix 2) (v := some (b + 17)) (by omega)).trans n7
  refine lv_iinc (v := 3) (lv' := [(1, .int 3), (0, .ref (ad b))]) hx hb dX0_init_123 hl (k := 0) rfl (by decide) (by decide) rfl (fun ls hl => ?_)
  refine lv_goto (tgt := 101) hx hb dX0_init_126 rfl ?_
  refine lv_iload_n hx hb dX0_init_101 rfl (lv_at hl 0 rfl) ?_
  refine lv_aload_n hx hb dX0_init_102 rfl (lv_at hl 1 rfl) ?_
  refine r_get (T := TX0) (v := .ref (ad (b + 2))) hx hb hts in0 hown hK hP k0 (by decide) rfl 1 (by decide) (hts (.fieldLink RX0 19 "StoneWalk$Island" "roads" "[LStoneWalk$Road;") (List.mem_of_getElem? (i := 7) (by decide +kernel))) rfl (t := 2) rfl (congrArg (fun z : Option Nat => va_rf (z.map ad)) n1) dX0_init_103 ?_
  refine r_alen (t0 := 4) (v := 3) hx hb hK hP k2 (by decide) rfl rfl dX0_init_106 ?_
  refine lv_icmp_ge (tgt := 129) hx hb dX0_init_107 rfl (fun _ => ?_) (fun c => absurd (by decide) c)
  refine lv_iconst (v := 0) hx hb dX0_init_129 rfl ?_
  refine lv_istore_n (lv' := [(1, .int 0), (0, .ref (ad b))]) hx hb dX0_init_130 rfl hl (by decide) rfl (fun ls hl => ?_)
  refine lv_iload_n hx hb dX0_init_131 rfl (lv_at hl 0 rfl) ?_
  refine lv_aload_n hx hb dX0_init_132 rfl (lv_at hl 1 rfl) ?_
  refine r_get (T := TX0) (v := .ref (ad (b + 3))) hx hb hts in0 hown hK hP k0 (by decide) rfl 2 (by decide) (hts (.fieldLink RX0 25 "StoneWalk$Island" "statues" "[LStoneWalk$Stone;") (List.mem_of_getElem? (i := 9) (by decide +kernel))) rfl (t := 2) rfl (congrArg (fun z : Option Nat => va_rf (z.map ad)) n2) dX0_init_133 ?_
  refine r_alen (t0 := 5) (v := 10) hx hb hK hP k3 (by decide) rfl rfl dX0_init_136 ?_
  refine lv_icmp_ge (tgt := 159) hx hb dX0_init_137 rfl (fun c => absurd c (by decide)) (fun _ => ?_)
  refine lv_aload_n hx hb dX0_init_140 rfl (lv_at hl 1 rfl) ?_
  refine r_get (T := TX0) (v := .ref (ad (b + 3))) hx hb hts in0 hown hK hP k0 (by decide) rfl 2 (by decide) (hts (.fieldLink RX0 25 "StoneWalk$Island" "statues" "[LStoneWalk$Stone;") (List.mem_of_getElem? (i := 9) (by decide +kernel))) rfl (t := 2) rfl (congrArg (fun z : Option Nat => va_rf (z.map ad)) n2) dX0_init_141 ?_
  refine lv_iload_n hx hb dX0_init_144 rfl (lv_at hl 0 rfl) ?_
  refine r_new (T := TX5) (ci := 5) (o := b + 19) hx hb hts in5 tyX5 tyX5_ok hown (hts (.classLink RX0 23 RX5) (List.mem_of_getElem? (i := 8) (by decide +kernel))) (hts (.instantiable RX5 8) (List.mem_of_getElem? (i := 23) (by decide +kernel))) (hts (.initialized RX5) (List.mem_of_getElem? (i := 24) (by decide +kernel))) hP hK hD hT hS hA (by decide) rfl htop rfl (fun j hj => by rw [fv_z]; rcases (show j = 0 ∨ j = 1 ∨ j = 2 ∨ j = 3 ∨ j = 4 ∨ j = 5 ∨ j = 6 ∨ j = 7 by omega) with rfl | rfl | rfl | rfl | rfl | rfl | rfl | rfl <;> rfl) (fun _ => fv_e) (Nat.le_of_ble_eq_true rfl) (Nat.le_of_ble_eq_true rfl) (fun ad => [(1, .int 0), (0, .ref (ad b))]) hl (fun ad' hh => by simp only [hh _ k0.1]) (fun ad => [.int 0, .ref (ad (b + 3))]) (fun ad' hh => by simp only [hh _ k3.1]) rfl dX0_init_145 (fun ad H hh hP hD hT hS hl => ?_)
  have k0 := k0.up1 (k := 5) (n := 0) htop rfl
  have k1 := k1.up1 (k := 5) (n := 0) htop rfl
  have k2 := k2.up1 (k := 5) (n := 0) htop rfl
  have k3 := k3.up1 (k := 5) (n := 0) htop rfl
  have k4 := k4.up1 (k := 5) (n := 0) htop rfl
  have k5 := k5.up1 (k := 5) (n := 0) htop rfl
  have k6 := k6.up1 (k := 5) (n := 0) htop rfl
  have k7 := k7.up1 (k := 5) (n := 0) htop rfl
  have k8 := k8.up1 (k := 5) (n := 0) htop rfl
  have htop := htop.nw1 (k := 5) (n := 0) (o := (b + 19)) rfl
  have k16 := ok.nwt htop
  have n0 := (gR_z (o := (b + 19)) (by omega)).trans n0
  have n1 := (gR_z (o := (b + 19)) (by omega)).trans n1
  have n2 := (gR_z (o := (b + 19)) (by omega)).trans n2
  have n3 := (gR_z (o := (b + 19)) (by omega)).trans n3
  have n4 := (gR_z (o := (b + 19)) (by omega)).trans n4
  have n5 := (gR_z (o := (b + 19)) (by omega)).trans n5
  have n6 := (gR_z (o := (b + 19)) (by omega)).trans n6
  have n7 := (gR_z (o := (b + 19)) (by omega)).trans n7
  have hold := fun (y : Nat) hy => (hh y (hsub y hy)).trans (hold y hy)
  have hsub := fun (y : Nat) hy => gN_sub (o := b + 19) (k := 5) (n := 0) (hsub y hy)
  refine lv_dup hx hb dX0_init_148 rfl ?_
  refine k_n (va_runIN (As := []) (rest := [.ref (ad (b + 19)), .int 0, .ref (ad (b + 3))]) ⟨hx, hb, hml, hown, hts⟩ (c_X5_init (l := l) _ (b + 19) k16 htop) ⟨va_cnB 0 hts gX0_init_X5_init_n56 rfl rfl rfl (hG.2.1 ("StoneWalk$Island", 56, ⟨"StoneWalk$Stone", "<init>", "()V"⟩, "StoneWalk") (List.mem_of_getElem? (i := 5) rfl)) (hts (.initialized RX5) (List.mem_of_getElem? (i := 24) (by decide +kernel))) hdI_X5_init ⟨Nat.le_of_ble_eq_true rfl, Nat.le_of_ble_eq_true rfl⟩, rfl, (hts (.instanceMethod yX5_init) (List.mem_of_getElem? (i := 38) (by decide +kernel)))⟩ (pSA hP hK hD hT hG hS hA) rfl rfl hl.1 rfl (lv_room (Nat.le_of_ble_eq_true rfl)) dX0_init_149 ⟨Nat.le_of_ble_eq_true rfl, Nat.le_of_ble_eq_true rfl⟩) hS (fun ad => [(1, .int 0), (0, .ref (ad b))]) hl (fun ad' hh => by simp only [hh _ k0.1]) (fun ad => [.ref (ad (b + 19)), .int 0, .ref (ad (b + 3))]) (fun ad' hh => by simp only [hh _ k16.1, hh _ k3.1]) rfl (fun ad H locs hh hP hD hT htop1 hS hl => ?_)
  have hold := fun (y : Nat) hy => (hh y (hsub y hy)).trans (hold y hy)
  have htop := htop1
  refine r_aast (t0 := 5) hx hb hP hK hD hT hS k3 ⟨by decide, by decide, by decide, by decide⟩ rfl k16 (by decide) rfl (fun _ => rfl) rfl (i := 0) (by decide) dX0_init_152 (fun H locs hP hD hT hS => ?_)
  have n0 := (gR_p (a := (b + 3)) (j := ix 0) (v := some (b + 19)) (by omega)).trans n0
  have n1 := (gR_p (a := (b + 3)) (j := ix 0) (v := some (b + 19)) (by omega)).trans n1
  have n2 := (gR_p (a := (b + 3)) (j := ix 0) (v := some (b + 19)) (by omega)).trans n2
  have n3 := (gR_p (a := (b + 3)) (j := ix 0) (v := some (b + 19)) (by omega)).trans n3
  have n4 := (gR_p (a := (b + 3)) (j := ix 0) (v := some (b + 19)) (by omega)).trans n4
  have n5 := (gR_p (a := (b + 3)) (j := ix 0) (v := some (b + 19)) (by omega)).trans n5
  have n6 := (gR_p (a := (b + 3)) (j := ix 0) (v := some (b + 19)) (by omega)).trans n6
  have n7 := (gR_p (a := (b + 3)) (j := ix 0) (v := some (b + 19)) (by omega)).trans n7
  refine lv_iinc (v := 1) (lv' := [(1, .int 1), (0, .ref (ad b))]) hx hb dX0_init_153 hl (k := 0) rfl (by decide) (by decide) rfl (fun ls hl => ?_)
  refine lv_goto (tgt := 131) hx hb dX0_init_156 rfl ?_
  refine lv_iload_n hx hb dX0_init_131 rfl (lv_at hl 0 rfl) ?_
  refine lv_aload_n hx hb dX0_init_132 rfl (lv_at hl 1 rfl) ?_
  refine r_get (T := TX0) (v := .ref (ad (b + 3))) hx hb hts in0 hown hK hP k0 (by decide) rfl 2 (by decide) (hts (.fieldLink RX0 25 "StoneWalk$Island" "statues" "[LStoneWalk$Stone;") (List.mem_of_getElem? (i := 9) (by decide +kernel))) rfl (t := 2) rfl (congrArg (fun z : Option Nat => va_rf (z.map ad)) n2) dX0_init_133 ?_
  refine r_alen (t0 := 5) (v := 10) hx hb hK hP k3 (by decide) rfl rfl dX0_init_136 ?_
  refine lv_icmp_ge (tgt := 159) hx hb dX0_init_137 rfl (fun c => absurd c (by decide)) (fun _ => ?_)
  refine lv_aload_n hx hb dX0_init_140 rfl (lv_at hl 1 rfl) ?_
  refine r_get (T := TX0) (v := .ref (ad (b + 3))) hx hb hts in0 hown hK hP k0 (by decide) rfl 2 (by decide) (hts (.fieldLink RX0 25 "StoneWalk$Island" "statues" "[LStoneWalk$Stone;") (List.mem_of_getElem? (i := 9) (by decide +kernel))) rfl (t := 2) rfl (congrArg (fun z : Option Nat => va_rf (z.map ad)) n2) dX0_init_141 ?_
  refine lv_iload_n hx hb dX0_init_144 rfl (lv_at hl 0 rfl) ?_
  refine r_new (T := TX5) (ci := 5) (o := b + 20) hx hb hts in5 tyX5 tyX5_ok hown (hts (.classLink RX0 23 RX5) (List.mem_of_getElem? (i := 8) (by decide +kernel))) (hts (.instantiable RX5 8) (List.mem_of_getElem? (i := 23) (by decide +kernel))) (hts (.initialized RX5) (List.mem_of_getElem? (i := 24) (by decide +kernel))) hP hK hD hT hS hA (by decide) rfl htop rfl (fun j hj => by rw [fv_z]; rcases (show j = 0 ∨ j = 1 ∨ j = 2 ∨ j = 3 ∨ j = 4 ∨ j = 5 ∨ j = 6 ∨ j = 7 by omega) with rfl | rfl | rfl | rfl | rfl | rfl | rfl | rfl <;> rfl) (fun _ => fv_e) (Nat.le_of_ble_eq_true rfl) (Nat.le_of_ble_eq_true rfl) (fun ad => [(1, .int 1), (0, .ref (ad b))]) hl (fun ad' hh => by simp only [hh _ k0.1]) (fun ad => [.int 1, .ref (ad (b + 3))]) (fun ad' hh => by simp only [hh _ k3.1]) rfl dX0_init_145 (fun ad H hh hP hD hT hS hl => ?_)
  have k0 := k0.up1 (k := 5) (n := 0) htop rfl
  have k1 := k1.up1 (k := 5) (n := 0) htop rfl
  have k2 := k2.up1 (k := 5) (n := 0) htop rfl
  have k3 := k3.up1 (k := 5) (n := 0) htop rfl
  have k4 := k4.up1 (k := 5) (n := 0) htop rfl
  have k5 := k5.up1 (k := 5) (n := 0) htop rfl
  have k6 := k6.up1 (k := 5) (n := 0) htop rfl
  have k7 := k7.up1 (k := 5) (n := 0) htop rfl
  have k8 := k8.up1 (k := 5) (n := 0) htop rfl
  have htop := htop.nw1 (k := 5) (n := 0) (o := (b + 20)) rfl
  have k17 := ok.nwt htop
  have n0 := (gR_z (o := (b + 20)) (by omega)).trans n0
  have n1 := (gR_z (o := (b + 20)) (by omega)).trans n1
  have n2 := (gR_z (o := (b + 20)) (by omega)).trans n2
  have n3 := (gR_z (o := (b + 20)) (by omega)).trans n3
  have n4 := (gR_z (o := (b + 20)) (by omega)).trans n4
  have n5 := (gR_z (o := (b + 20)) (by omega)).trans n5
  have n6 := (gR_z (o := (b + 20)) (by omega)).trans n6
  have n7 := (gR_z (o := (b + 20)) (by omega)).trans n7
  have hold := fun (y : Nat) hy => (hh y (hsub y hy)).trans (hold y hy)
  have hsub := fun (y : Nat) hy => gN_sub (o := b + 20) (k := 5) (n := 0) (hsub y hy)
  refine lv_dup hx hb dX0_init_148 rfl ?_
  refine k_n (va_runIN (As := []) (rest := [.ref (ad (b + 20)), .int 1, .ref (ad (b + 3))]) ⟨hx, hb, hml, hown, hts⟩ (c_X5_init (l := l) _ (b + 20) k17 htop) ⟨va_cnB 0 hts gX0_init_X5_init_n56 rfl rfl rfl (hG.2.1 ("StoneWalk$Island", 56, ⟨"StoneWalk$Stone", "<init>", "()V"⟩, "StoneWalk") (List.mem_of_getElem? (i := 5) rfl)) (hts (.initialized RX5) (List.mem_of_getElem? (i := 24) (by decide +kernel))) hdI_X5_init ⟨Nat.le_of_ble_eq_true rfl, Nat.le_of_ble_eq_true rfl⟩, rfl, (hts (.instanceMethod yX5_init) (List.mem_of_getElem? (i := 38) (by decide +kernel)))⟩ (pSA hP hK hD hT hG hS hA) rfl rfl hl.1 rfl (lv_room (Nat.le_of_ble_eq_true rfl)) dX0_init_149 ⟨Nat.le_of_ble_eq_true rfl, Nat.le_of_ble_eq_true rfl⟩) hS (fun ad => [(1, .int 1), (0, .ref (ad b))]) hl (fun ad' hh => by simp only [hh _ k0.1]) (fun ad => [.ref (ad (b + 20)), .int 1, .ref (ad (b + 3))]) (fun ad' hh => by simp only [hh _ k17.1, hh _ k3.1]) rfl (fun ad H locs hh hP hD hT htop1 hS hl => ?_)
  have hold := fun (y : Nat) hy => (hh y (hsub y hy)).trans (hold y hy)
  have htop := htop1
  refine r_aast (t0 := 5) hx hb hP hK hD hT hS k3 ⟨by decide, by decide, by decide, by decide⟩ rfl k17 (by decide) rfl (fun _ => rfl) rfl (i := 1) (by decide) dX0_init_152 (fun H locs hP hD hT hS => ?_)
  have n0 := (gR_p (a := (b + 3)) (j := ix 1) (v := some (b + 20)) (by omega)).trans n0
  have n1 := (gR_p (a := (b + 3)) (j := ix 1) (v := some (b + 20)) (by omega)).trans n1
  have n2 := (gR_p (a := (b + 3)) (j := ix 1) (v := some (b + 20)) (by omega)).trans n2
  have n3 := (gR_p (a := (b + 3)) (j := ix 1) (v := some (b + 20)) (by omega)).trans n3
  have n4 := (gR_p (a := (b + 3)) (j := ix 1) (v := some (b + 20)) (by omega)).trans n4
  have n5 := (gR_p (a := (b + 3)) (j := ix 1) (v := some (b + 20)) (by omega)).trans n5
  have n6 := (gR_p (a := (b + 3)) (j := ix 1) (v := some (b + 20)) (by omega)).trans n6
  have n7 := (gR_p (a := (b + 3)) (j := ix 1) (v := some (b + 20)) (by omega)).trans n7
  refine lv_iinc (v := 2) (lv' := [(1, .int 2), (0, .ref (ad b))]) hx hb dX0_init_153 hl (k := 0) rfl (by decide) (by decide) rfl (fun ls hl => ?_)
  refine lv_goto (tgt := 131) hx hb dX0_init_156 rfl ?_
  refine lv_iload_n hx hb dX0_init_131 rfl (lv_at hl 0 rfl) ?_
  refine lv_aload_n hx hb dX0_init_132 rfl (lv_at hl 1 rfl) ?_
  refine r_get (T := TX0) (v := .ref (ad (b + 3))) hx hb hts in0 hown hK hP k0 (by decide) rfl 2 (by decide) (hts (.fieldLink RX0 25 "StoneWalk$Island" "statues" "[LStoneWalk$Stone;") (List.mem_of_getElem? (i := 9) (by decide +kernel))) rfl (t := 2) rfl (congrArg (fun z : Option Nat => va_rf (z.map ad)) n2) dX0_init_133 ?_
  refine r_alen (t0 := 5) (v := 10) hx hb hK hP k3 (by decide) rfl rfl dX0_init_136 ?_
  refine lv_icmp_ge (tgt := 159) hx hb dX0_init_137 rfl (fun c => absurd c (by decide)) (fun _ => ?_)
  refine lv_aload_n hx hb dX0_init_140 rfl (lv_at hl 1 rfl) ?_
  refine r_get (T := TX0) (v := .ref (ad (b + 3))) hx hb hts in0 hown hK hP k0 (by decide) rfl 2 (by decide) (hts (.fieldLink RX0 25 "StoneWalk$Island" "statues" "[LStoneWalk$Stone;") (List.mem_of_getElem? (i := 9) (by decide +kernel))) rfl (t := 2) rfl (congrArg (fun z : Option Nat => va_rf (z.map ad)) n2) dX0_init_141 ?_
  refine lv_iload_n hx hb dX0_init_144 rfl (lv_at hl 0 rfl) ?_
  refine r_new (T := TX5) (ci := 5) (o := b + 21) hx hb hts in5 tyX5 tyX5_ok hown (hts (.classLink RX0 23 RX5) (List.mem_of_getElem? (i := 8) (by decide +kernel))) (hts (.instantiable RX5 8) (List.mem_of_getElem? (i := 23) (by decide +kernel))) (hts (.initialized RX5) (List.mem_of_getElem? (i := 24) (by decide +kernel))) hP hK hD hT hS hA (by decide) rfl htop rfl (fun j hj => by rw [fv_z]; rcases (show j = 0 ∨ j = 1 ∨ j = 2 ∨ j = 3 ∨ j = 4 ∨ j = 5 ∨ j = 6 ∨ j = 7 by omega) with rfl | rfl | rfl | rfl | rfl | rfl | rfl | rfl <;> rfl) (fun _ => fv_e) (Nat.le_of_ble_eq_true rfl) (Nat.le_of_ble_eq_true rfl) (fun ad => [(1, .int 2), (0, .ref (ad b))]) hl (fun ad' hh => by simp only [hh _ k0.1]) (fun ad => [.int 2, .ref (ad (b + 3))]) (fun ad' hh => by simp only [hh _ k3.1]) rfl dX0_init_145 (fun ad H hh hP hD hT hS hl => ?_)
  have k0 := k0.up1 (k := 5) (n := 0) htop rfl
  have k1 := k1.up1 (k := 5) (n := 0) htop rfl
  have k2 := k2.up1 (k := 5) (n := 0) htop rfl
  have k3 := k3.up1 (k := 5) (n := 0) htop rfl
  have k4 := k4.up1 (k := 5) (n := 0) htop rfl
  have k5 := k5.up1 (k := 5) (n := 0) htop rfl
  have k6 := k6.up1 (k := 5) (n := 0) htop rfl
  have k7 := k7.up1 (k := 5) (n := 0) htop rfl
  have k8 := k8.up1 (k := 5) (n := 0) htop rfl
  have htop := htop.nw1 (k := 5) (n := 0) (o := (b + 21)) rfl
  have k18 := ok.nwt htop
  have n0 := (gR_z (o := (b + 21)) (by omega)).trans n0
  have n1 := (gR_z (o := (b + 21)) (by omega)).trans n1
  have n2 := (gR_z (o := (b + 21)) (by omega)).trans n2
  have n3 := (gR_z (o := (b + 21)) (by omega)).trans n3
  have n4 := (gR_z (o := (b + 21)) (by omega)).trans n4
  have n5 := (gR_z (o := (b + 21)) (by omega)).trans n5
  have n6 := (gR_z (o := (b + 21)) (by omega)).trans n6
  have n7 := (gR_z (o := (b + 21)) (by omega)).trans n7
  have hold := fun (y : Nat) hy => (hh y (hsub y hy)).trans (hold y hy)
  have hsub := fun (y : Nat) hy => gN_sub (o := b + 21) (k := 5) (n := 0) (hsub y hy)
  refine lv_dup hx hb dX0_init_148 rfl ?_
  refine k_n (va_runIN (As := []) (rest := [.ref (ad (b + 21)), .int 2, .ref (ad (b + 3))]) ⟨hx, hb, hml, hown, hts⟩ (c_X5_init (l := l) _ (b + 21) k18 htop) ⟨va_cnB 0 hts gX0_init_X5_init_n56 rfl rfl rfl (hG.2.1 ("StoneWalk$Island", 56, ⟨"StoneWalk$Stone", "<init>", "()V"⟩, "StoneWalk") (List.mem_of_getElem? (i := 5) rfl)) (hts (.initialized RX5) (List.mem_of_getElem? (i := 24) (by decide +kernel))) hdI_X5_init ⟨Nat.le_of_ble_eq_true rfl, Nat.le_of_ble_eq_true rfl⟩, rfl, (hts (.instanceMethod yX5_init) (List.mem_of_getElem? (i := 38) (by decide +kernel)))⟩ (pSA hP hK hD hT hG hS hA) rfl rfl hl.1 rfl (lv_room (Nat.le_of_ble_eq_true rfl)) dX0_init_149 ⟨Nat.le_of_ble_eq_true rfl, Nat.le_of_ble_eq_true rfl⟩) hS (fun ad => [(1, .int 2), (0, .ref (ad b))]) hl (fun ad' hh => by simp only [hh _ k0.1]) (fun ad => [.ref (ad (b + 21)), .int 2, .ref (ad (b + 3))]) (fun ad' hh => by simp only [hh _ k18.1, hh _ k3.1]) rfl (fun ad H locs hh hP hD hT htop1 hS hl => ?_)
  have hold := fun (y : Nat) hy => (hh y (hsub y hy)).trans (hold y hy)
  have htop := htop1
  refine r_aast (t0 := 5) hx hb hP hK hD hT hS k3 ⟨by decide, by decide, by decide, by decide⟩ rfl k18 (by decide) rfl (fun _ => rfl) rfl (i := 2) (by decide) dX0_init_152 (fun H locs hP hD hT hS => ?_)
  have n0 := (gR_p (a := (b + 3)) (j := ix 2) (v := some (b + 21)) (by omega)).trans n0
  have n1 := (gR_p (a := (b + 3)) (j := ix 2) (v := some (b + 21)) (by omega)).trans n1
  have n2 := (gR_p (a := (b + 3)) (j := ix 2) (v := some (b + 21)) (by omega)).trans n2
  have n3 := (gR_p (a := (b + 3)) (j := ix 2) (v := some (b + 21)) (by omega)).trans n3
  have n4 := (gR_p (a := (b + 3)) (j := ix 2) (v := some (b + 21)) (by omega)).trans n4
  have n5 := (gR_p (a := (b + 3)) (j := ix 2) (v := some (b + 21)) (by omega)).trans n5
  have n6 := (gR_p (a := (b + 3)) (j := ix 2) (v := some (b + 21)) (by omega)).trans n6
  have n7 := (gR_p (a := (b + 3)) (j := ix 2) (v := some (b + 21)) (by omega)).trans n7
  refine lv_iinc (v := 3) (lv' := [(1, .int 3), (0, .ref (ad b))]) hx hb dX0_init_153 hl (k := 0) rfl (by decide) (by decide) rfl (fun ls hl => ?_)
  refine lv_goto (tgt := 131) hx hb dX0_init_156 rfl ?_
  refine lv_iload_n hx hb dX0_init_131 rfl (lv_at hl 0 rfl) ?_
  refine lv_aload_n hx hb dX0_init_132 rfl (lv_at hl 1 rfl) ?_
  refine r_get (T := TX0) (v := .ref (ad (b + 3))) hx hb hts in0 hown hK hP k0 (by decide) rfl 2 (by decide) (hts (.fieldLink RX0 25 "StoneWalk$Island" "statues" "[LStoneWalk$Stone;") (List.mem_of_getElem? (i := 9) (by decide +kernel))) rfl (t := 2) rfl (congrArg (fun z : Option Nat => va_rf (z.map ad)) n2) dX0_init_133 ?_
  refine r_alen (t0 := 5) (v := 10) hx hb hK hP k3 (by decide) rfl rfl dX0_init_136 ?_
  refine lv_icmp_ge (tgt := 159) hx hb dX0_init_137 rfl (fun c => absurd c (by decide)) (fun _ => ?_)
  refine lv_aload_n hx hb dX0_init_140 rfl (lv_at hl 1 rfl) ?_
  refine r_get (T := TX0) (v := .ref (ad (b + 3))) hx hb hts in0 hown hK hP k0 (by decide) rfl 2 (by decide) (hts (.fieldLink RX0 25 "StoneWalk$Island" "statues" "[LStoneWalk$Stone;") (List.mem_of_getElem? (i := 9) (by decide +kernel))) rfl (t := 2) rfl (congrArg (fun z : Option Nat => va_rf (z.map ad)) n2) dX0_init_141 ?_
  refine lv_iload_n hx hb dX0_init_144 rfl (lv_at hl 0 rfl) ?_
  refine r_new (T := TX5) (ci := 5) (o := b + 22) hx hb hts in5 tyX5 tyX5_ok hown (hts (.classLink RX0 23 RX5) (List.mem_of_getElem? (i := 8) (by decide +kernel))) (hts (.instantiable RX5 8) (List.mem_of_getElem? (i := 23) (by decide +kernel))) (hts (.initialized RX5) (List.mem_of_getElem? (i := 24) (by decide +kernel))) hP hK hD hT hS hA (by decide) rfl htop rfl (fun j hj => by rw [fv_z]; rcases (show j = 0 ∨ j = 1 ∨ j = 2 ∨ j = 3 ∨ j = 4 ∨ j = 5 ∨ j = 6 ∨ j = 7 by omega) with rfl | rfl | rfl | rfl | rfl | rfl | rfl | rfl <;> rfl) (fun _ => fv_e) (Nat.le_of_ble_eq_true rfl) (Nat.le_of_ble_eq_true rfl) (fun ad => [(1, .int 3), (0, .ref (ad b))]) hl (fun ad' hh => by simp only [hh _ k0.1]) (fun ad => [.int 3, .ref (ad (b + 3))]) (fun ad' hh => by simp only [hh _ k3.1]) rfl dX0_init_145 (fun ad H hh hP hD hT hS hl => ?_)
  have k0 := k0.up1 (k := 5) (n := 0) htop rfl
  have k1 := k1.up1 (k := 5) (n := 0) htop rfl
  have k2 := k2.up1 (k := 5) (n := 0) htop rfl
  have k3 := k3.up1 (k := 5) (n := 0) htop rfl
  have k4 := k4.up1 (k := 5) (n := 0) htop rfl
  have k5 := k5.up1 (k := 5) (n := 0) htop rfl
  have k6 := k6.up1 (k := 5) (n := 0) htop rfl
  have k7 := k7.up1 (k := 5) (n := 0) htop rfl
  have k8 := k8.up1 (k := 5) (n := 0) htop rfl
  have htop := htop.nw1 (k := 5) (n := 0) (o := (b + 22)) rfl
  have k19 := ok.nwt htop
  have n0 := (gR_z (o := (b + 22)) (by omega)).trans n0
  have n1 := (gR_z (o := (b + 22)) (by omega)).trans n1
  have n2 := (gR_z (o := (b + 22)) (by omega)).trans n2
  have n3 := (gR_z (o := (b + 22)) (by omega)).trans n3
  have n4 := (gR_z (o := (b + 22)) (by omega)).trans n4
  have n5 := (gR_z (o := (b + 22)) (by omega)).trans n5
  have n6 := (gR_z (o := (b + 22)) (by omega)).trans n6
  have n7 := (gR_z (o := (b + 22)) (by omega)).trans n7
  have hold := fun (y : Nat) hy => (hh y (hsub y hy)).trans (hold y hy)
  have hsub := fun (y : Nat) hy => gN_sub (o := b + 22) (k := 5) (n := 0) (hsub y hy)
  refine lv_dup hx hb dX0_init_148 rfl ?_
  refine k_n (va_runIN (As := []) (rest := [.ref (ad (b + 22)), .int 3, .ref (ad (b + 3))]) ⟨hx, hb, hml, hown, hts⟩ (c_X5_init (l := l) _ (b + 22) k19 htop) ⟨va_cnB 0 hts gX0_init_X5_init_n56 rfl rfl rfl (hG.2.1 ("StoneWalk$Island", 56, ⟨"StoneWalk$Stone", "<init>", "()V"⟩, "StoneWalk") (List.mem_of_getElem? (i := 5) rfl)) (hts (.initialized RX5) (List.mem_of_getElem? (i := 24) (by decide +kernel))) hdI_X5_init ⟨Nat.le_of_ble_eq_true rfl, Nat.le_of_ble_eq_true rfl⟩, rfl, (hts (.instanceMethod yX5_init) (List.mem_of_getElem? (i := 38) (by decide +kernel)))⟩ (pSA hP hK hD hT hG hS hA) rfl rfl hl.1 rfl (lv_room (Nat.le_of_ble_eq_true rfl)) dX0_init_149 ⟨Nat.le_of_ble_eq_true rfl, Nat.le_of_ble_eq_true rfl⟩) hS (fun ad => [(1, .int 3), (0, .ref (ad b))]) hl (fun ad' hh => by simp only [hh _ k0.1]) (fun ad => [.ref (ad (b + 22)), .int 3, .ref (ad (b + 3))]) (fun ad' hh => by simp only [hh _ k19.1, hh _ k3.1]) rfl (fun ad H locs hh hP hD hT htop1 hS hl => ?_)
  have hold := fun (y : Nat) hy => (hh y (hsub y hy)).trans (hold y hy)
  have htop := htop1
  refine r_aast (t0 := 5) hx hb hP hK hD hT hS k3 ⟨by decide, by decide, by decide, by decide⟩ rfl k19 (by decide) rfl (fun _ => rfl) rfl (i := 3) (by decide) dX0_init_152 (fun H locs hP hD hT hS => ?_)
  have n0 := (gR_p (a := (b + 3)) (j := ix 3) (v := some (b + 22)) (by omega)).trans n0
  have n1 := (gR_p (a := (b + 3)) (j := ix 3) (v := some (b + 22)) (by omega)).trans n1
  have n2 := (gR_p (a := (b + 3)) (j := ix 3) (v := some (b + 22)) (by omega)).trans n2
  have n3 := (gR_p (a := (b + 3)) (j := ix 3) (v := some (b + 22)) (by omega)).trans n3
  have n4 := (gR_p (a := (b + 3)) (j := ix 3) (v := some (b + 22)) (by omega)).trans n4
  have n5 := (gR_p (a := (b + 3)) (j := ix 3) (v := some (b + 22)) (by omega)).trans n5
  have n6 := (gR_p (a := (b + 3)) (j := ix 3) (v := some (b + 22)) (by omega)).trans n6
  have n7 := (gR_p (a := (b + 3)) (j := ix 3) (v := some (b + 22)) (by omega)).trans n7
  refine lv_iinc (v := 4) (lv' := [(1, .int 4), (0, .ref (ad b))]) hx hb dX0_init_153 hl (k := 0) rfl (by decide) (by decide) rfl (fun ls hl => ?_)
  refine lv_goto (tgt := 131) hx hb dX0_init_156 rfl ?_
  refine lv_iload_n hx hb dX0_init_131 rfl (lv_at hl 0 rfl) ?_
  refine lv_aload_n hx hb dX0_init_132 rfl (lv_at hl 1 rfl) ?_
  refine r_get (T := TX0) (v := .ref (ad (b + 3))) hx hb hts in0 hown hK hP k0 (by decide) rfl 2 (by decide) (hts (.fieldLink RX0 25 "StoneWalk$Island" "statues" "[LStoneWalk$Stone;") (List.mem_of_getElem? (i := 9) (by decide +kernel))) rfl (t := 2) rfl (congrArg (fun z : Option Nat => va_rf (z.map ad)) n2) dX0_init_133 ?_
  refine r_alen (t0 := 5) (v := 10) hx hb hK hP k3 (by decide) rfl rfl dX0_init_136 ?_
  refine lv_icmp_ge (tgt := 159) hx hb dX0_init_137 rfl (fun c => absurd c (by decide)) (fun _ => ?_)
  refine lv_aload_n hx hb dX0_init_140 rfl (lv_at hl 1 rfl) ?_
  refine r_get (T := TX0) (v := .ref (ad (b + 3))) hx hb hts in0 hown hK hP k0 (by decide) rfl 2 (by decide) (hts (.fieldLink RX0 25 "StoneWalk$Island" "statues" "[LStoneWalk$Stone;") (List.mem_of_getElem? (i := 9) (by decide +kernel))) rfl (t := 2) rfl (congrArg (fun z : Option Nat => va_rf (z.map ad)) n2) dX0_init_141 ?_
  refine lv_iload_n hx hb dX0_init_144 rfl (lv_at hl 0 rfl) ?_
  refine r_new (T := TX5) (ci := 5) (o := b + 23) hx hb hts in5 tyX5 tyX5_ok hown (hts (.classLink RX0 23 RX5) (List.mem_of_getElem? (i := 8) (by decide +kernel))) (hts (.instantiable RX5 8) (List.mem_of_getElem? (i := 23) (by decide +kernel))) (hts (.initialized RX5) (List.mem_of_getElem? (i := 24) (by decide +kernel))) hP hK hD hT hS hA (by decide) rfl htop rfl (fun j hj => by rw [fv_z]; rcases (show j = 0 ∨ j = 1 ∨ j = 2 ∨ j = 3 ∨ j = 4 ∨ j = 5 ∨ j = 6 ∨ j = 7 by omega) with rfl | rfl | rfl | rfl | rfl | rfl | rfl | rfl <;> rfl) (fun _ => fv_e) (Nat.le_of_ble_eq_true rfl) (Nat.le_of_ble_eq_true rfl) (fun ad => [(1, .int 4), (0, .ref (ad b))]) hl (fun ad' hh => by simp only [hh _ k0.1]) (fun ad => [.int 4, .ref (ad (b + 3))]) (fun ad' hh => by simp only [hh _ k3.1]) rfl dX0_init_145 (fun ad H hh hP hD hT hS hl => ?_)
  have k0 := k0.up1 (k := 5) (n := 0) htop rfl
  have k1 := k1.up1 (k := 5) (n := 0) htop rfl
  have k2 := k2.up1 (k := 5) (n := 0) htop rfl
  have k3 := k3.up1 (k := 5) (n := 0) htop rfl
  have k4 := k4.up1 (k := 5) (n := 0) htop rfl
  have k5 := k5.up1 (k := 5) (n := 0) htop rfl
  have k6 := k6.up1 (k := 5) (n := 0) htop rfl
  have k7 := k7.up1 (k := 5) (n := 0) htop rfl
  have k8 := k8.up1 (k := 5) (n := 0) htop rfl
  have htop := htop.nw1 (k := 5) (n := 0) (o := (b + 23)) rfl
  have k20 := ok.nwt htop
  have n0 := (gR_z (o := (b + 23)) (by omega)).trans n0
  have n1 := (gR_z (o := (b + 23)) (by omega)).trans n1
  have n2 := (gR_z (o := (b + 23)) (by omega)).trans n2
  have n3 := (gR_z (o := (b + 23)) (by omega)).trans n3
  have n4 := (gR_z (o := (b + 23)) (by omega)).trans n4
  have n5 := (gR_z (o := (b + 23)) (by omega)).trans n5
  have n6 := (gR_z (o := (b + 23)) (by omega)).trans n6
  have n7 := (gR_z (o := (b + 23)) (by omega)).trans n7
  have hold := fun (y : Nat) hy => (hh y (hsub y hy)).trans (hold y hy)
  have hsub := fun (y : Nat) hy => gN_sub (o := b + 23) (k := 5) (n := 0) (hsub y hy)
  refine lv_dup hx hb dX0_init_148 rfl ?_
  refine k_n (va_runIN (As := []) (rest := [.ref (ad (b + 23)), .int 4, .ref (ad (b + 3))]) ⟨hx, hb, hml, hown, hts⟩ (c_X5_init (l := l) _ (b + 23) k20 htop) ⟨va_cnB 0 hts gX0_init_X5_init_n56 rfl rfl rfl (hG.2.1 ("StoneWalk$Island", 56, ⟨"StoneWalk$Stone", "<init>", "()V"⟩, "StoneWalk") (List.mem_of_getElem? (i := 5) rfl)) (hts (.initialized RX5) (List.mem_of_getElem? (i := 24) (by decide +kernel))) hdI_X5_init ⟨Nat.le_of_ble_eq_true rfl, Nat.le_of_ble_eq_true rfl⟩, rfl, (hts (.instanceMethod yX5_init) (List.mem_of_getElem? (i := 38) (by decide +kernel)))⟩ (pSA hP hK hD hT hG hS hA) rfl rfl hl.1 rfl (lv_room (Nat.le_of_ble_eq_true rfl)) dX0_init_149 ⟨Nat.le_of_ble_eq_true rfl, Nat.le_of_ble_eq_true rfl⟩) hS (fun ad => [(1, .int 4), (0, .ref (ad b))]) hl (fun ad' hh => by simp only [hh _ k0.1]) (fun ad => [.ref (ad (b + 23)), .int 4, .ref (ad (b + 3))]) (fun ad' hh => by simp only [hh _ k20.1, hh _ k3.1]) rfl (fun ad H locs hh hP hD hT htop1 hS hl => ?_)
  have hold := fun (y : Nat) hy => (hh y (hsub y hy)).trans (hold y hy)
  have htop := htop1
  refine r_aast (t0 := 5) hx hb hP hK hD hT hS k3 ⟨by decide, by decide, by decide, by decide⟩ rfl k20 (by decide) rfl (fun _ => rfl) rfl (i := 4) (by decide) dX0_init_152 (fun H locs hP hD hT hS => ?_)
  have n0 := (gR_p (a := (b + 3)) (j := ix 4) (v := some (b + 23)) (by omega)).trans n0
  have n1 := (gR_p (a := (b + 3)) (j := ix 4) (v := some (b + 23)) (by omega)).trans n1
  have n2 := (gR_p (a := (b + 3)) (j := ix 4) (v := some (b + 23)) (by omega)).trans n2
  have n3 := (gR_p (a := (b + 3)) (j := ix 4) (v := some (b + 23)) (by omega)).trans n3
  have n4 := (gR_p (a := (b + 3)) (j := ix 4) (v := some (b + 23)) (by omega)).trans n4
  have n5 := (gR_p (a := (b + 3)) (j := ix 4) (v := some (b + 23)) (by omega)).trans n5
  have n6 := (gR_p (a := (b + 3)) (j := ix 4) (v := some (b + 23)) (by omega)).trans n6
  have n7 := (gR_p (a := (b + 3)) (j := ix 4) (v := some (b + 23)) (by omega)).trans n7
  refine lv_iinc (v := 5) (lv' := [(1, .int 5), (0, .ref (ad b))]) hx hb dX0_init_153 hl (k := 0) rfl (by decide) (by decide) rfl (fun ls hl => ?_)
  refine lv_goto (tgt := 131) hx hb dX0_init_156 rfl ?_
  refine lv_iload_n hx hb dX0_init_131 rfl (lv_at hl 0 rfl) ?_
  refine lv_aload_n hx hb dX0_init_132 rfl (lv_at hl 1 rfl) ?_
  refine r_get (T := TX0) (v := .ref (ad (b + 3))) hx hb hts in0 hown hK hP k0 (by decide) rfl 2 (by decide) (hts (.fieldLink RX0 25 "StoneWalk$Island" "statues" "[LStoneWalk$Stone;") (List.mem_of_getElem? (i := 9) (by decide +kernel))) rfl (t := 2) rfl (congrArg (fun z : Option Nat => va_rf (z.map ad)) n2) dX0_init_133 ?_
  refine r_alen (t0 := 5) (v := 10) hx hb hK hP k3 (by decide) rfl rfl dX0_init_136 ?_
  refine lv_icmp_ge (tgt := 159) hx hb dX0_init_137 rfl (fun c => absurd c (by decide)) (fun _ => ?_)
  refine lv_aload_n hx hb dX0_init_140 rfl (lv_at hl 1 rfl) ?_
  refine r_get (T := TX0) (v := .ref (ad (b + 3))) hx hb hts in0 hown hK hP k0 (by decide) rfl 2 (by decide) (hts (.fieldLink RX0 25 "StoneWalk$Island" "statues" "[LStoneWalk$Stone;") (List.mem_of_getElem? (i := 9) (by decide +kernel))) rfl (t := 2) rfl (congrArg (fun z : Option Nat => va_rf (z.map ad)) n2) dX0_init_141 ?_
  refine lv_iload_n hx hb dX0_init_144 rfl (lv_at hl 0 rfl) ?_
  refine r_new (T := TX5) (ci := 5) (o := b + 24) hx hb hts in5 tyX5 tyX5_ok hown (hts (.classLink RX0 23 RX5) (List.mem_of_getElem? (i := 8) (by decide +kernel))) (hts (.instantiable RX5 8) (List.mem_of_getElem? (i := 23) (by decide +kernel))) (hts (.initialized RX5) (List.mem_of_getElem? (i := 24) (by decide +kernel))) hP hK hD hT hS hA (by decide) rfl htop rfl (fun j hj => by rw [fv_z]; rcases (show j = 0 ∨ j = 1 ∨ j = 2 ∨ j = 3 ∨ j = 4 ∨ j = 5 ∨ j = 6 ∨ j = 7 by omega) with rfl | rfl | rfl | rfl | rfl | rfl | rfl | rfl <;> rfl) (fun _ => fv_e) (Nat.le_of_ble_eq_true rfl) (Nat.le_of_ble_eq_true rfl) (fun ad => [(1, .int 5), (0, .ref (ad b))]) hl (fun ad' hh => by simp only [hh _ k0.1]) (fun ad => [.int 5, .ref (ad (b + 3))]) (fun ad' hh => by simp only [hh _ k3.1]) rfl dX0_init_145 (fun ad H hh hP hD hT hS hl => ?_)
  have k0 := k0.up1 (k := 5) (n := 0) htop rfl
  have k1 := k1.up1 (k := 5) (n := 0) htop rfl
  have k2 := k2.up1 (k := 5) (n := 0) htop rfl
  have k3 := k3.up1 (k := 5) (n := 0) htop rfl
  have k4 := k4.up1 (k := 5) (n := 0) htop rfl
  have k5 := k5.up1 (k := 5) (n := 0) htop rfl
  have k6 := k6.up1 (k := 5) (n := 0) htop rfl
  have k7 := k7.up1 (k := 5) (n := 0) htop rfl
  have k8 := k8.up1 (k := 5) (n := 0) htop rfl
  have htop := htop.nw1 (k := 5) (n := 0) (o := (b + 24)) rfl
  have k21 := ok.nwt htop
  have n0 := (gR_z (o := (b + 24)) (by omega)).trans n0
  have n1 := (gR_z (o := (b + 24)) (by omega)).trans n1
  have n2 := (gR_z (o := (b + 24)) (by omega)).trans n2
  have n3 := (gR_z (o := (b + 24)) (by omega)).trans n3
  have n4 := (gR_z (o := (b + 24)) (by omega)).trans n4
  have n5 := (gR_z (o := (b + 24)) (by omega)).trans n5
  have n6 := (gR_z (o := (b + 24)) (by omega)).trans n6
  have n7 := (gR_z (o := (b + 24)) (by omega)).trans n7
  have hold := fun (y : Nat) hy => (hh y (hsub y hy)).trans (hold y hy)
  have hsub := fun (y : Nat) hy => gN_sub (o := b + 24) (k := 5) (n := 0) (hsub y hy)
  refine lv_dup hx hb dX0_init_148 rfl ?_
  refine k_n (va_runIN (As := []) (rest := [.ref (ad (b + 24)), .int 5, .ref (ad (b + 3))]) ⟨hx, hb, hml, hown, hts⟩ (c_X5_init (l := l) _ (b + 24) k21 htop) ⟨va_cnB 0 hts gX0_init_X5_init_n56 rfl rfl rfl (hG.2.1 ("StoneWalk$Island", 56, ⟨"StoneWalk$Stone", "<init>", "()V"⟩, "StoneWalk") (List.mem_of_getElem? (i := 5) rfl)) (hts (.initialized RX5) (List.mem_of_getElem? (i := 24) (by decide +kernel))) hdI_X5_init ⟨Nat.le_of_ble_eq_true rfl, Nat.le_of_ble_eq_true rfl⟩, rfl, (hts (.instanceMethod yX5_init) (List.mem_of_getElem? (i := 38) (by decide +kernel)))⟩ (pSA hP hK hD hT hG hS hA) rfl rfl hl.1 rfl (lv_room (Nat.le_of_ble_eq_true rfl)) dX0_init_149 ⟨Nat.le_of_ble_eq_true rfl, Nat.le_of_ble_eq_true rfl⟩) hS (fun ad => [(1, .int 5), (0, .ref (ad b))]) hl (fun ad' hh => by simp only [hh _ k0.1]) (fun ad => [.ref (ad (b + 24)), .int 5, .ref (ad (b + 3))]) (fun ad' hh => by simp only [hh _ k21.1, hh _ k3.1]) rfl (fun ad H locs hh hP hD hT htop1 hS hl => ?_)
  have hold := fun (y : Nat) hy => (hh y (hsub y hy)).trans (hold y hy)
  have htop := htop1
  refine r_aast (t0 := 5) hx hb hP hK hD hT hS k3 ⟨by decide, by decide, by decide, by decide⟩ rfl k21 (by decide) rfl (fun _ => rfl) rfl (i := 5) (by decide) dX0_init_152 (fun H locs hP hD hT hS => ?_)
  have n0 := (gR_p (a := (b + 3)) (j := ix 5) (v := some (b + 24)) (by omega)).trans n0
  have n1 := (gR_p (a := (b + 3)) (j := ix 5) (v := some (b + 24)) (by omega)).trans n1
  have n2 := (gR_p (a := (b + 3)) (j := ix 5) (v := some (b + 24)) (by omega)).trans n2
  have n3 := (gR_p (a := (b + 3)) (j := ix 5) (v := some (b + 24)) (by omega)).trans n3
  have n4 := (gR_p (a := (b + 3)) (j := ix 5) (v := some (b + 24)) (by omega)).trans n4
  have n5 := (gR_p (a := (b + 3)) (j := ix 5) (v := some (b + 24)) (by omega)).trans n5
  have n6 := (gR_p (a := (b + 3)) (j := ix 5) (v := some (b + 24)) (by omega)).trans n6
  have n7 := (gR_p (a := (b + 3)) (j := ix 5) (v := some (b + 24)) (by omega)).trans n7
  refine lv_iinc (v := 6) (lv' := [(1, .int 6), (0, .ref (ad b))]) hx hb dX0_init_153 hl (k := 0) rfl (by decide) (by decide) rfl (fun ls hl => ?_)
  refine lv_goto (tgt := 131) hx hb dX0_init_156 rfl ?_
  refine lv_iload_n hx hb dX0_init_131 rfl (lv_at hl 0 rfl) ?_
  refine lv_aload_n hx hb dX0_init_132 rfl (lv_at hl 1 rfl) ?_
  refine r_get (T := TX0) (v := .ref (ad (b + 3))) hx hb hts in0 hown hK hP k0 (by decide) rfl 2 (by decide) (hts (.fieldLink RX0 25 "StoneWalk$Island" "statues" "[LStoneWalk$Stone;") (List.mem_of_getElem? (i := 9) (by decide +kernel))) rfl (t := 2) rfl (congrArg (fun z : Option Nat => va_rf (z.map ad)) n2) dX0_init_133 ?_
  refine r_alen (t0 := 5) (v := 10) hx hb hK hP k3 (by decide) rfl rfl dX0_init_136 ?_
  refine lv_icmp_ge (tgt := 159) hx hb dX0_init_137 rfl (fun c => absurd c (by decide)) (fun _ => ?_)
  refine lv_aload_n hx hb dX0_init_140 rfl (lv_at hl 1 rfl) ?_
  refine r_get (T := TX0) (v := .ref (ad (b + 3))) hx hb hts in0 hown hK hP k0 (by decide) rfl 2 (by decide) (hts (.fieldLink RX0 25 "StoneWalk$Island" "statues" "[LStoneWalk$Stone;") (List.mem_of_getElem? (i := 9) (by decide +kernel))) rfl (t := 2) rfl (congrArg (fun z : Option Nat => va_rf (z.map ad)) n2) dX0_init_141 ?_
  refine lv_iload_n hx hb dX0_init_144 rfl (lv_at hl 0 rfl) ?_
  refine r_new (T := TX5) (ci := 5) (o := b + 25) hx hb hts in5 tyX5 tyX5_ok hown (hts (.classLink RX0 23 RX5) (List.mem_of_getElem? (i := 8) (by decide +kernel))) (hts (.instantiable RX5 8) (List.mem_of_getElem? (i := 23) (by decide +kernel))) (hts (.initialized RX5) (List.mem_of_getElem? (i := 24) (by decide +kernel))) hP hK hD hT hS hA (by decide) rfl htop rfl (fun j hj => by rw [fv_z]; rcases (show j = 0 ∨ j = 1 ∨ j = 2 ∨ j = 3 ∨ j = 4 ∨ j = 5 ∨ j = 6 ∨ j = 7 by omega) with rfl | rfl | rfl | rfl | rfl | rfl | rfl | rfl <;> rfl) (fun _ => fv_e) (Nat.le_of_ble_eq_true rfl) (Nat.le_of_ble_eq_true rfl) (fun ad => [(1, .int 6), (0, .ref (ad b))]) hl (fun ad' hh => by simp only [hh _ k0.1]) (fun ad => [.int 6, .ref (ad (b + 3))]) (fun ad' hh => by simp only [hh _ k3.1]) rfl dX0_init_145 (fun ad H hh hP hD hT hS hl => ?_)
  have k0 := k0.up1 (k := 5) (n := 0) htop rfl
  have k1 := k1.up1 (k := 5) (n := 0) htop rfl
  have k2 := k2.up1 (k := 5) (n := 0) htop rfl
  have k3 := k3.up1 (k := 5) (n := 0) htop rfl
  have k4 := k4.up1 (k := 5) (n := 0) htop rfl
  have k5 := k5.up1 (k := 5) (n := 0) htop rfl
  have k6 := k6.up1 (k := 5) (n := 0) htop rfl
  have k7 := k7.up1 (k := 5) (n := 0) htop rfl
  have k8 := k8.up1 (k := 5) (n := 0) htop rfl
  have htop := htop.nw1 (k := 5) (n := 0) (o := (b + 25)) rfl
  have k22 := ok.nwt htop
  have n0 := (gR_z (o := (b + 25)) (by omega)).trans n0
  have n1 := (gR_z (o := (b + 25)) (by omega)).trans n1
  have n2 := (gR_z (o := (b + 25)) (by omega)).trans n2
  have n3 := (gR_z (o := (b + 25)) (by omega)).trans n3
  have n4 := (gR_z (o := (b + 25)) (by omega)).trans n4
  have n5 := (gR_z (o := (b + 25)) (by omega)).trans n5
  have n6 := (gR_z (o := (b + 25)) (by omega)).trans n6
  have n7 := (gR_z (o := (b + 25)) (by omega)).trans n7
  have hold := fun (y : Nat) hy => (hh y (hsub y hy)).trans (hold y hy)
  have hsub := fun (y : Nat) hy => gN_sub (o := b + 25) (k := 5) (n := 0) (hsub y hy)
  refine lv_dup hx hb dX0_init_148 rfl ?_
  refine k_n (va_runIN (As := []) (rest := [.ref (ad (b + 25)), .int 6, .ref (ad (b + 3))]) ⟨hx, hb, hml, hown, hts⟩ (c_X5_init (l := l) _ (b + 25) k22 htop) ⟨va_cnB 0 hts gX0_init_X5_init_n56 rfl rfl rfl (hG.2.1 ("StoneWalk$Island", 56, ⟨"StoneWalk$Stone", "<init>", "()V"⟩, "StoneWalk") (List.mem_of_getElem? (i := 5) rfl)) (hts (.initialized RX5) (List.mem_of_getElem? (i := 24) (by decide +kernel))) hdI_X5_init ⟨Nat.le_of_ble_eq_true rfl, Nat.le_of_ble_eq_true rfl⟩, rfl, (hts (.instanceMethod yX5_init) (List.mem_of_getElem? (i := 38) (by decide +kernel)))⟩ (pSA hP hK hD hT hG hS hA) rfl rfl hl.1 rfl (lv_room (Nat.le_of_ble_eq_true rfl)) dX0_init_149 ⟨Nat.le_of_ble_eq_true rfl, Nat.le_of_ble_eq_true rfl⟩) hS (fun ad => [(1, .int 6), (0, .ref (ad b))]) hl (fun ad' hh => by simp only [hh _ k0.1]) (fun ad => [.ref (ad (b + 25)), .int 6, .ref (ad (b + 3))]) (fun ad' hh => by simp only [hh _ k22.1, hh _ k3.1]) rfl (fun ad H locs hh hP hD hT htop1 hS hl => ?_)
  have hold := fun (y : Nat) hy => (hh y (hsub y hy)).trans (hold y hy)
  have htop := htop1
  refine r_aast (t0 := 5) hx hb hP hK hD hT hS k3 ⟨by decide, by decide, by decide, by decide⟩ rfl k22 (by decide) rfl (fun _ => rfl) rfl (i := 6) (by decide) dX0_init_152 (fun H locs hP hD hT hS => ?_)
  have n0 := (gR_p (a := (b + 3)) (j := ix 6) (v := some (b + 25)) (by omega)).trans n0
  have n1 := (gR_p (a := (b + 3)) (j := ix 6) (v := some (b + 25)) (by omega)).trans n1
  have n2 := (gR_p (a := (b + 3)) (j := ix 6) (v := some (b + 25)) (by omega)).trans n2
  have n3 := (gR_p (a := (b + 3)) (j := ix 6) (v := some (b + 25)) (by omega)).trans n3
  have n4 := (gR_p (a := (b + 3)) (j := ix 6) (v := some (b + 25)) (by omega)).trans n4
  have n5 := (gR_p (a := (b + 3)) (j := ix 6) (v := some (b + 25)) (by omega)).trans n5
  have n6 := (gR_p (a := (b + 3)) (j := ix 6) (v := some (b + 25)) (by omega)).trans n6
  have n7 := (gR_p (a := (b + 3)) (j := ix 6) (v := some (b + 25)) (by omega)).trans n7
  refine lv_iinc (v := 7) (lv' := [(1, .int 7), (0, .ref (ad b))]) hx hb dX0_init_153 hl (k := 0) rfl (by decide) (by decide) rfl (fun ls hl => ?_)
  refine lv_goto (tgt := 131) hx hb dX0_init_156 rfl ?_
  refine lv_iload_n hx hb dX0_init_131 rfl (lv_at hl 0 rfl) ?_
  refine lv_aload_n hx hb dX0_init_132 rfl (lv_at hl 1 rfl) ?_
  refine r_get (T := TX0) (v := .ref (ad (b + 3))) hx hb hts in0 hown hK hP k0 (by decide) rfl 2 (by decide) (hts (.fieldLink RX0 25 "StoneWalk$Island" "statues" "[LStoneWalk$Stone;") (List.mem_of_getElem? (i := 9) (by decide +kernel))) rfl (t := 2) rfl (congrArg (fun z : Option Nat => va_rf (z.map ad)) n2) dX0_init_133 ?_
  refine r_alen (t0 := 5) (v := 10) hx hb hK hP k3 (by decide) rfl rfl dX0_init_136 ?_
  refine lv_icmp_ge (tgt := 159) hx hb dX0_init_137 rfl (fun c => absurd c (by decide)) (fun _ => ?_)
  refine lv_aload_n hx hb dX0_init_140 rfl (lv_at hl 1 rfl) ?_
  refine r_get (T := TX0) (v := .ref (ad (b + 3))) hx hb hts in0 hown hK hP k0 (by decide) rfl 2 (by decide) (hts (.fieldLink RX0 25 "StoneWalk$Island" "statues" "[LStoneWalk$Stone;") (List.mem_of_getElem? (i := 9) (by decide +kernel))) rfl (t := 2) rfl (congrArg (fun z : Option Nat => va_rf (z.map ad)) n2) dX0_init_141 ?_
  refine lv_iload_n hx hb dX0_init_144 rfl (lv_at hl 0 rfl) ?_
  refine r_new (T := TX5) (ci := 5) (o := b + 26) hx hb hts in5 tyX5 tyX5_ok hown (hts (.classLink RX0 23 RX5) (List.mem_of_getElem? (i := 8) (by decide +kernel))) (hts (.instantiable RX5 8) (List.mem_of_getElem? (i := 23) (by decide +kernel))) (hts (.initialized RX5) (List.mem_of_getElem? (i := 24) (by decide +kernel))) hP hK hD hT hS hA (by decide) rfl htop rfl (fun j hj => by rw [fv_z]; rcases (show j = 0 ∨ j = 1 ∨ j = 2 ∨ j = 3 ∨ j = 4 ∨ j = 5 ∨ j = 6 ∨ j = 7 by omega) with rfl | rfl | rfl | rfl | rfl | rfl | rfl | rfl <;> rfl) (fun _ => fv_e) (Nat.le_of_ble_eq_true rfl) (Nat.le_of_ble_eq_true rfl) (fun ad => [(1, .int 7), (0, .ref (ad b))]) hl (fun ad' hh => by simp only [hh _ k0.1]) (fun ad => [.int 7, .ref (ad (b + 3))]) (fun ad' hh => by simp only [hh _ k3.1]) rfl dX0_init_145 (fun ad H hh hP hD hT hS hl => ?_)
  have k0 := k0.up1 (k := 5) (n := 0) htop rfl
  have k1 := k1.up1 (k := 5) (n := 0) htop rfl
  have k2 := k2.up1 (k := 5) (n := 0) htop rfl
  have k3 := k3.up1 (k := 5) (n := 0) htop rfl
  have k4 := k4.up1 (k := 5) (n := 0) htop rfl
  have k5 := k5.up1 (k := 5) (n := 0) htop rfl
  have k6 := k6.up1 (k := 5) (n := 0) htop rfl
  have k7 := k7.up1 (k := 5) (n := 0) htop rfl
  have k8 := k8.up1 (k := 5) (n := 0) htop rfl
  have htop := htop.nw1 (k := 5) (n := 0) (o := (b + 26)) rfl
  have k23 := ok.nwt htop
  have n0 := (gR_z (o := (b + 26)) (by omega)).trans n0
  have n1 := (gR_z (o := (b + 26)) (by omega)).trans n1
  have n2 := (gR_z (o := (b + 26)) (by omega)).trans n2
  have n3 := (gR_z (o := (b + 26)) (by omega)).trans n3
  have n4 := (gR_z (o := (b + 26)) (by omega)).trans n4
  have n5 := (gR_z (o := (b + 26)) (by omega)).trans n5
  have n6 := (gR_z (o := (b + 26)) (by omega)).trans n6
  have n7 := (gR_z (o := (b + 26)) (by omega)).trans n7
  have hold := fun (y : Nat) hy => (hh y (hsub y hy)).trans (hold y hy)
  have hsub := fun (y : Nat) hy => gN_sub (o := b + 26) (k := 5) (n := 0) (hsub y hy)
  refine lv_dup hx hb dX0_init_148 rfl ?_
  refine k_n (va_runIN (As := []) (rest := [.ref (ad (b + 26)), .int 7, .ref (ad (b + 3))]) ⟨hx, hb, hml, hown, hts⟩ (c_X5_init (l := l) _ (b + 26) k23 htop) ⟨va_cnB 0 hts gX0_init_X5_init_n56 rfl rfl rfl (hG.2.1 ("StoneWalk$Island", 56, ⟨"StoneWalk$Stone", "<init>", "()V"⟩, "StoneWalk") (List.mem_of_getElem? (i := 5) rfl)) (hts (.initialized RX5) (List.mem_of_getElem? (i := 24) (by decide +kernel))) hdI_X5_init ⟨Nat.le_of_ble_eq_true rfl, Nat.le_of_ble_eq_true rfl⟩, rfl, (hts (.instanceMethod yX5_init) (List.mem_of_getElem? (i := 38) (by decide +kernel)))⟩ (pSA hP hK hD hT hG hS hA) rfl rfl hl.1 rfl (lv_room (Nat.le_of_ble_eq_true rfl)) dX0_init_149 ⟨Nat.le_of_ble_eq_true rfl, Nat.le_of_ble_eq_true rfl⟩) hS (fun ad => [(1, .int 7), (0, .ref (ad b))]) hl (fun ad' hh => by simp only [hh _ k0.1]) (fun ad => [.ref (ad (b + 26)), .int 7, .ref (ad (b + 3))]) (fun ad' hh => by simp only [hh _ k23.1, hh _ k3.1]) rfl (fun ad H locs hh hP hD hT htop1 hS hl => ?_)
  have hold := fun (y : Nat) hy => (hh y (hsub y hy)).trans (hold y hy)
  have htop := htop1
  refine r_aast (t0 := 5) hx hb hP hK hD hT hS k3 ⟨by decide, by decide, by decide, by decide⟩ rfl k23 (by decide) rfl (fun _ => rfl) rfl (i := 7) (by decide) dX0_init_152 (fun H locs hP hD hT hS => ?_)
  have n0 := (gR_p (a := (b + 3)) (j := ix 7) (v := some (b + 26)) (by omega)).trans n0
  have n1 := (gR_p (a := (b + 3)) (j := ix 7) (v := some (b + 26)) (by omega)).trans n1
  have n2 := (gR_p (a := (b + 3)) (j := ix 7) (v := some (b + 26)) (by omega)).trans n2
  have n3 := (gR_p (a := (b + 3)) (j := ix 7) (v := some (b + 26)) (by omega)).trans n3
  have n4 := (gR_p (a := (b + 3)) (j := ix 7) (v := some (b + 26)) (by omega)).trans n4
  have n5 := (gR_p (a := (b + 3)) (j := ix 7) (v := some (b + 26)) (by omega)).trans n5
  have n6 := (gR_p (a := (b + 3)) (j := ix 7) (v := some (b + 26)) (by omega)).trans n6
  have n7 := (gR_p (a := (b + 3)) (j := ix 7) (v := some (b + 26)) (by omega)).trans n7
  refine lv_iinc (v := 8) (lv' := [(1, .int 8), (0, .ref (ad b))]) hx hb dX0_init_153 hl (k := 0) rfl (by decide) (by decide) rfl (fun ls hl => ?_)
  refine lv_goto (tgt := 131) hx hb dX0_init_156 rfl ?_
  refine lv_iload_n hx hb dX0_init_131 rfl (lv_at hl 0 rfl) ?_
  refine lv_aload_n hx hb dX0_init_132 rfl (lv_at hl 1 rfl) ?_
  refine r_get (T := TX0) (v := .ref (ad (b + 3))) hx hb hts in0 hown hK hP k0 (by decide) rfl 2 (by decide) (hts (.fieldLink RX0 25 "StoneWalk$Island" "statues" "[LStoneWalk$Stone;") (List.mem_of_getElem? (i := 9) (by decide +kernel))) rfl (t := 2) rfl (congrArg (fun z : Option Nat => va_rf (z.map ad)) n2) dX0_init_133 ?_
  refine r_alen (t0 := 5) (v := 10) hx hb hK hP k3 (by decide) rfl rfl dX0_init_136 ?_
  refine lv_icmp_ge (tgt := 159) hx hb dX0_init_137 rfl (fun c => absurd c (by decide)) (fun _ => ?_)
  refine lv_aload_n hx hb dX0_init_140 rfl (lv_at hl 1 rfl) ?_
  refine r_get (T := TX0) (v := .ref (ad (b + 3))) hx hb hts in0 hown hK hP k0 (by decide) rfl 2 (by decide) (hts (.fieldLink RX0 25 "StoneWalk$Island" "statues" "[LStoneWalk$Stone;") (List.mem_of_getElem? (i := 9) (by decide +kernel))) rfl (t := 2) rfl (congrArg (fun z : Option Nat => va_rf (z.map ad)) n2) dX0_init_141 ?_
  refine lv_iload_n hx hb dX0_init_144 rfl (lv_at hl 0 rfl) ?_
  refine r_new (T := TX5) (ci := 5) (o := b + 27) hx hb hts in5 tyX5 tyX5_ok hown (hts (.classLink RX0 23 RX5) (List.mem_of_getElem? (i := 8) (by decide +kernel))) (hts (.instantiable RX5 8) (List.mem_of_getElem? (i := 23) (by decide +kernel))) (hts (.initialized RX5) (List.mem_of_getElem? (i := 24) (by decide +kernel))) hP hK hD hT hS hA (by decide) rfl htop rfl (fun j hj => by rw [fv_z]; rcases (show j = 0 ∨ j = 1 ∨ j = 2 ∨ j = 3 ∨ j = 4 ∨ j = 5 ∨ j = 6 ∨ j = 7 by omega) with rfl | rfl | rfl | rfl | rfl | rfl | rfl | rfl <;> rfl) (fun _ => fv_e) (Nat.le_of_ble_eq_true rfl) (Nat.le_of_ble_eq_true rfl) (fun ad => [(1, .int 8), (0, .ref (ad b))]) hl (fun ad' hh => by simp only [hh _ k0.1]) (fun ad => [.int 8, .ref (ad (b + 3))]) (fun ad' hh => by simp only [hh _ k3.1]) rfl dX0_init_145 (fun ad H hh hP hD hT hS hl => ?_)
  have k0 := k0.up1 (k := 5) (n := 0) htop rfl
  have k1 := k1.up1 (k := 5) (n := 0) htop rfl
  have k2 := k2.up1 (k := 5) (n := 0) htop rfl
  have k3 := k3.up1 (k := 5) (n := 0) htop rfl
  have k4 := k4.up1 (k := 5) (n := 0) htop rfl
  have k5 := k5.up1 (k := 5) (n := 0) htop rfl
  have k6 := k6.up1 (k := 5) (n := 0) htop rfl
  have k7 := k7.up1 (k := 5) (n := 0) htop rfl
  have k8 := k8.up1 (k := 5) (n := 0) htop rfl
  have htop := htop.nw1 (k := 5) (n := 0) (o := (b + 27)) rfl
  have k24 := ok.nwt htop
  have n0 := (gR_z (o := (b + 27)) (by omega)).trans n0
  have n1 := (gR_z (o := (b + 27)) (by omega)).trans n1
  have n2 := (gR_z (o := (b + 27)) (by omega)).trans n2
  have n3 := (gR_z (o := (b + 27)) (by omega)).trans n3
  have n4 := (gR_z (o := (b + 27)) (by omega)).trans n4
  have n5 := (gR_z (o := (b + 27)) (by omega)).trans n5
  have n6 := (gR_z (o := (b + 27)) (by omega)).trans n6
  have n7 := (gR_z (o := (b + 27)) (by omega)).trans n7
  have hold := fun (y : Nat) hy => (hh y (hsub y hy)).trans (hold y hy)
  have hsub := fun (y : Nat) hy => gN_sub (o := b + 27) (k := 5) (n := 0) (hsub y hy)
  refine lv_dup hx hb dX0_init_148 rfl ?_
  refine k_n (va_runIN (As := []) (rest := [.ref (ad (b + 27)), .int 8, .ref (ad (b + 3))]) ⟨hx, hb, hml, hown, hts⟩ (c_X5_init (l := l) _ (b + 27) k24 htop) ⟨va_cnB 0 hts gX0_init_X5_init_n56 rfl rfl rfl (hG.2.1 ("StoneWalk$Island", 56, ⟨"StoneWalk$Stone", "<init>", "()V"⟩, "StoneWalk") (List.mem_of_getElem? (i := 5) rfl)) (hts (.initialized RX5) (List.mem_of_getElem? (i := 24) (by decide +kernel))) hdI_X5_init ⟨Nat.le_of_ble_eq_true rfl, Nat.le_of_ble_eq_true rfl⟩, rfl, (hts (.instanceMethod yX5_init) (List.mem_of_getElem? (i := 38) (by decide +kernel)))⟩ (pSA hP hK hD hT hG hS hA) rfl rfl hl.1 rfl (lv_room (Nat.le_of_ble_eq_true rfl)) dX0_init_149 ⟨Nat.le_of_ble_eq_true rfl, Nat.le_of_ble_eq_true rfl⟩) hS (fun ad => [(1, .int 8), (0, .ref (ad b))]) hl (fun ad' hh => by simp only [hh _ k0.1]) (fun ad => [.ref (ad (b + 27)), .int 8, .ref (ad (b + 3))]) (fun ad' hh => by simp only [hh _ k24.1, hh _ k3.1]) rfl (fun ad H locs hh hP hD hT htop1 hS hl => ?_)
  have hold := fun (y : Nat) hy => (hh y (hsub y hy)).trans (hold y hy)
  have htop := htop1
  refine r_aast (t0 := 5) hx hb hP hK hD hT hS k3 ⟨by decide, by decide, by decide, by decide⟩ rfl k24 (by decide) rfl (fun _ => rfl) rfl (i := 8) (by decide) dX0_init_152 (fun H locs hP hD hT hS => ?_)
  have n0 := (gR_p (a := (b + 3)) (j := ix 8) (v := some (b + 27)) (by omega)).trans n0
  have n1 := (gR_p (a := (b + 3)) (j := ix 8) (v := some (b + 27)) (by omega)).trans n1
  have n2 := (gR_p (a := (b + 3)) (j := ix 8) (v := some (b + 27)) (by omega)).trans n2
  have n3 := (gR_p (a := (b + 3)) (j := ix 8) (v := some (b + 27)) (by omega)).trans n3
  have n4 := (gR_p (a := (b + 3)) (j := ix 8) (v := some (b + 27)) (by omega)).trans n4
  have n5 := (gR_p (a := (b + 3)) (j := ix 8) (v := some (b + 27)) (by omega)).trans n5
  have n6 := (gR_p (a := (b + 3)) (j := ix 8) (v := some (b + 27)) (by omega)).trans n6
  have n7 := (gR_p (a := (b + 3)) (j := ix 8) (v := some (b + 27)) (by omega)).trans n7
  refine lv_iinc (v := 9) (lv' := [(1, .int 9), (0, .ref (ad b))]) hx hb dX0_init_153 hl (k := 0) rfl (by decide) (by decide) rfl (fun ls hl => ?_)
  refine lv_goto (tgt := 131) hx hb dX0_init_156 rfl ?_
  refine lv_iload_n hx hb dX0_init_131 rfl (lv_at hl 0 rfl) ?_
  refine lv_aload_n hx hb dX0_init_132 rfl (lv_at hl 1 rfl) ?_
  refine r_get (T := TX0) (v := .ref (ad (b + 3))) hx hb hts in0 hown hK hP k0 (by decide) rfl 2 (by decide) (hts (.fieldLink RX0 25 "StoneWalk$Island" "statues" "[LStoneWalk$Stone;") (List.mem_of_getElem? (i := 9) (by decide +kernel))) rfl (t := 2) rfl (congrArg (fun z : Option Nat => va_rf (z.map ad)) n2) dX0_init_133 ?_
  refine r_alen (t0 := 5) (v := 10) hx hb hK hP k3 (by decide) rfl rfl dX0_init_136 ?_
  refine lv_icmp_ge (tgt := 159) hx hb dX0_init_137 rfl (fun c => absurd c (by decide)) (fun _ => ?_)
  refine lv_aload_n hx hb dX0_init_140 rfl (lv_at hl 1 rfl) ?_
  refine r_get (T := TX0) (v := .ref (ad (b + 3))) hx hb hts in0 hown hK hP k0 (by decide) rfl 2 (by decide) (hts (.fieldLink RX0 25 "StoneWalk$Island" "statues" "[LStoneWalk$Stone;") (List.mem_of_getElem? (i := 9) (by decide +kernel))) rfl (t := 2) rfl (congrArg (fun z : Option Nat => va_rf (z.map ad)) n2) dX0_init_141 ?_
  refine lv_iload_n hx hb dX0_init_144 rfl (lv_at hl 0 rfl) ?_
  refine r_new (T := TX5) (ci := 5) (o := b + 28) hx hb hts in5 tyX5 tyX5_ok hown (hts (.classLink RX0 23 RX5) (List.mem_of_getElem? (i := 8) (by decide +kernel))) (hts (.instantiable RX5 8) (List.mem_of_getElem? (i := 23) (by decide +kernel))) (hts (.initialized RX5) (List.mem_of_getElem? (i := 24) (by decide +kernel))) hP hK hD hT hS hA (by decide) rfl htop rfl (fun j hj => by rw [fv_z]; rcases (show j = 0 ∨ j = 1 ∨ j = 2 ∨ j = 3 ∨ j = 4 ∨ j = 5 ∨ j = 6 ∨ j = 7 by omega) with rfl | rfl | rfl | rfl | rfl | rfl | rfl | rfl <;> rfl) (fun _ => fv_e) (Nat.le_of_ble_eq_true rfl) (Nat.le_of_ble_eq_true rfl) (fun ad => [(1, .int 9), (0, .ref (ad b))]) hl (fun ad' hh => by simp only [hh _ k0.1]) (fun ad => [.int 9, .ref (ad (b + 3))]) (fun ad' hh => by simp only [hh _ k3.1]) rfl dX0_init_145 (fun ad H hh hP hD hT hS hl => ?_)
  have k0 := k0.up1 (k := 5) (n := 0) htop rfl
  have k1 := k1.up1 (k := 5) (n := 0) htop rfl
  have k2 := k2.up1 (k := 5) (n := 0) htop rfl
  have k3 := k3.up1 (k := 5) (n := 0) htop rfl
  have k4 := k4.up1 (k := 5) (n := 0) htop rfl
  have k5 := k5.up1 (k := 5) (n := 0) htop rfl
  have k6 := k6.up1 (k := 5) (n := 0) htop rfl
  have k7 := k7.up1 (k := 5) (n := 0) htop rfl
  have k8 := k8.up1 (k := 5) (n := 0) htop rfl
  have htop := htop.nw1 (k := 5) (n := 0) (o := (b + 28)) rfl
  have k25 := ok.nwt htop
  have n0 := (gR_z (o := (b + 28)) (by omega)).trans n0
  have n1 := (gR_z (o := (b + 28)) (by omega)).trans n1
  have n2 := (gR_z (o := (b + 28)) (by omega)).trans n2
  have n3 := (gR_z (o := (b + 28)) (by omega)).trans n3
  have n4 := (gR_z (o := (b + 28)) (by omega)).trans n4
  have n5 := (gR_z (o := (b + 28)) (by omega)).trans n5
  have n6 := (gR_z (o := (b + 28)) (by omega)).trans n6
  have n7 := (gR_z (o := (b + 28)) (by omega)).trans n7
  have hold := fun (y : Nat) hy => (hh y (hsub y hy)).trans (hold y hy)
  have hsub := fun (y : Nat) hy => gN_sub (o := b + 28) (k := 5) (n := 0) (hsub y hy)
  refine lv_dup hx hb dX0_init_148 rfl ?_
  refine k_n (va_runIN (As := []) (rest := [.ref (ad (b + 28)), .int 9, .ref (ad (b + 3))]) ⟨hx, hb, hml, hown, hts⟩ (c_X5_init (l := l) _ (b + 28) k25 htop) ⟨va_cnB 0 hts gX0_init_X5_init_n56 rfl rfl rfl (hG.2.1 ("StoneWalk$Island", 56, ⟨"StoneWalk$Stone", "<init>", "()V"⟩, "StoneWalk") (List.mem_of_getElem? (i := 5) rfl)) (hts (.initialized RX5) (List.mem_of_getElem? (i := 24) (by decide +kernel))) hdI_X5_init ⟨Nat.le_of_ble_eq_true rfl, Nat.le_of_ble_eq_true rfl⟩, rfl, (hts (.instanceMethod yX5_init) (List.mem_of_getElem? (i := 38) (by decide +kernel)))⟩ (pSA hP hK hD hT hG hS hA) rfl rfl hl.1 rfl (lv_room (Nat.le_of_ble_eq_true rfl)) dX0_init_149 ⟨Nat.le_of_ble_eq_true rfl, Nat.le_of_ble_eq_true rfl⟩) hS (fun ad => [(1, .int 9), (0, .ref (ad b))]) hl (fun ad' hh => by simp only [hh _ k0.1]) (fun ad => [.ref (ad (b + 28)), .int 9, .ref (ad (b + 3))]) (fun ad' hh => by simp only [hh _ k25.1, hh _ k3.1]) rfl (fun ad H locs hh hP hD hT htop1 hS hl => ?_)
  have hold := fun (y : Nat) hy => (hh y (hsub y hy)).trans (hold y hy)
  have htop := htop1
  refine r_aast (t0 := 5) hx hb hP hK hD hT hS k3 ⟨by decide, by decide, by decide, by decide⟩ rfl k25 (by decide) rfl (fun _ => rfl) rfl (i := 9) (by decide) dX0_init_152 (fun H locs hP hD hT hS => ?_)
  have n0 := (gR_p (a := (b + 3)) (j := ix 9) (v := some (b + 28)) (by omega)).trans n0
  have n1 := (gR_p (a := (b + 3)) (j := ix 9) (v := some (b + 28)) (by omega)).trans n1
  have n2 := (gR_p (a := (b + 3)) (j := ix 9) (v := some (b + 28)) (by omega)).trans n2
  have n3 := (gR_p (a := (b + 3)) (j := ix 9) (v := some (b + 28)) (by omega)).trans n3
  have n4 := (gR_p (a := (b + 3)) (j := ix 9) (v := some (b + 28)) (by omega)).trans n4
  have n5 := (gR_p (a := (b + 3)) (j := ix 9) (v := some (b + 28)) (by omega)).trans n5
  have n6 := (gR_p (a := (b + 3)) (j := ix 9) (v := some (b + 28)) (by omega)).trans n6
  have n7 := (gR_p (a := (b + 3)) (j := ix 9) (v := some (b + 28)) (by omega)).trans n7
  refine lv_iinc (v := 10) (lv' := [(1, .int 10), (0, .ref (ad b))]) hx hb dX0_init_153 hl (k := 0) rfl (by decide) (by decide) rfl (fun ls hl => ?_)
  refine lv_goto (tgt := 131) hx hb dX0_init_156 rfl ?_
  refine lv_iload_n hx hb dX0_init_131 rfl (lv_at hl 0 rfl) ?_
  refine lv_aload_n hx hb dX0_init_132 rfl (lv_at hl 1 rfl) ?_
  refine r_get (T := TX0) (v := .ref (ad (b + 3))) hx hb hts in0 hown hK hP k0 (by decide) rfl 2 (by decide) (hts (.fieldLink RX0 25 "StoneWalk$Island" "statues" "[LStoneWalk$Stone;") (List.mem_of_getElem? (i := 9) (by decide +kernel))) rfl (t := 2) rfl (congrArg (fun z : Option Nat => va_rf (z.map ad)) n2) dX0_init_133 ?_
  refine r_alen (t0 := 5) (v := 10) hx hb hK hP k3 (by decide) rfl rfl dX0_init_136 ?_
  refine lv_icmp_ge (tgt := 159) hx hb dX0_init_137 rfl (fun _ => ?_) (fun c => absurd (by decide) c)
  refine lv_iconst (v := 0) hx hb dX0_init_159 rfl ?_
  refine lv_istore_n (lv' := [(1, .int 0), (0, .ref (ad b))]) hx hb dX0_init_160 rfl hl (by decide) rfl (fun ls hl => ?_)
  refine lv_iload_n hx hb dX0_init_161 rfl (lv_at hl 0 rfl) ?_
  refine lv_aload_n hx hb dX0_init_162 rfl (lv_at hl 1 rfl) ?_
  refine r_get (T := TX0) (v := .ref (ad (b + 4))) hx hb hts in0 hown hK hP k0 (by decide) rfl 3 (by decide) (hts (.fieldLink RX0 31 "StoneWalk$Island" "trials" "[LStoneWalk$Trial;") (List.mem_of_getElem? (i := 11) (by decide +kernel))) rfl (t := 2) rfl (congrArg (fun z : Option Nat => va_rf (z.map ad)) n3) dX0_init_163 ?_
  refine r_alen (t0 := 8) (v := 5) hx hb hK hP k4 (by decide) rfl rfl dX0_init_166 ?_
  refine lv_icmp_ge (tgt := 189) hx hb dX0_init_167 rfl (fun c => absurd c (by decide)) (fun _ => ?_)
  refine lv_aload_n hx hb dX0_init_170 rfl (lv_at hl 1 rfl) ?_
  refine r_get (T := TX0) (v := .ref (ad (b + 4))) hx hb hts in0 hown hK hP k0 (by decide) rfl 3 (by decide) (hts (.fieldLink RX0 31 "StoneWalk$Island" "trials" "[LStoneWalk$Trial;") (List.mem_of_getElem? (i := 11) (by decide +kernel))) rfl (t := 2) rfl (congrArg (fun z : Option Nat => va_rf (z.map ad)) n3) dX0_init_171 ?_
  refine lv_iload_n hx hb dX0_init_174 rfl (lv_at hl 0 rfl) ?_
  refine r_new (T := TX9) (ci := 9) (o := b + 29) hx hb hts in9 tyX9 tyX9_ok hown (hts (.classLink RX0 29 RX9) (List.mem_of_getElem? (i := 10) (by decide +kernel))) (hts (.instantiable RX9 5) (List.mem_of_getElem? (i := 25) (by decide +kernel))) (hts (.initialized RX9) (List.mem_of_getElem? (i := 26) (by decide +kernel))) hP hK hD hT hS hA (by decide) rfl htop rfl (fun j hj => by rw [fv_z]; rcases (show j = 0 ∨ j = 1 ∨ j = 2 ∨ j = 3 ∨ j = 4 by omega) with rfl | rfl | rfl | rfl | rfl <;> rfl) (fun _ => fv_e) (Nat.le_of_ble_eq_true rfl) (Nat.le_of_ble_eq_true rfl) (fun ad => [(1, .int 0), (0, .ref (ad b))]) hl (fun ad' hh => by simp only [hh _ k0.1]) (fun ad => [.int 0, .ref (ad (b + 4))]) (fun ad' hh => by simp only [hh _ k4.1]) rfl dX0_init_175 (fun ad H hh hP hD hT hS hl => ?_)
  have k0 := k0.up1 (k := 9) (n := 0) htop rfl
  have k1 := k1.up1 (k := 9) (n := 0) htop rfl
  have k2 := k2.up1 (k := 9) (n := 0) htop rfl
  have k3 := k3.up1 (k := 9) (n := 0) htop rfl
  have k4 := k4.up1 (k := 9) (n := 0) htop rfl
  have k5 := k5.up1 (k := 9) (n := 0) htop rfl
  have k6 := k6.up1 (k := 9) (n := 0) htop rfl
  have k7 := k7.up1 (k := 9) (n := 0) htop rfl
  have k8 := k8.up1 (k := 9) (n := 0) htop rfl
  have htop := htop.nw1 (k := 9) (n := 0) (o := (b + 29)) rfl
  have k26 := ok.nwt htop
  have n0 := (gR_z (o := (b + 29)) (by omega)).trans n0
  have n1 := (gR_z (o := (b + 29)) (by omega)).trans n1
  have n2 := (gR_z (o := (b + 29)) (by omega)).trans n2
  have n3 := (gR_z (o := (b + 29)) (by omega)).trans n3
  have n4 := (gR_z (o := (b + 29)) (by omega)).trans n4
  have n5 := (gR_z (o := (b + 29)) (by omega)).trans n5
  have n6 := (gR_z (o := (b + 29)) (by omega)).trans n6
  have n7 := (gR_z (o := (b + 29)) (by omega)).trans n7
  have hold := fun (y : Nat) hy => (hh y (hsub y hy)).trans (hold y hy)
  have hsub := fun (y : Nat) hy => gN_sub (o := b + 29) (k := 9) (n := 0) (hsub y hy)
  refine lv_dup hx hb dX0_init_178 rfl ?_
  refine k_n (va_runIN (As := []) (rest := [.ref (ad (b + 29)), .int 0, .ref (ad (b + 4))]) ⟨hx, hb, hml, hown, hts⟩ (c_X9_init (l := l) _ (b + 29) k26 htop) ⟨va_cnB 0 hts gX0_init_X9_init_n57 rfl rfl rfl (hG.2.1 ("StoneWalk$Island", 57, ⟨"StoneWalk$Trial", "<init>", "()V"⟩, "StoneWalk") (List.mem_of_getElem? (i := 6) rfl)) (hts (.initialized RX9) (List.mem_of_getElem? (i := 26) (by decide +kernel))) hdI_X9_init ⟨Nat.le_of_ble_eq_true rfl, Nat.le_of_ble_eq_true rfl⟩, rfl, (hts (.instanceMethod yX9_init) (List.mem_of_getElem? (i := 41) (by decide +kernel)))⟩ (pSA hP hK hD hT hG hS hA) rfl rfl hl.1 rfl (lv_room (Nat.le_of_ble_eq_true rfl)) dX0_init_179 ⟨Nat.le_of_ble_eq_true rfl, Nat.le_of_ble_eq_true rfl⟩) hS (fun ad => [(1, .int 0), (0, .ref (ad b))]) hl (fun ad' hh => by simp only [hh _ k0.1]) (fun ad => [.ref (ad (b + 29)), .int 0, .ref (ad (b + 4))]) (fun ad' hh => by simp only [hh _ k26.1, hh _ k4.1]) rfl (fun ad H locs hh hP hD hT htop1 hS hl => ?_)
  have hold := fun (y : Nat) hy => (hh y (hsub y hy)).trans (hold y hy)
  have htop := htop1
  refine r_aast (t0 := 8) hx hb hP hK hD hT hS k4 ⟨by decide, by decide, by decide, by decide⟩ rfl k26 (by decide) rfl (fun _ => rfl) rfl (i := 0) (by decide) dX0_init_182 (fun H locs hP hD hT hS => ?_)
  have n0 := (gR_p (a := (b + 4)) (j := ix 0) (v := some (b + 29)) (by omega)).trans n0
  have n1 := (gR_p (a := (b + 4)) (j := ix 0) (v := some (b + 29)) (by omega)).trans n1
  have n2 := (gR_p (a := (b + 4)) (j := ix 0) (v := some (b + 29)) (by omega)).trans n2
  have n3 := (gR_p (a := (b + 4)) (j := ix 0) (v := some (b + 29)) (by omega)).trans n3
  have n4 := (gR_p (a := (b + 4)) (j := ix 0) (v := some (b + 29)) (by omega)).trans n4
  have n5 := (gR_p (a := (b + 4)) (j := ix 0) (v := some (b + 29)) (by omega)).trans n5
  have n6 := (gR_p (a := (b + 4)) (j := ix 0) (v := some (b + 29)) (by omega)).trans n6
  have n7 := (gR_p (a := (b + 4)) (j := ix 0) (v := some (b + 29)) (by omega)).trans n7
  refine lv_iinc (v := 1) (lv' := [(1, .int 1), (0, .ref (ad b))]) hx hb dX0_init_183 hl (k := 0) rfl (by decide) (by decide) rfl (fun ls hl => ?_)
  refine lv_goto (tgt := 161) hx hb dX0_init_186 rfl ?_
  refine lv_iload_n hx hb dX0_init_161 rfl (lv_at hl 0 rfl) ?_
  refine lv_aload_n hx hb dX0_init_162 rfl (lv_at hl 1 rfl) ?_
  refine r_get (T := TX0) (v := .ref (ad (b + 4))) hx hb hts in0 hown hK hP k0 (by decide) rfl 3 (by decide) (hts (.fieldLink RX0 31 "StoneWalk$Island" "trials" "[LStoneWalk$Trial;") (List.mem_of_getElem? (i := 11) (by decide +kernel))) rfl (t := 2) rfl (congrArg (fun z : Option Nat => va_rf (z.map ad)) n3) dX0_init_163 ?_
  refine r_alen (t0 := 8) (v := 5) hx hb hK hP k4 (by decide) rfl rfl dX0_init_166 ?_
  refine lv_icmp_ge (tgt := 189) hx hb dX0_init_167 rfl (fun c => absurd c (by decide)) (fun _ => ?_)
  refine lv_aload_n hx hb dX0_init_170 rfl (lv_at hl 1 rfl) ?_
  refine r_get (T := TX0) (v := .ref (ad (b + 4))) hx hb hts in0 hown hK hP k0 (by decide) rfl 3 (by decide) (hts (.fieldLink RX0 31 "StoneWalk$Island" "trials" "[LStoneWalk$Trial;") (List.mem_of_getElem? (i := 11) (by decide +kernel))) rfl (t := 2) rfl (congrArg (fun z : Option Nat => va_rf (z.map ad)) n3) dX0_init_171 ?_
  refine lv_iload_n hx hb dX0_init_174 rfl (lv_at hl 0 rfl) ?_
  refine r_new (T := TX9) (ci := 9) (o := b + 30) hx hb hts in9 tyX9 tyX9_ok hown (hts (.classLink RX0 29 RX9) (List.mem_of_getElem? (i := 10) (by decide +kernel))) (hts (.instantiable RX9 5) (List.mem_of_getElem? (i := 25) (by decide +kernel))) (hts (.initialized RX9) (List.mem_of_getElem? (i := 26) (by decide +kernel))) hP hK hD hT hS hA (by decide) rfl htop rfl (fun j hj => by rw [fv_z]; rcases (show j = 0 ∨ j = 1 ∨ j = 2 ∨ j = 3 ∨ j = 4 by omega) with rfl | rfl | rfl | rfl | rfl <;> rfl) (fun _ => fv_e) (Nat.le_of_ble_eq_true rfl) (Nat.le_of_ble_eq_true rfl) (fun ad => [(1, .int 1), (0, .ref (ad b))]) hl (fun ad' hh => by simp only [hh _ k0.1]) (fun ad => [.int 1, .ref (ad (b + 4))]) (fun ad' hh => by simp only [hh _ k4.1]) rfl dX0_init_175 (fun ad H hh hP hD hT hS hl => ?_)
  have k0 := k0.up1 (k := 9) (n := 0) htop rfl
  have k1 := k1.up1 (k := 9) (n := 0) htop rfl
  have k2 := k2.up1 (k := 9) (n := 0) htop rfl
  have k3 := k3.up1 (k := 9) (n := 0) htop rfl
  have k4 := k4.up1 (k := 9) (n := 0) htop rfl
  have k5 := k5.up1 (k := 9) (n := 0) htop rfl
  have k6 := k6.up1 (k := 9) (n := 0) htop rfl
  have k7 := k7.up1 (k := 9) (n := 0) htop rfl
  have k8 := k8.up1 (k := 9) (n := 0) htop rfl
  have htop := htop.nw1 (k := 9) (n := 0) (o := (b + 30)) rfl
  have k27 := ok.nwt htop
  have n0 := (gR_z (o := (b + 30)) (by omega)).trans n0
  have n1 := (gR_z (o := (b + 30)) (by omega)).trans n1
  have n2 := (gR_z (o := (b + 30)) (by omega)).trans n2
  have n3 := (gR_z (o := (b + 30)) (by omega)).trans n3
  have n4 := (gR_z (o := (b + 30)) (by omega)).trans n4
  have n5 := (gR_z (o := (b + 30)) (by omega)).trans n5
  have n6 := (gR_z (o := (b + 30)) (by omega)).trans n6
  have n7 := (gR_z (o := (b + 30)) (by omega)).trans n7
  have hold := fun (y : Nat) hy => (hh y (hsub y hy)).trans (hold y hy)
  have hsub := fun (y : Nat) hy => gN_sub (o := b + 30) (k := 9) (n := 0) (hsub y hy)
  refine lv_dup hx hb dX0_init_178 rfl ?_
  refine k_n (va_runIN (As := []) (rest := [.ref (ad (b + 30)), .int 1, .ref (ad (b + 4))]) ⟨hx, hb, hml, hown, hts⟩ (c_X9_init (l := l) _ (b + 30) k27 htop) ⟨va_cnB 0 hts gX0_init_X9_init_n57 rfl rfl rfl (hG.2.1 ("StoneWalk$Island", 57, ⟨"StoneWalk$Trial", "<init>", "()V"⟩, "StoneWalk") (List.mem_of_getElem? (i := 6) rfl)) (hts (.initialized RX9) (List.mem_of_getElem? (i := 26) (by decide +kernel))) hdI_X9_init ⟨Nat.le_of_ble_eq_true rfl, Nat.le_of_ble_eq_true rfl⟩, rfl, (hts (.instanceMethod yX9_init) (List.mem_of_getElem? (i := 41) (by decide +kernel)))⟩ (pSA hP hK hD hT hG hS hA) rfl rfl hl.1 rfl (lv_room (Nat.le_of_ble_eq_true rfl)) dX0_init_179 ⟨Nat.le_of_ble_eq_true rfl, Nat.le_of_ble_eq_true rfl⟩) hS (fun ad => [(1, .int 1), (0, .ref (ad b))]) hl (fun ad' hh => by simp only [hh _ k0.1]) (fun ad => [.ref (ad (b + 30)), .int 1, .ref (ad (b + 4))]) (fun ad' hh => by simp only [hh _ k27.1, hh _ k4.1]) rfl (fun ad H locs hh hP hD hT htop1 hS hl => ?_)
  have hold := fun (y : Nat) hy => (hh y (hsub y hy)).trans (hold y hy)
  have htop := htop1
  refine r_aast (t0 := 8) hx hb hP hK hD hT hS k4 ⟨by decide, by decide, by decide, by decide⟩ rfl k27 (by decide) rfl (fun _ => rfl) rfl (i := 1) (by decide) dX0_init_182 (fun H locs hP hD hT hS => ?_)
  have n0 := (gR_p (a := (b + 4)) (j := ix 1) (v := some (b + 30)) (by omega)).trans n0
  have n1 := (gR_p (a := (b + 4)) (j := ix 1) (v := some (b + 30)) (by omega)).trans n1
  have n2 := (gR_p (a := (b + 4)) (j := ix 1) (v := some (b + 30)) (by omega)).trans n2
  have n3 := (gR_p (a := (b + 4)) (j := ix 1) (v := some (b + 30)) (by omega)).trans n3
  have n4 := (gR_p (a := (b + 4)) (j := ix 1) (v := some (b + 30)) (by omega)).trans n4
  have n5 := (gR_p (a := (b + 4)) (j := ix 1) (v := some (b + 30)) (by omega)).trans n5
  have n6 := (gR_p (a := (b + 4)) (j := ix 1) (v := some (b + 30)) (by omega)).trans n6
  have n7 := (gR_p (a := (b + 4)) (j := ix 1) (v := some (b + 30)) (by omega)).trans n7
  refine lv_iinc (v := 2) (lv' := [(1, .int 2), (0, .ref (ad b))]) hx hb dX0_init_183 hl (k := 0) rfl (by decide) (by decide) rfl (fun ls hl => ?_)
  refine lv_goto (tgt := 161) hx hb dX0_init_186 rfl ?_
  refine lv_iload_n hx hb dX0_init_161 rfl (lv_at hl 0 rfl) ?_
  refine lv_aload_n hx hb dX0_init_162 rfl (lv_at hl 1 rfl) ?_
  refine r_get (T := TX0) (v := .ref (ad (b + 4))) hx hb hts in0 hown hK hP k0 (by decide) rfl 3 (by decide) (hts (.fieldLink RX0 31 "StoneWalk$Island" "trials" "[LStoneWalk$Trial;") (List.mem_of_getElem? (i := 11) (by decide +kernel))) rfl (t := 2) rfl (congrArg (fun z : Option Nat => va_rf (z.map ad)) n3) dX0_init_163 ?_
  refine r_alen (t0 := 8) (v := 5) hx hb hK hP k4 (by decide) rfl rfl dX0_init_166 ?_
  refine lv_icmp_ge (tgt := 189) hx hb dX0_init_167 rfl (fun c => absurd c (by decide)) (fun _ => ?_)
  refine lv_aload_n hx hb dX0_init_170 rfl (lv_at hl 1 rfl) ?_
  refine r_get (T := TX0) (v := .ref (ad (b + 4))) hx hb hts in0 hown hK hP k0 (by decide) rfl 3 (by decide) (hts (.fieldLink RX0 31 "StoneWalk$Island" "trials" "[LStoneWalk$Trial;") (List.mem_of_getElem? (i := 11) (by decide +kernel))) rfl (t := 2) rfl (congrArg (fun z : Option Nat => va_rf (z.map ad)) n3) dX0_init_171 ?_
  refine lv_iload_n hx hb dX0_init_174 rfl (lv_at hl 0 rfl) ?_
  refine r_new (T := TX9) (ci := 9) (o := b + 31) hx hb hts in9 tyX9 tyX9_ok hown (hts (.classLink RX0 29 RX9) (List.mem_of_getElem? (i := 10) (by decide +kernel))) (hts (.instantiable RX9 5) (List.mem_of_getElem? (i := 25) (by decide +kernel))) (hts (.initialized RX9) (List.mem_of_getElem? (i := 26) (by decide +kernel))) hP hK hD hT hS hA (by decide) rfl htop rfl (fun j hj => by rw [fv_z]; rcases (show j = 0 ∨ j = 1 ∨ j = 2 ∨ j = 3 ∨ j = 4 by omega) with rfl | rfl | rfl | rfl | rfl <;> rfl) (fun _ => fv_e) (Nat.le_of_ble_eq_true rfl) (Nat.le_of_ble_eq_true rfl) (fun ad => [(1, .int 2), (0, .ref (ad b))]) hl (fun ad' hh => by simp only [hh _ k0.1]) (fun ad => [.int 2, .ref (ad (b + 4))]) (fun ad' hh => by simp only [hh _ k4.1]) rfl dX0_init_175 (fun ad H hh hP hD hT hS hl => ?_)
  have k0 := k0.up1 (k := 9) (n := 0) htop rfl
  have k1 := k1.up1 (k := 9) (n := 0) htop rfl
  have k2 := k2.up1 (k := 9) (n := 0) htop rfl
  have k3 := k3.up1 (k := 9) (n := 0) htop rfl
  have k4 := k4.up1 (k := 9) (n := 0) htop rfl
  have k5 := k5.up1 (k := 9) (n := 0) htop rfl
  have k6 := k6.up1 (k := 9) (n := 0) htop rfl
  have k7 := k7.up1 (k := 9) (n := 0) htop rfl
  have k8 := k8.up1 (k := 9) (n := 0) htop rfl
  have htop := htop.nw1 (k := 9) (n := 0) (o := (b + 31)) rfl
  have k28 := ok.nwt htop
  have n0 := (gR_z (o := (b + 31)) (by omega)).trans n0
  have n1 := (gR_z (o := (b + 31)) (by omega)).trans n1
  have n2 := (gR_z (o := (b + 31)) (by omega)).trans n2
  have n3 := (gR_z (o := (b + 31)) (by omega)).trans n3
  have n4 := (gR_z (o := (b + 31)) (by omega)).trans n4
  have n5 := (gR_z (o := (b + 31)) (by omega)).trans n5
  have n6 := (gR_z (o := (b + 31)) (by omega)).trans n6
  have n7 := (gR_z (o := (b + 31)) (by omega)).trans n7
  have hold := fun (y : Nat) hy => (hh y (hsub y hy)).trans (hold y hy)
  have hsub := fun (y : Nat) hy => gN_sub (o := b + 31) (k := 9) (n := 0) (hsub y hy)
  refine lv_dup hx hb dX0_init_178 rfl ?_
  refine k_n (va_runIN (As := []) (rest := [.ref (ad (b + 31)), .int 2, .ref (ad (b + 4))]) ⟨hx, hb, hml, hown, hts⟩ (c_X9_init (l := l) _ (b + 31) k28 htop) ⟨va_cnB 0 hts gX0_init_X9_init_n57 rfl rfl rfl (hG.2.1 ("StoneWalk$Island", 57, ⟨"StoneWalk$Trial", "<init>", "()V"⟩, "StoneWalk") (List.mem_of_getElem? (i := 6) rfl)) (hts (.initialized RX9) (List.mem_of_getElem? (i := 26) (by decide +kernel))) hdI_X9_init ⟨Nat.le_of_ble_eq_true rfl, Nat.le_of_ble_eq_true rfl⟩, rfl, (hts (.instanceMethod yX9_init) (List.mem_of_getElem? (i := 41) (by decide +kernel)))⟩ (pSA hP hK hD hT hG hS hA) rfl rfl hl.1 rfl (lv_room (Nat.le_of_ble_eq_true rfl)) dX0_init_179 ⟨Nat.le_of_ble_eq_true rfl, Nat.le_of_ble_eq_true rfl⟩) hS (fun ad => [(1, .int 2), (0, .ref (ad b))]) hl (fun ad' hh => by simp only [hh _ k0.1]) (fun ad => [.ref (ad (b + 31)), .int 2, .ref (ad (b + 4))]) (fun ad' hh => by simp only [hh _ k28.1, hh _ k4.1]) rfl (fun ad H locs hh hP hD hT htop1 hS hl => ?_)
  have hold := fun (y : Nat) hy => (hh y (hsub y hy)).trans (hold y hy)
  have htop := htop1
  refine r_aast (t0 := 8) hx hb hP hK hD hT hS k4 ⟨by decide, by decide, by decide, by decide⟩ rfl k28 (by decide) rfl (fun _ => rfl) rfl (i := 2) (by decide) dX0_init_182 (fun H locs hP hD hT hS => ?_)
  have n0 := (gR_p (a := (b + 4)) (j := ix 2) (v := some (b + 31)) (by omega)).trans n0
  have n1 := (gR_p (a := (b + 4)) (j := ix 2) (v := some (b + 31)) (by omega)).trans n1
  have n2 := (gR_p (a := (b + 4)) (j := ix 2) (v := some (b + 31)) (by omega)).trans n2
  have n3 := (gR_p (a := (b + 4)) (j := ix 2) (v := some (b + 31)) (by omega)).trans n3
  have n4 := (gR_p (a := (b + 4)) (j := ix 2) (v := some (b + 31)) (by omega)).trans n4
  have n5 := (gR_p (a := (b + 4)) (j := ix 2) (v := some (b + 31)) (by omega)).trans n5
  have n6 := (gR_p (a := (b + 4)) (j := ix 2) (v := some (b + 31)) (by omega)).trans n6
  have n7 := (gR_p (a := (b + 4)) (j := ix 2) (v := some (b + 31)) (by omega)).trans n7
  refine lv_iinc (v := 3) (lv' := [(1, .int 3), (0, .ref (ad b))]) hx hb dX0_init_183 hl (k := 0) rfl (by decide) (by decide) rfl (fun ls hl => ?_)
  refine lv_goto (tgt := 161) hx hb dX0_init_186 rfl ?_
  refine lv_iload_n hx hb dX0_init_161 rfl (lv_at hl 0 rfl) ?_
  refine lv_aload_n hx hb dX0_init_162 rfl (lv_at hl 1 rfl) ?_
  refine r_get (T := TX0) (v := .ref (ad (b + 4))) hx hb hts in0 hown hK hP k0 (by decide) rfl 3 (by decide) (hts (.fieldLink RX0 31 "StoneWalk$Island" "trials" "[LStoneWalk$Trial;") (List.mem_of_getElem? (i := 11) (by decide +kernel))) rfl (t := 2) rfl (congrArg (fun z : Option Nat => va_rf (z.map ad)) n3) dX0_init_163 ?_
  refine r_alen (t0 := 8) (v := 5) hx hb hK hP k4 (by decide) rfl rfl dX0_init_166 ?_
  refine lv_icmp_ge (tgt := 189) hx hb dX0_init_167 rfl (fun c => absurd c (by decide)) (fun _ => ?_)
  refine lv_aload_n hx hb dX0_init_170 rfl (lv_at hl 1 rfl) ?_
  refine r_get (T := TX0) (v := .ref (ad (b + 4))) hx hb hts in0 hown hK hP k0 (by decide) rfl 3 (by decide) (hts (.fieldLink RX0 31 "StoneWalk$Island" "trials" "[LStoneWalk$Trial;") (List.mem_of_getElem? (i := 11) (by decide +kernel))) rfl (t := 2) rfl (congrArg (fun z : Option Nat => va_rf (z.map ad)) n3) dX0_init_171 ?_
  refine lv_iload_n hx hb dX0_init_174 rfl (lv_at hl 0 rfl) ?_
  refine r_new (T := TX9) (ci := 9) (o := b + 32) hx hb hts in9 tyX9 tyX9_ok hown (hts (.classLink RX0 29 RX9) (List.mem_of_getElem? (i := 10) (by decide +kernel))) (hts (.instantiable RX9 5) (List.mem_of_getElem? (i := 25) (by decide +kernel))) (hts (.initialized RX9) (List.mem_of_getElem? (i := 26) (by decide +kernel))) hP hK hD hT hS hA (by decide) rfl htop rfl (fun j hj => by rw [fv_z]; rcases (show j = 0 ∨ j = 1 ∨ j = 2 ∨ j = 3 ∨ j = 4 by omega) with rfl | rfl | rfl | rfl | rfl <;> rfl) (fun _ => fv_e) (Nat.le_of_ble_eq_true rfl) (Nat.le_of_ble_eq_true rfl) (fun ad => [(1, .int 3), (0, .ref (ad b))]) hl (fun ad' hh => by simp only [hh _ k0.1]) (fun ad => [.int 3, .ref (ad (b + 4))]) (fun ad' hh => by simp only [hh _ k4.1]) rfl dX0_init_175 (fun ad H hh hP hD hT hS hl => ?_)
  have k0 := k0.up1 (k := 9) (n := 0) htop rfl
  have k1 := k1.up1 (k := 9) (n := 0) htop rfl
  have k2 := k2.up1 (k := 9) (n := 0) htop rfl
  have k3 := k3.up1 (k := 9) (n := 0) htop rfl
  have k4 := k4.up1 (k := 9) (n := 0) htop rfl
  have k5 := k5.up1 (k := 9) (n := 0) htop rfl
  have k6 := k6.up1 (k := 9) (n := 0) htop rfl
  have k7 := k7.up1 (k := 9) (n := 0) htop rfl
  have k8 := k8.up1 (k := 9) (n := 0) htop rfl
  have htop := htop.nw1 (k := 9) (n := 0) (o := (b + 32)) rfl
  have k29 := ok.nwt htop
  have n0 := (gR_z (o := (b + 32)) (by omega)).trans n0
  have n1 := (gR_z (o := (b + 32)) (by omega)).trans n1
  have n2 := (gR_z (o := (b + 32)) (by omega)).trans n2
  have n3 := (gR_z (o := (b + 32)) (by omega)).trans n3
  have n4 := (gR_z (o := (b + 32)) (by omega)).trans n4
  have n5 := (gR_z (o := (b + 32)) (by omega)).trans n5
  have n6 := (gR_z (o := (b + 32)) (by omega)).trans n6
  have n7 := (gR_z (o := (b + 32)) (by omega)).trans n7
  have hold := fun (y : Nat) hy => (hh y (hsub y hy)).trans (hold y hy)
  have hsub := fun (y : Nat) hy => gN_sub (o := b + 32) (k := 9) (n := 0) (hsub y hy)
  refine lv_dup hx hb dX0_init_178 rfl ?_
  refine k_n (va_runIN (As := []) (rest := [.ref (ad (b + 32)), .int 3, .ref (ad (b + 4))]) ⟨hx, hb, hml, hown, hts⟩ (c_X9_init (l := l) _ (b + 32) k29 htop) ⟨va_cnB 0 hts gX0_init_X9_init_n57 rfl rfl rfl (hG.2.1 ("StoneWalk$Island", 57, ⟨"StoneWalk$Trial", "<init>", "()V"⟩, "StoneWalk") (List.mem_of_getElem? (i := 6) rfl)) (hts (.initialized RX9) (List.mem_of_getElem? (i := 26) (by decide +kernel))) hdI_X9_init ⟨Nat.le_of_ble_eq_true rfl, Nat.le_of_ble_eq_true rfl⟩, rfl, (hts (.instanceMethod yX9_init) (List.mem_of_getElem? (i := 41) (by decide +kernel)))⟩ (pSA hP hK hD hT hG hS hA) rfl rfl hl.1 rfl (lv_room (Nat.le_of_ble_eq_true rfl)) dX0_init_179 ⟨Nat.le_of_ble_eq_true rfl, Nat.le_of_ble_eq_true rfl⟩) hS (fun ad => [(1, .int 3), (0, .ref (ad b))]) hl (fun ad' hh => by simp only [hh _ k0.1]) (fun ad => [.ref (ad (b + 32)), .int 3, .ref (ad (b + 4))]) (fun ad' hh => by simp only [hh _ k29.1, hh _ k4.1]) rfl (fun ad H locs hh hP hD hT htop1 hS hl => ?_)
  have hold := fun (y : Nat) hy => (hh y (hsub y hy)).trans (hold y hy)
  have htop := htop1
  refine r_aast (t0 := 8) hx hb hP hK hD hT hS k4 ⟨by decide, by decide, by decide, by decide⟩ rfl k29 (by decide) rfl (fun _ => rfl) rfl (i := 3) (by decide) dX0_init_182 (fun H locs hP hD hT hS => ?_)
  have n0 := (gR_p (a := (b + 4)) (j := ix 3) (v := some (b + 32)) (by omega)).trans n0
  have n1 := (gR_p (a := (b + 4)) (j := ix 3) (v := some (b + 32)) (by omega)).trans n1
  have n2 := (gR_p (a := (b + 4)) (j := ix 3) (v := some (b + 32)) (by omega)).trans n2
  have n3 := (gR_p (a := (b + 4)) (j := ix 3) (v := some (b + 32)) (by omega)).trans n3
  have n4 := (gR_p (a := (b + 4)) (j := ix 3) (v := some (b + 32)) (by omega)).trans n4
  have n5 := (gR_p (a := (b + 4)) (j := ix 3) (v := some (b + 32)) (by omega)).trans n5
  have n6 := (gR_p (a := (b + 4)) (j := ix 3) (v := some (b + 32)) (by omega)).trans n6
  have n7 := (gR_p (a := (b + 4)) (j := ix 3) (v := some (b + 32)) (by omega)).trans n7
  refine lv_iinc (v := 4) (lv' := [(1, .int 4), (0, .ref (ad b))]) hx hb dX0_init_183 hl (k := 0) rfl (by decide) (by decide) rfl (fun ls hl => ?_)
  refine lv_goto (tgt := 161) hx hb dX0_init_186 rfl ?_
  refine lv_iload_n hx hb dX0_init_161 rfl (lv_at hl 0 rfl) ?_
  refine lv_aload_n hx hb dX0_init_162 rfl (lv_at hl 1 rfl) ?_
  refine r_get (T := TX0) (v := .ref (ad (b + 4))) hx hb hts in0 hown hK hP k0 (by decide) rfl 3 (by decide) (hts (.fieldLink RX0 31 "StoneWalk$Island" "trials" "[LStoneWalk$Trial;") (List.mem_of_getElem? (i := 11) (by decide +kernel))) rfl (t := 2) rfl (congrArg (fun z : Option Nat => va_rf (z.map ad)) n3) dX0_init_163 ?_
  refine r_alen (t0 := 8) (v := 5) hx hb hK hP k4 (by decide) rfl rfl dX0_init_166 ?_
  refine lv_icmp_ge (tgt := 189) hx hb dX0_init_167 rfl (fun c => absurd c (by decide)) (fun _ => ?_)
  refine lv_aload_n hx hb dX0_init_170 rfl (lv_at hl 1 rfl) ?_
  refine r_get (T := TX0) (v := .ref (ad (b + 4))) hx hb hts in0 hown hK hP k0 (by decide) rfl 3 (by decide) (hts (.fieldLink RX0 31 "StoneWalk$Island" "trials" "[LStoneWalk$Trial;") (List.mem_of_getElem? (i := 11) (by decide +kernel))) rfl (t := 2) rfl (congrArg (fun z : Option Nat => va_rf (z.map ad)) n3) dX0_init_171 ?_
  refine lv_iload_n hx hb dX0_init_174 rfl (lv_at hl 0 rfl) ?_
  refine r_new (T := TX9) (ci := 9) (o := b + 33) hx hb hts in9 tyX9 tyX9_ok hown (hts (.classLink RX0 29 RX9) (List.mem_of_getElem? (i := 10) (by decide +kernel))) (hts (.instantiable RX9 5) (List.mem_of_getElem? (i := 25) (by decide +kernel))) (hts (.initialized RX9) (List.mem_of_getElem? (i := 26) (by decide +kernel))) hP hK hD hT hS hA (by decide) rfl htop rfl (fun j hj => by rw [fv_z]; rcases (show j = 0 ∨ j = 1 ∨ j = 2 ∨ j = 3 ∨ j = 4 by omega) with rfl | rfl | rfl | rfl | rfl <;> rfl) (fun _ => fv_e) (Nat.le_of_ble_eq_true rfl) (Nat.le_of_ble_eq_true rfl) (fun ad => [(1, .int 4), (0, .ref (ad b))]) hl (fun ad' hh => by simp only [hh _ k0.1]) (fun ad => [.int 4, .ref (ad (b + 4))]) (fun ad' hh => by simp only [hh _ k4.1]) rfl dX0_init_175 (fun ad H hh hP hD hT hS hl => ?_)
  have k0 := k0.up1 (k := 9) (n := 0) htop rfl
  have k1 := k1.up1 (k := 9) (n := 0) htop rfl
  have k2 := k2.up1 (k := 9) (n := 0) htop rfl
  have k3 := k3.up1 (k := 9) (n := 0) htop rfl
  have k4 := k4.up1 (k := 9) (n := 0) htop rfl
  have k5 := k5.up1 (k := 9) (n := 0) htop rfl
  have k6 := k6.up1 (k := 9) (n := 0) htop rfl
  have k7 := k7.up1 (k := 9) (n := 0) htop rfl
  have k8 := k8.up1 (k := 9) (n := 0) htop rfl
  have htop := htop.nw1 (k := 9) (n := 0) (o := (b + 33)) rfl
  have k30 := ok.nwt htop
  have n0 := (gR_z (o := (b + 33)) (by omega)).trans n0
  have n1 := (gR_z (o := (b + 33)) (by omega)).trans n1
  have n2 := (gR_z (o := (b + 33)) (by omega)).trans n2
  have n3 := (gR_z (o := (b + 33)) (by omega)).trans n3
  have n4 := (gR_z (o := (b + 33)) (by omega)).trans n4
  have n5 := (gR_z (o := (b + 33)) (by omega)).trans n5
  have n6 := (gR_z (o := (b + 33)) (by omega)).trans n6
  have n7 := (gR_z (o := (b + 33)) (by omega)).trans n7
  have hold := fun (y : Nat) hy => (hh y (hsub y hy)).trans (hold y hy)
  have hsub := fun (y : Nat) hy => gN_sub (o := b + 33) (k := 9) (n := 0) (hsub y hy)
  refine lv_dup hx hb dX0_init_178 rfl ?_
  refine k_n (va_runIN (As := []) (rest := [.ref (ad (b + 33)), .int 4, .ref (ad (b + 4))]) ⟨hx, hb, hml, hown, hts⟩ (c_X9_init (l := l) _ (b + 33) k30 htop) ⟨va_cnB 0 hts gX0_init_X9_init_n57 rfl rfl rfl (hG.2.1 ("StoneWalk$Island", 57, ⟨"StoneWalk$Trial", "<init>", "()V"⟩, "StoneWalk") (List.mem_of_getElem? (i := 6) rfl)) (hts (.initialized RX9) (List.mem_of_getElem? (i := 26) (by decide +kernel))) hdI_X9_init ⟨Nat.le_of_ble_eq_true rfl, Nat.le_of_ble_eq_true rfl⟩, rfl, (hts (.instanceMethod yX9_init) (List.mem_of_getElem? (i := 41) (by decide +kernel)))⟩ (pSA hP hK hD hT hG hS hA) rfl rfl hl.1 rfl (lv_room (Nat.le_of_ble_eq_true rfl)) dX0_init_179 ⟨Nat.le_of_ble_eq_true rfl, Nat.le_of_ble_eq_true rfl⟩) hS (fun ad => [(1, .int 4), (0, .ref (ad b))]) hl (fun ad' hh => by simp only [hh _ k0.1]) (fun ad => [.ref (ad (b + 33)), .int 4, .ref (ad (b + 4))]) (fun ad' hh => by simp only [hh _ k30.1, hh _ k4.1]) rfl (fun ad H locs hh hP hD hT htop1 hS hl => ?_)
  have hold := fun (y : Nat) hy => (hh y (hsub y hy)).trans (hold y hy)
  have htop := htop1
  refine r_aast (t0 := 8) hx hb hP hK hD hT hS k4 ⟨by decide, by decide, by decide, by decide⟩ rfl k30 (by decide) rfl (fun _ => rfl) rfl (i := 4) (by decide) dX0_init_182 (fun H locs hP hD hT hS => ?_)
  have n0 := (gR_p (a := (b + 4)) (j := ix 4) (v := some (b + 33)) (by omega)).trans n0
  have n1 := (gR_p (a := (b + 4)) (j := ix 4) (v := some (b + 33)) (by omega)).trans n1
  have n2 := (gR_p (a := (b + 4)) (j := ix 4) (v := some (b + 33)) (by omega)).trans n2
  have n3 := (gR_p (a := (b + 4)) (j := ix 4) (v := some (b + 33)) (by omega)).trans n3
  have n4 := (gR_p (a := (b + 4)) (j := ix 4) (v := some (b + 33)) (by omega)).trans n4
  have n5 := (gR_p (a := (b + 4)) (j := ix 4) (v := some (b + 33)) (by omega)).trans n5
  have n6 := (gR_p (a := (b + 4)) (j := ix 4) (v := some (b + 33)) (by omega)).trans n6
  have n7 := (gR_p (a := (b + 4)) (j := ix 4) (v := some (b + 33)) (by omega)).trans n7
  refine lv_iinc (v := 5) (lv' := [(1, .int 5), (0, .ref (ad b))]) hx hb dX0_init_183 hl (k := 0) rfl (by decide) (by decide) rfl (fun ls hl => ?_)
  refine lv_goto (tgt := 161) hx hb dX0_init_186 rfl ?_
  refine lv_iload_n hx hb dX0_init_161 rfl (lv_at hl 0 rfl) ?_
  refine lv_aload_n hx hb dX0_init_162 rfl (lv_at hl 1 rfl) ?_
  refine r_get (T := TX0) (v := .ref (ad (b + 4))) hx hb hts in0 hown hK hP k0 (by decide) rfl 3 (by decide) (hts (.fieldLink RX0 31 "StoneWalk$Island" "trials" "[LStoneWalk$Trial;") (List.mem_of_getElem? (i := 11) (by decide +kernel))) rfl (t := 2) rfl (congrArg (fun z : Option Nat => va_rf (z.map ad)) n3) dX0_init_163 ?_
  refine r_alen (t0 := 8) (v := 5) hx hb hK hP k4 (by decide) rfl rfl dX0_init_166 ?_
  refine lv_icmp_ge (tgt := 189) hx hb dX0_init_167 rfl (fun _ => ?_) (fun c => absurd (by decide) c)
  refine lv_iconst (v := 0) hx hb dX0_init_189 rfl ?_
  refine lv_istore_n (lv' := [(1, .int 0), (0, .ref (ad b))]) hx hb dX0_init_190 rfl hl (by decide) rfl (fun ls hl => ?_)
  refine lv_iload_n hx hb dX0_init_191 rfl (lv_at hl 0 rfl) ?_
  refine lv_aload_n hx hb dX0_init_192 rfl (lv_at hl 1 rfl) ?_
  refine r_get (T := TX0) (v := .ref (ad (b + 5))) hx hb hts in0 hown hK hP k0 (by decide) rfl 4 (by decide) (hts (.fieldLink RX0 37 "StoneWalk$Island" "stories" "[LStoneWalk$Story;") (List.mem_of_getElem? (i := 13) (by decide +kernel))) rfl (t := 2) rfl (congrArg (fun z : Option Nat => va_rf (z.map ad)) n4) dX0_init_193 ?_
  refine r_alen (t0 := 6) (v := 5) hx hb hK hP k5 (by decide) rfl rfl dX0_init_196 ?_
  refine lv_icmp_ge (tgt := 219) hx hb dX0_init_197 rfl (fun c => absurd c (by decide)) (fun _ => ?_)
  refine lv_aload_n hx hb dX0_init_200 rfl (lv_at hl 1 rfl) ?_
  refine r_get (T := TX0) (v := .ref (ad (b + 5))) hx hb hts in0 hown hK hP k0 (by decide) rfl 4 (by decide) (hts (.fieldLink RX0 37 "StoneWalk$Island" "stories" "[LStoneWalk$Story;") (List.mem_of_getElem? (i := 13) (by decide +kernel))) rfl (t := 2) rfl (congrArg (fun z : Option Nat => va_rf (z.map ad)) n4) dX0_init_201 ?_
  refine lv_iload_n hx hb dX0_init_204 rfl (lv_at hl 0 rfl) ?_
  refine r_new (T := TX6) (ci := 6) (o := b + 34) hx hb hts in6 tyX6 tyX6_ok hown (hts (.classLink RX0 35 RX6) (List.mem_of_getElem? (i := 12) (by decide +kernel))) (hts (.instantiable RX6 5) (List.mem_of_getElem? (i := 27) (by decide +kernel))) (hts (.initialized RX6) (List.mem_of_getElem? (i := 28) (by decide +kernel))) hP hK hD hT hS hA (by decide) rfl htop rfl (fun j hj => by rw [fv_z]; rcases (show j = 0 ∨ j = 1 ∨ j = 2 ∨ j = 3 ∨ j = 4 by omega) with rfl | rfl | rfl | rfl | rfl <;> rfl) (fun _ => fv_e) (Nat.le_of_ble_eq_true rfl) (Nat.le_of_ble_eq_true rfl) (fun ad => [(1, .int 0), (0, .ref (ad b))]) hl (fun ad' hh => by simp only [hh _ k0.1]) (fun ad => [.int 0, .ref (ad (b + 5))]) (fun ad' hh => by simp only [hh _ k5.1]) rfl dX0_init_205 (fun ad H hh hP hD hT hS hl => ?_)
  have k0 := k0.up1 (k := 6) (n := 0) htop rfl
  have k1 := k1.up1 (k := 6) (n := 0) htop rfl
  have k2 := k2.up1 (k := 6) (n := 0) htop rfl
  have k3 := k3.up1 (k := 6) (n := 0) htop rfl
  have k4 := k4.up1 (k := 6) (n := 0) htop rfl
  have k5 := k5.up1 (k := 6) (n := 0) htop rfl
  have k6 := k6.up1 (k := 6) (n := 0) htop rfl
  have k7 := k7.up1 (k := 6) (n := 0) htop rfl
  have k8 := k8.up1 (k := 6) (n := 0) htop rfl
  have htop := htop.nw1 (k := 6) (n := 0) (o := (b + 34)) rfl
  have k31 := ok.nwt htop
  have n0 := (gR_z (o := (b + 34)) (by omega)).trans n0
  have n1 := (gR_z (o := (b + 34)) (by omega)).trans n1
  have n2 := (gR_z (o := (b + 34)) (by omega)).trans n2
  have n3 := (gR_z (o := (b + 34)) (by omega)).trans n3
  have n4 := (gR_z (o := (b + 34)) (by omega)).trans n4
  have n5 := (gR_z (o := (b + 34)) (by omega)).trans n5
  have n6 := (gR_z (o := (b + 34)) (by omega)).trans n6
  have n7 := (gR_z (o := (b + 34)) (by omega)).trans n7
  have hold := fun (y : Nat) hy => (hh y (hsub y hy)).trans (hold y hy)
  have hsub := fun (y : Nat) hy => gN_sub (o := b + 34) (k := 6) (n := 0) (hsub y hy)
  refine lv_dup hx hb dX0_init_208 rfl ?_
  refine k_n (va_runIN (As := []) (rest := [.ref (ad (b + 34)), .int 0, .ref (ad (b + 5))]) ⟨hx, hb, hml, hown, hts⟩ (c_X6_init (l := l) _ (b + 34) k31 htop) ⟨va_cnB 0 hts gX0_init_X6_init_n58 rfl rfl rfl (hG.2.1 ("StoneWalk$Island", 58, ⟨"StoneWalk$Story", "<init>", "()V"⟩, "StoneWalk") (List.mem_of_getElem? (i := 7) rfl)) (hts (.initialized RX6) (List.mem_of_getElem? (i := 28) (by decide +kernel))) hdI_X6_init ⟨Nat.le_of_ble_eq_true rfl, Nat.le_of_ble_eq_true rfl⟩, rfl, (hts (.instanceMethod yX6_init) (List.mem_of_getElem? (i := 44) (by decide +kernel)))⟩ (pSA hP hK hD hT hG hS hA) rfl rfl hl.1 rfl (lv_room (Nat.le_of_ble_eq_true rfl)) dX0_init_209 ⟨Nat.le_of_ble_eq_true rfl, Nat.le_of_ble_eq_true rfl⟩) hS (fun ad => [(1, .int 0), (0, .ref (ad b))]) hl (fun ad' hh => by simp only [hh _ k0.1]) (fun ad => [.ref (ad (b + 34)), .int 0, .ref (ad (b + 5))]) (fun ad' hh => by simp only [hh _ k31.1, hh _ k5.1]) rfl (fun ad H locs hh hP hD hT htop1 hS hl => ?_)
  have k0 := (ok_X6_init (b := b + 34) htop k0).1
  have k1 := (ok_X6_init (b := b + 34) htop k1).1
  have k2 := (ok_X6_init (b := b + 34) htop k2).1
  have k3 := (ok_X6_init (b := b + 34) htop k3).1
  have k4 := (ok_X6_init (b := b + 34) htop k4).1
  have k5 := (ok_X6_init (b := b + 34) htop k5).1
  have k6 := (ok_X6_init (b := b + 34) htop k6).1
  have k7 := (ok_X6_init (b := b + 34) htop k7).1
  have k8 := (ok_X6_init (b := b + 34) htop k8).1
  have k31 := (ok_X6_init (b := b + 34) htop k31).1
  have n0 := (gR_X6_init (b := b + 34) (by omega)).trans n0
  have n1 := (gR_X6_init (b := b + 34) (by omega)).trans n1
  have n2 := (gR_X6_init (b := b + 34) (by omega)).trans n2
  have n3 := (gR_X6_init (b := b + 34) (by omega)).trans n3
  have n4 := (gR_X6_init (b := b + 34) (by omega)).trans n4
  have n5 := (gR_X6_init (b := b + 34) (by omega)).trans n5
  have n6 := (gR_X6_init (b := b + 34) (by omega)).trans n6
  have n7 := (gR_X6_init (b := b + 34) (by omega)).trans n7
  have hold := fun (y : Nat) hy => (hh y (hsub y hy)).trans (hold y hy)
  have hsub := fun (y : Nat) hy => sub_X6_init (b := b + 34) (hsub y hy)
  have htop := htop1
  refine r_aast (t0 := 6) hx hb hP hK hD hT hS k5 ⟨by decide, by decide, by decide, by decide⟩ rfl k31 (by decide) rfl (fun _ => rfl) rfl (i := 0) (by decide) dX0_init_212 (fun H locs hP hD hT hS => ?_)
  have n0 := (gR_p (a := (b + 5)) (j := ix 0) (v := some (b + 34)) (by omega)).trans n0
  have n1 := (gR_p (a := (b + 5)) (j := ix 0) (v := some (b + 34)) (by omega)).trans n1
  have n2 := (gR_p (a := (b + 5)) (j := ix 0) (v := some (b + 34)) (by omega)).trans n2
  have n3 := (gR_p (a := (b + 5)) (j := ix 0) (v := some (b + 34)) (by omega)).trans n3
  have n4 := (gR_p (a := (b + 5)) (j := ix 0) (v := some (b + 34)) (by omega)).trans n4
  have n5 := (gR_p (a := (b + 5)) (j := ix 0) (v := some (b + 34)) (by omega)).trans n5
  have n6 := (gR_p (a := (b + 5)) (j := ix 0) (v := some (b + 34)) (by omega)).trans n6
  have n7 := (gR_p (a := (b + 5)) (j := ix 0) (v := some (b + 34)) (by omega)).trans n7
  refine lv_iinc (v := 1) (lv' := [(1, .int 1), (0, .ref (ad b))]) hx hb dX0_init_213 hl (k := 0) rfl (by decide) (by decide) rfl (fun ls hl => ?_)
  refine lv_goto (tgt := 191) hx hb dX0_init_216 rfl ?_
  refine lv_iload_n hx hb dX0_init_191 rfl (lv_at hl 0 rfl) ?_
  refine lv_aload_n hx hb dX0_init_192 rfl (lv_at hl 1 rfl) ?_
  refine r_get (T := TX0) (v := .ref (ad (b + 5))) hx hb hts in0 hown hK hP k0 (by decide) rfl 4 (by decide) (hts (.fieldLink RX0 37 "StoneWalk$Island" "stories" "[LStoneWalk$Story;") (List.mem_of_getElem? (i := 13) (by decide +kernel))) rfl (t := 2) rfl (congrArg (fun z : Option Nat => va_rf (z.map ad)) n4) dX0_init_193 ?_
  refine r_alen (t0 := 6) (v := 5) hx hb hK hP k5 (by decide) rfl rfl dX0_init_196 ?_
  refine lv_icmp_ge (tgt := 219) hx hb dX0_init_197 rfl (fun c => absurd c (by decide)) (fun _ => ?_)
  refine lv_aload_n hx hb dX0_init_200 rfl (lv_at hl 1 rfl) ?_
  refine r_get (T := TX0) (v := .ref (ad (b + 5))) hx hb hts in0 hown hK hP k0 (by decide) rfl 4 (by decide) (hts (.fieldLink RX0 37 "StoneWalk$Island" "stories" "[LStoneWalk$Story;") (List.mem_of_getElem? (i := 13) (by decide +kernel))) rfl (t := 2) rfl (congrArg (fun z : Option Nat => va_rf (z.map ad)) n4) dX0_init_201 ?_
  refine lv_iload_n hx hb dX0_init_204 rfl (lv_at hl 0 rfl) ?_
  refine r_new (T := TX6) (ci := 6) (o := b + 36) hx hb hts in6 tyX6 tyX6_ok hown (hts (.classLink RX0 35 RX6) (List.mem_of_getElem? (i := 12) (by decide +kernel))) (hts (.instantiable RX6 5) (List.mem_of_getElem? (i := 27) (by decide +kernel))) (hts (.initialized RX6) (List.mem_of_getElem? (i := 28) (by decide +kernel))) hP hK hD hT hS hA (by decide) rfl htop rfl (fun j hj => by rw [fv_z]; rcases (show j = 0 ∨ j = 1 ∨ j = 2 ∨ j = 3 ∨ j = 4 by omega) with rfl | rfl | rfl | rfl | rfl <;> rfl) (fun _ => fv_e) (Nat.le_of_ble_eq_true rfl) (Nat.le_of_ble_eq_true rfl) (fun ad => [(1, .int 1), (0, .ref (ad b))]) hl (fun ad' hh => by simp only [hh _ k0.1]) (fun ad => [.int 1, .ref (ad (b + 5))]) (fun ad' hh => by simp only [hh _ k5.1]) rfl dX0_init_205 (fun ad H hh hP hD hT hS hl => ?_)
  have k0 := k0.up1 (k := 6) (n := 0) htop rfl
  have k1 := k1.up1 (k := 6) (n := 0) htop rfl
  have k2 := k2.up1 (k := 6) (n := 0) htop rfl
  have k3 := k3.up1 (k := 6) (n := 0) htop rfl
  have k4 := k4.up1 (k := 6) (n := 0) htop rfl
  have k5 := k5.up1 (k := 6) (n := 0) htop rfl
  have k6 := k6.up1 (k := 6) (n := 0) htop rfl
  have k7 := k7.up1 (k := 6) (n := 0) htop rfl
  have k8 := k8.up1 (k := 6) (n := 0) htop rfl
  have htop := htop.nw1 (k := 6) (n := 0) (o := (b + 36)) rfl
  have k32 := ok.nwt htop
  have n0 := (gR_z (o := (b + 36)) (by omega)).trans n0
  have n1 := (gR_z (o := (b + 36)) (by omega)).trans n1
  have n2 := (gR_z (o := (b + 36)) (by omega)).trans n2
  have n3 := (gR_z (o := (b + 36)) (by omega)).trans n3
  have n4 := (gR_z (o := (b + 36)) (by omega)).trans n4
  have n5 := (gR_z (o := (b + 36)) (by omega)).trans n5
  have n6 := (gR_z (o := (b + 36)) (by omega)).trans n6
  have n7 := (gR_z (o := (b + 36)) (by omega)).trans n7
  have hold := fun (y : Nat) hy => (hh y (hsub y hy)).trans (hold y hy)
  have hsub := fun (y : Nat) hy => gN_sub (o := b + 36) (k := 6) (n := 0) (hsub y hy)
  refine lv_dup hx hb dX0_init_208 rfl ?_
  refine k_n (va_runIN (As := []) (rest := [.ref (ad (b + 36)), .int 1, .ref (ad (b + 5))]) ⟨hx, hb, hml, hown, hts⟩ (c_X6_init (l := l) _ (b + 36) k32 htop) ⟨va_cnB 0 hts gX0_init_X6_init_n58 rfl rfl rfl (hG.2.1 ("StoneWalk$Island", 58, ⟨"StoneWalk$Story", "<init>", "()V"⟩, "StoneWalk") (List.mem_of_getElem? (i := 7) rfl)) (hts (.initialized RX6) (List.mem_of_getElem? (i := 28) (by decide +kernel))) hdI_X6_init ⟨Nat.le_of_ble_eq_true rfl, Nat.le_of_ble_eq_true rfl⟩, rfl, (hts (.instanceMethod yX6_init) (List.mem_of_getElem? (i := 44) (by decide +kernel)))⟩ (pSA hP hK hD hT hG hS hA) rfl rfl hl.1 rfl (lv_room (Nat.le_of_ble_eq_true rfl)) dX0_init_209 ⟨Nat.le_of_ble_eq_true rfl, Nat.le_of_ble_eq_true rfl⟩) hS (fun ad => [(1, .int 1), (0, .ref (ad b))]) hl (fun ad' hh => by simp only [hh _ k0.1]) (fun ad => [.ref (ad (b + 36)), .int 1, .ref (ad (b + 5))]) (fun ad' hh => by simp only [hh _ k32.1, hh _ k5.1]) rfl (fun ad H locs hh hP hD hT htop1 hS hl => ?_)
  have k0 := (ok_X6_init (b := b + 36) htop k0).1
  have k1 := (ok_X6_init (b := b + 36) htop k1).1
  have k2 := (ok_X6_init (b := b + 36) htop k2).1
  have k3 := (ok_X6_init (b := b + 36) htop k3).1
  have k4 := (ok_X6_init (b := b + 36) htop k4).1
  have k5 := (ok_X6_init (b := b + 36) htop k5).1
  have k6 := (ok_X6_init (b := b + 36) htop k6).1
  have k7 := (ok_X6_init (b := b + 36) htop k7).1
  have k8 := (ok_X6_init (b := b + 36) htop k8).1
  have k32 := (ok_X6_init (b := b + 36) htop k32).1
  have n0 := (gR_X6_init (b := b + 36) (by omega)).trans n0
  have n1 := (gR_X6_init (b := b + 36) (by omega)).trans n1
  have n2 := (gR_X6_init (b := b + 36) (by omega)).trans n2
  have n3 := (gR_X6_init (b := b + 36) (by omega)).trans n3
  have n4 := (gR_X6_init (b := b + 36) (by omega)).trans n4
  have n5 := (gR_X6_init (b := b + 36) (by omega)).trans n5
  have n6 := (gR_X6_init (b := b + 36) (by omega)).trans n6
  have n7 := (gR_X6_init (b := b + 36) (by omega)).trans n7
  have hold := fun (y : Nat) hy => (hh y (hsub y hy)).trans (hold y hy)
  have hsub := fun (y : Nat) hy => sub_X6_init (b := b + 36) (hsub y hy)
  have htop := htop1
  refine r_aast (t0 := 6) hx hb hP hK hD hT hS k5 ⟨by decide, by decide, by decide, by decide⟩ rfl k32 (by decide) rfl (fun _ => rfl) rfl (i := 1) (by decide) dX0_init_212 (fun H locs hP hD hT hS => ?_)
  have n0 := (gR_p (a := (b + 5)) (j := ix 1) (v := some (b + 36)) (by omega)).trans n0
  have n1 := (gR_p (a := (b + 5)) (j := ix 1) (v := some (b + 36)) (by omega)).trans n1
  have n2 := (gR_p (a := (b + 5)) (j := ix 1) (v := some (b + 36)) (by omega)).trans n2
  have n3 := (gR_p (a := (b + 5)) (j := ix 1) (v := some (b + 36)) (by omega)).trans n3
  have n4 := (gR_p (a := (b + 5)) (j := ix 1) (v := some (b + 36)) (by omega)).trans n4
  have n5 := (gR_p (a := (b + 5)) (j := ix 1) (v := some (b + 36)) (by omega)).trans n5
  have n6 := (gR_p (a := (b + 5)) (j := ix 1) (v := some (b + 36)) (by omega)).trans n6
  have n7 := (gR_p (a := (b + 5)) (j := ix 1) (v := some (b + 36)) (by omega)).trans n7
  refine lv_iinc (v := 2) (lv' := [(1, .int 2), (0, .ref (ad b))]) hx hb dX0_init_213 hl (k := 0) rfl (by decide) (by decide) rfl (fun ls hl => ?_)
  refine lv_goto (tgt := 191) hx hb dX0_init_216 rfl ?_
  refine lv_iload_n hx hb dX0_init_191 rfl (lv_at hl 0 rfl) ?_
  refine lv_aload_n hx hb dX0_init_192 rfl (lv_at hl 1 rfl) ?_
  refine r_get (T := TX0) (v := .ref (ad (b + 5))) hx hb hts in0 hown hK hP k0 (by decide) rfl 4 (by decide) (hts (.fieldLink RX0 37 "StoneWalk$Island" "stories" "[LStoneWalk$Story;") (List.mem_of_getElem? (i := 13) (by decide +kernel))) rfl (t := 2) rfl (congrArg (fun z : Option Nat => va_rf (z.map ad)) n4) dX0_init_193 ?_
  refine r_alen (t0 := 6) (v := 5) hx hb hK hP k5 (by decide) rfl rfl dX0_init_196 ?_
  refine lv_icmp_ge (tgt := 219) hx hb dX0_init_197 rfl (fun c => absurd c (by decide)) (fun _ => ?_)
  refine lv_aload_n hx hb dX0_init_200 rfl (lv_at hl 1 rfl) ?_
  refine r_get (T := TX0) (v := .ref (ad (b + 5))) hx hb hts in0 hown hK hP k0 (by decide) rfl 4 (by decide) (hts (.fieldLink RX0 37 "StoneWalk$Island" "stories" "[LStoneWalk$Story;") (List.mem_of_getElem? (i := 13) (by decide +kernel))) rfl (t := 2) rfl (congrArg (fun z : Option Nat => va_rf (z.map ad)) n4) dX0_init_201 ?_
  refine lv_iload_n hx hb dX0_init_204 rfl (lv_at hl 0 rfl) ?_
  refine r_new (T := TX6) (ci := 6) (o := b + 38) hx hb hts in6 tyX6 tyX6_ok hown (hts (.classLink RX0 35 RX6) (List.mem_of_getElem? (i := 12) (by decide +kernel))) (hts (.instantiable RX6 5) (List.mem_of_getElem? (i := 27) (by decide +kernel))) (hts (.initialized RX6) (List.mem_of_getElem? (i := 28) (by decide +kernel))) hP hK hD hT hS hA (by decide) rfl htop rfl (fun j hj => by rw [fv_z]; rcases (show j = 0 ∨ j = 1 ∨ j = 2 ∨ j = 3 ∨ j = 4 by omega) with rfl | rfl | rfl | rfl | rfl <;> rfl) (fun _ => fv_e) (Nat.le_of_ble_eq_true rfl) (Nat.le_of_ble_eq_true rfl) (fun ad => [(1, .int 2), (0, .ref (ad b))]) hl (fun ad' hh => by simp only [hh _ k0.1]) (fun ad => [.int 2, .ref (ad (b + 5))]) (fun ad' hh => by simp only [hh _ k5.1]) rfl dX0_init_205 (fun ad H hh hP hD hT hS hl => ?_)
  have k0 := k0.up1 (k := 6) (n := 0) htop rfl
  have k1 := k1.up1 (k := 6) (n := 0) htop rfl
  have k2 := k2.up1 (k := 6) (n := 0) htop rfl
  have k3 := k3.up1 (k := 6) (n := 0) htop rfl
  have k4 := k4.up1 (k := 6) (n := 0) htop rfl
  have k5 := k5.up1 (k := 6) (n := 0) htop rfl
  have k6 := k6.up1 (k := 6) (n := 0) htop rfl
  have k7 := k7.up1 (k := 6) (n := 0) htop rfl
  have k8 := k8.up1 (k := 6) (n := 0) htop rfl
  have htop := htop.nw1 (k := 6) (n := 0) (o := (b + 38)) rfl
  have k33 := ok.nwt htop
  have n0 := (gR_z (o := (b + 38)) (by omega)).trans n0
  have n1 := (gR_z (o := (b + 38)) (by omega)).trans n1
  have n2 := (gR_z (o := (b + 38)) (by omega)).trans n2
  have n3 := (gR_z (o := (b + 38)) (by omega)).trans n3
  have n4 := (gR_z (o := (b + 38)) (by omega)).trans n4
  have n5 := (gR_z (o := (b + 38)) (by omega)).trans n5
  have n6 := (gR_z (o := (b + 38)) (by omega)).trans n6
  have n7 := (gR_z (o := (b + 38)) (by omega)).trans n7
  have hold := fun (y : Nat) hy => (hh y (hsub y hy)).trans (hold y hy)
  have hsub := fun (y : Nat) hy => gN_sub (o := b + 38) (k := 6) (n := 0) (hsub y hy)
  refine lv_dup hx hb dX0_init_208 rfl ?_
  refine k_n (va_runIN (As := []) (rest := [.ref (ad (b + 38)), .int 2, .ref (ad (b + 5))]) ⟨hx, hb, hml, hown, hts⟩ (c_X6_init (l := l) _ (b + 38) k33 htop) ⟨va_cnB 0 hts gX0_init_X6_init_n58 rfl rfl rfl (hG.2.1 ("StoneWalk$Island", 58, ⟨"StoneWalk$Story", "<init>", "()V"⟩, "StoneWalk") (List.mem_of_getElem? (i := 7) rfl)) (hts (.initialized RX6) (List.mem_of_getElem? (i := 28) (by decide +kernel))) hdI_X6_init ⟨Nat.le_of_ble_eq_true rfl, Nat.le_of_ble_eq_true rfl⟩, rfl, (hts (.instanceMethod yX6_init) (List.mem_of_getElem? (i := 44) (by decide +kernel)))⟩ (pSA hP hK hD hT hG hS hA) rfl rfl hl.1 rfl (lv_room (Nat.le_of_ble_eq_true rfl)) dX0_init_209 ⟨Nat.le_of_ble_eq_true rfl, Nat.le_of_ble_eq_true rfl⟩) hS (fun ad => [(1, .int 2), (0, .ref (ad b))]) hl (fun ad' hh => by simp only [hh _ k0.1]) (fun ad => [.ref (ad (b + 38)), .int 2, .ref (ad (b + 5))]) (fun ad' hh => by simp only [hh _ k33.1, hh _ k5.1]) rfl (fun ad H locs hh hP hD hT htop1 hS hl => ?_)
  have k0 := (ok_X6_init (b := b + 38) htop k0).1
  have k1 := (ok_X6_init (b := b + 38) htop k1).1
  have k2 := (ok_X6_init (b := b + 38) htop k2).1
  have k3 := (ok_X6_init (b := b + 38) htop k3).1
  have k4 := (ok_X6_init (b := b + 38) htop k4).1
  have k5 := (ok_X6_init (b := b + 38) htop k5).1
  have k6 := (ok_X6_init (b := b + 38) htop k6).1
  have k7 := (ok_X6_init (b := b + 38) htop k7).1
  have k8 := (ok_X6_init (b := b + 38) htop k8).1
  have k33 := (ok_X6_init (b := b + 38) htop k33).1
  have n0 := (gR_X6_init (b := b + 38) (by omega)).trans n0
  have n1 := (gR_X6_init (b := b + 38) (by omega)).trans n1
  have n2 := (gR_X6_init (b := b + 38) (by omega)).trans n2
  have n3 := (gR_X6_init (b := b + 38) (by omega)).trans n3
  have n4 := (gR_X6_init (b := b + 38) (by omega)).trans n4
  have n5 := (gR_X6_init (b := b + 38) (by omega)).trans n5
  have n6 := (gR_X6_init (b := b + 38) (by omega)).trans n6
  have n7 := (gR_X6_init (b := b + 38) (by omega)).trans n7
  have hold := fun (y : Nat) hy => (hh y (hsub y hy)).trans (hold y hy)
  have hsub := fun (y : Nat) hy => sub_X6_init (b := b + 38) (hsub y hy)
  have htop := htop1
  refine r_aast (t0 := 6) hx hb hP hK hD hT hS k5 ⟨by decide, by decide, by decide, by decide⟩ rfl k33 (by decide) rfl (fun _ => rfl) rfl (i := 2) (by decide) dX0_init_212 (fun H locs hP hD hT hS => ?_)
  have n0 := (gR_p (a := (b + 5)) (j := ix 2) (v := some (b + 38)) (by omega)).trans n0
  have n1 := (gR_p (a := (b + 5)) (j := ix 2) (v := some (b + 38)) (by omega)).trans n1
  have n2 := (gR_p (a := (b + 5)) (j := ix 2) (v := some (b + 38)) (by omega)).trans n2
  have n3 := (gR_p (a := (b + 5)) (j := ix 2) (v := some (b + 38)) (by omega)).trans n3
  have n4 := (gR_p (a := (b + 5)) (j := ix 2) (v := some (b + 38)) (by omega)).trans n4
  have n5 := (gR_p (a := (b + 5)) (j := ix 2) (v := some (b + 38)) (by omega)).trans n5
  have n6 := (gR_p (a := (b + 5)) (j := ix 2) (v := some (b + 38)) (by omega)).trans n6
  have n7 := (gR_p (a := (b + 5)) (j := ix 2) (v := some (b + 38)) (by omega)).trans n7
  refine lv_iinc (v := 3) (lv' := [(1, .int 3), (0, .ref (ad b))]) hx hb dX0_init_213 hl (k := 0) rfl (by decide) (by decide) rfl (fun ls hl => ?_)
  refine lv_goto (tgt := 191) hx hb dX0_init_216 rfl ?_
  refine lv_iload_n hx hb dX0_init_191 rfl (lv_at hl 0 rfl) ?_
  refine lv_aload_n hx hb dX0_init_192 rfl (lv_at hl 1 rfl) ?_
  refine r_get (T := TX0) (v := .ref (ad (b + 5))) hx hb hts in0 hown hK hP k0 (by decide) rfl 4 (by decide) (hts (.fieldLink RX0 37 "StoneWalk$Island" "stories" "[LStoneWalk$Story;") (List.mem_of_getElem? (i := 13) (by decide +kernel))) rfl (t := 2) rfl (congrArg (fun z : Option Nat => va_rf (z.map ad)) n4) dX0_init_193 ?_
  refine r_alen (t0 := 6) (v := 5) hx hb hK hP k5 (by decide) rfl rfl dX0_init_196 ?_
  refine lv_icmp_ge (tgt := 219) hx hb dX0_init_197 rfl (fun c => absurd c (by decide)) (fun _ => ?_)
  refine lv_aload_n hx hb dX0_init_200 rfl (lv_at hl 1 rfl) ?_
  refine r_get (T := TX0) (v := .ref (ad (b + 5))) hx hb hts in0 hown hK hP k0 (by decide) rfl 4 (by decide) (hts (.fieldLink RX0 37 "StoneWalk$Island" "stories" "[LStoneWalk$Story;") (List.mem_of_getElem? (i := 13) (by decide +kernel))) rfl (t := 2) rfl (congrArg (fun z : Option Nat => va_rf (z.map ad)) n4) dX0_init_201 ?_
  refine lv_iload_n hx hb dX0_init_204 rfl (lv_at hl 0 rfl) ?_
  refine r_new (T := TX6) (ci := 6) (o := b + 40) hx hb hts in6 tyX6 tyX6_ok hown (hts (.classLink RX0 35 RX6) (List.mem_of_getElem? (i := 12) (by decide +kernel))) (hts (.instantiable RX6 5) (List.mem_of_getElem? (i := 27) (by decide +kernel))) (hts (.initialized RX6) (List.mem_of_getElem? (i := 28) (by decide +kernel))) hP hK hD hT hS hA (by decide) rfl htop rfl (fun j hj => by rw [fv_z]; rcases (show j = 0 ∨ j = 1 ∨ j = 2 ∨ j = 3 ∨ j = 4 by omega) with rfl | rfl | rfl | rfl | rfl <;> rfl) (fun _ => fv_e) (Nat.le_of_ble_eq_true rfl) (Nat.le_of_ble_eq_true rfl) (fun ad => [(1, .int 3), (0, .ref (ad b))]) hl (fun ad' hh => by simp only [hh _ k0.1]) (fun ad => [.int 3, .ref (ad (b + 5))]) (fun ad' hh => by simp only [hh _ k5.1]) rfl dX0_init_205 (fun ad H hh hP hD hT hS hl => ?_)
  have k0 := k0.up1 (k := 6) (n := 0) htop rfl
  have k1 := k1.up1 (k := 6) (n := 0) htop rfl
  have k2 := k2.up1 (k := 6) (n := 0) htop rfl
  have k3 := k3.up1 (k := 6) (n := 0) htop rfl
  have k4 := k4.up1 (k := 6) (n := 0) htop rfl
  have k5 := k5.up1 (k := 6) (n := 0) htop rfl
  have k6 := k6.up1 (k := 6) (n := 0) htop rfl
  have k7 := k7.up1 (k := 6) (n := 0) htop rfl
  have k8 := k8.up1 (k := 6) (n := 0) htop rfl
  have htop := htop.nw1 (k := 6) (n := 0) (o := (b + 40)) rfl
  have k34 := ok.nwt htop
  have n0 := (gR_z (o := (b + 40)) (by omega)).trans n0
  have n1 := (gR_z (o := (b + 40)) (by omega)).trans n1
  have n2 := (gR_z (o := (b + 40)) (by omega)).trans n2
  have n3 := (gR_z (o := (b + 40)) (by omega)).trans n3
  have n4 := (gR_z (o := (b + 40)) (by omega)).trans n4
  have n5 := (gR_z (o := (b + 40)) (by omega)).trans n5
  have n6 := (gR_z (o := (b + 40)) (by omega)).trans n6
  have n7 := (gR_z (o := (b + 40)) (by omega)).trans n7
  have hold := fun (y : Nat) hy => (hh y (hsub y hy)).trans (hold y hy)
  have hsub := fun (y : Nat) hy => gN_sub (o := b + 40) (k := 6) (n := 0) (hsub y hy)
  refine lv_dup hx hb dX0_init_208 rfl ?_
  refine k_n (va_runIN (As := []) (rest := [.ref (ad (b + 40)), .int 3, .ref (ad (b + 5))]) ⟨hx, hb, hml, hown, hts⟩ (c_X6_init (l := l) _ (b + 40) k34 htop) ⟨va_cnB 0 hts gX0_init_X6_init_n58 rfl rfl rfl (hG.2.1 ("StoneWalk$Island", 58, ⟨"StoneWalk$Story", "<init>", "()V"⟩, "StoneWalk") (List.mem_of_getElem? (i := 7) rfl)) (hts (.initialized RX6) (List.mem_of_getElem? (i := 28) (by decide +kernel))) hdI_X6_init ⟨Nat.le_of_ble_eq_true rfl, Nat.le_of_ble_eq_true rfl⟩, rfl, (hts (.instanceMethod yX6_init) (List.mem_of_getElem? (i := 44) (by decide +kernel)))⟩ (pSA hP hK hD hT hG hS hA) rfl rfl hl.1 rfl (lv_room (Nat.le_of_ble_eq_true rfl)) dX0_init_209 ⟨Nat.le_of_ble_eq_true rfl, Nat.le_of_ble_eq_true rfl⟩) hS (fun ad => [(1, .int 3), (0, .ref (ad b))]) hl (fun ad' hh => by simp only [hh _ k0.1]) (fun ad => [.ref (ad (b + 40)), .int 3, .ref (ad (b + 5))]) (fun ad' hh => by simp only [hh _ k34.1, hh _ k5.1]) rfl (fun ad H locs hh hP hD hT htop1 hS hl => ?_)
  have k0 := (ok_X6_init (b := b + 40) htop k0).1
  have k1 := (ok_X6_init (b := b + 40) htop k1).1
  have k2 := (ok_X6_init (b := b + 40) htop k2).1
  have k3 := (ok_X6_init (b := b + 40) htop k3).1
  have k4 := (ok_X6_init (b := b + 40) htop k4).1
  have k5 := (ok_X6_init (b := b + 40) htop k5).1
  have k6 := (ok_X6_init (b := b + 40) htop k6).1
  have k7 := (ok_X6_init (b := b + 40) htop k7).1
  have k8 := (ok_X6_init (b := b + 40) htop k8).1
  have k34 := (ok_X6_init (b := b + 40) htop k34).1
  have n0 := (gR_X6_init (b := b + 40) (by omega)).trans n0
  have n1 := (gR_X6_init (b := b + 40) (by omega)).trans n1
  have n2 := (gR_X6_init (b := b + 40) (by omega)).trans n2
  have n3 := (gR_X6_init (b := b + 40) (by omega)).trans n3
  have n4 := (gR_X6_init (b := b + 40) (by omega)).trans n4
  have n5 := (gR_X6_init (b := b + 40) (by omega)).trans n5
  have n6 := (gR_X6_init (b := b + 40) (by omega)).trans n6
  have n7 := (gR_X6_init (b := b + 40) (by omega)).trans n7
  have hold := fun (y : Nat) hy => (hh y (hsub y hy)).trans (hold y hy)
  have hsub := fun (y : Nat) hy => sub_X6_init (b := b + 40) (hsub y hy)
  have htop := htop1
  refine r_aast (t0 := 6) hx hb hP hK hD hT hS k5 ⟨by decide, by decide, by decide, by decide⟩ rfl k34 (by decide) rfl (fun _ => rfl) rfl (i := 3) (by decide) dX0_init_212 (fun H locs hP hD hT hS => ?_)
  have n0 := (gR_p (a := (b + 5)) (j := ix 3) (v := some (b + 40)) (by omega)).trans n0
  have n1 := (gR_p (a := (b + 5)) (j := ix 3) (v := some (b + 40)) (by omega)).trans n1
  have n2 := (gR_p (a := (b + 5)) (j := ix 3) (v := some (b + 40)) (by omega)).trans n2
  have n3 := (gR_p (a := (b + 5)) (j := ix 3) (v := some (b + 40)) (by omega)).trans n3
  have n4 := (gR_p (a := (b + 5)) (j := ix 3) (v := some (b + 40)) (by omega)).trans n4
  have n5 := (gR_p (a := (b + 5)) (j := ix 3) (v := some (b + 40)) (by omega)).trans n5
  have n6 := (gR_p (a := (b + 5)) (j := ix 3) (v := some (b + 40)) (by omega)).trans n6
  have n7 := (gR_p (a := (b + 5)) (j := ix 3) (v := some (b + 40)) (by omega)).trans n7
  refine lv_iinc (v := 4) (lv' := [(1, .int 4), (0, .ref (ad b))]) hx hb dX0_init_213 hl (k := 0) rfl (by decide) (by decide) rfl (fun ls hl => ?_)
  refine lv_goto (tgt := 191) hx hb dX0_init_216 rfl ?_
  refine lv_iload_n hx hb dX0_init_191 rfl (lv_at hl 0 rfl) ?_
  refine lv_aload_n hx hb dX0_init_192 rfl (lv_at hl 1 rfl) ?_
  refine r_get (T := TX0) (v := .ref (ad (b + 5))) hx hb hts in0 hown hK hP k0 (by decide) rfl 4 (by decide) (hts (.fieldLink RX0 37 "StoneWalk$Island" "stories" "[LStoneWalk$Story;") (List.mem_of_getElem? (i := 13) (by decide +kernel))) rfl (t := 2) rfl (congrArg (fun z : Option Nat => va_rf (z.map ad)) n4) dX0_init_193 ?_
  refine r_alen (t0 := 6) (v := 5) hx hb hK hP k5 (by decide) rfl rfl dX0_init_196 ?_
  refine lv_icmp_ge (tgt := 219) hx hb dX0_init_197 rfl (fun c => absurd c (by decide)) (fun _ => ?_)
  refine lv_aload_n hx hb dX0_init_200 rfl (lv_at hl 1 rfl) ?_
  refine r_get (T := TX0) (v := .ref (ad (b + 5))) hx hb hts in0 hown hK hP k0 (by decide) rfl 4 (by decide) (hts (.fieldLink RX0 37 "StoneWalk$Island" "stories" "[LStoneWalk$Story;") (List.mem_of_getElem? (i := 13) (by decide +kernel))) rfl (t := 2) rfl (congrArg (fun z : Option Nat => va_rf (z.map ad)) n4) dX0_init_201 ?_
  refine lv_iload_n hx hb dX0_init_204 rfl (lv_at hl 0 rfl) ?_
  refine r_new (T := TX6) (ci := 6) (o := b + 42) hx hb hts in6 tyX6 tyX6_ok hown (hts (.classLink RX0 35 RX6) (List.mem_of_getElem? (i := 12) (by decide +kernel))) (hts (.instantiable RX6 5) (List.mem_of_getElem? (i := 27) (by decide +kernel))) (hts (.initialized RX6) (List.mem_of_getElem? (i := 28) (by decide +kernel))) hP hK hD hT hS hA (by decide) rfl htop rfl (fun j hj => by rw [fv_z]; rcases (show j = 0 ∨ j = 1 ∨ j = 2 ∨ j = 3 ∨ j = 4 by omega) with rfl | rfl | rfl | rfl | rfl <;> rfl) (fun _ => fv_e) (Nat.le_of_ble_eq_true rfl) (Nat.le_of_ble_eq_true rfl) (fun ad => [(1, .int 4), (0, .ref (ad b))]) hl (fun ad' hh => by simp only [hh _ k0.1]) (fun ad => [.int 4, .ref (ad (b + 5))]) (fun ad' hh => by simp only [hh _ k5.1]) rfl dX0_init_205 (fun ad H hh hP hD hT hS hl => ?_)
  have k0 := k0.up1 (k := 6) (n := 0) htop rfl
  have k1 := k1.up1 (k := 6) (n := 0) htop rfl
  have k2 := k2.up1 (k := 6) (n := 0) htop rfl
  have k3 := k3.up1 (k := 6) (n := 0) htop rfl
  have k4 := k4.up1 (k := 6) (n := 0) htop rfl
  have k5 := k5.up1 (k := 6) (n := 0) htop rfl
  have k6 := k6.up1 (k := 6) (n := 0) htop rfl
  have k7 := k7.up1 (k := 6) (n := 0) htop rfl
  have k8 := k8.up1 (k := 6) (n := 0) htop rfl
  have htop := htop.nw1 (k := 6) (n := 0) (o := (b + 42)) rfl
  have k35 := ok.nwt htop
  have n0 := (gR_z (o := (b + 42)) (by omega)).trans n0
  have n1 := (gR_z (o := (b + 42)) (by omega)).trans n1
  have n2 := (gR_z (o := (b + 42)) (by omega)).trans n2
  have n3 := (gR_z (o := (b + 42)) (by omega)).trans n3
  have n4 := (gR_z (o := (b + 42)) (by omega)).trans n4
  have n5 := (gR_z (o := (b + 42)) (by omega)).trans n5
  have n6 := (gR_z (o := (b + 42)) (by omega)).trans n6
  have n7 := (gR_z (o := (b + 42)) (by omega)).trans n7
  have hold := fun (y : Nat) hy => (hh y (hsub y hy)).trans (hold y hy)
  have hsub := fun (y : Nat) hy => gN_sub (o := b + 42) (k := 6) (n := 0) (hsub y hy)
  refine lv_dup hx hb dX0_init_208 rfl ?_
  refine k_n (va_runIN (As := []) (rest := [.ref (ad (b + 42)), .int 4, .ref (ad (b + 5))]) ⟨hx, hb, hml, hown, hts⟩ (c_X6_init (l := l) _ (b + 42) k35 htop) ⟨va_cnB 0 hts gX0_init_X6_init_n58 rfl rfl rfl (hG.2.1 ("StoneWalk$Island", 58, ⟨"StoneWalk$Story", "<init>", "()V"⟩, "StoneWalk") (List.mem_of_getElem? (i := 7) rfl)) (hts (.initialized RX6) (List.mem_of_getElem? (i := 28) (by decide +kernel))) hdI_X6_init ⟨Nat.le_of_ble_eq_true rfl, Nat.le_of_ble_eq_true rfl⟩, rfl, (hts (.instanceMethod yX6_init) (List.mem_of_getElem? (i := 44) (by decide +kernel)))⟩ (pSA hP hK hD hT hG hS hA) rfl rfl hl.1 rfl (lv_room (Nat.le_of_ble_eq_true rfl)) dX0_init_209 ⟨Nat.le_of_ble_eq_true rfl, Nat.le_of_ble_eq_true rfl⟩) hS (fun ad => [(1, .int 4), (0, .ref (ad b))]) hl (fun ad' hh => by simp only [hh _ k0.1]) (fun ad => [.ref (ad (b + 42)), .int 4, .ref (ad (b + 5))]) (fun ad' hh => by simp only [hh _ k35.1, hh _ k5.1]) rfl (fun ad H locs hh hP hD hT htop1 hS hl => ?_)
  have k0 := (ok_X6_init (b := b + 42) htop k0).1
  have k1 := (ok_X6_init (b := b + 42) htop k1).1
  have k2 := (ok_X6_init (b := b + 42) htop k2).1
  have k3 := (ok_X6_init (b := b + 42) htop k3).1
  have k4 := (ok_X6_init (b := b + 42) htop k4).1
  have k5 := (ok_X6_init (b := b + 42) htop k5).1
  have k6 := (ok_X6_init (b := b + 42) htop k6).1
  have k7 := (ok_X6_init (b := b + 42) htop k7).1
  have k8 := (ok_X6_init (b := b + 42) htop k8).1
  have k35 := (ok_X6_init (b := b + 42) htop k35).1
  have n0 := (gR_X6_init (b := b + 42) (by omega)).trans n0
  have n1 := (gR_X6_init (b := b + 42) (by omega)).trans n1
  have n2 := (gR_X6_init (b := b + 42) (by omega)).trans n2
  have n3 := (gR_X6_init (b := b + 42) (by omega)).trans n3
  have n4 := (gR_X6_init (b := b + 42) (by omega)).trans n4
  have n5 := (gR_X6_init (b := b + 42) (by omega)).trans n5
  have n6 := (gR_X6_init (b := b + 42) (by omega)).trans n6
  have n7 := (gR_X6_init (b := b + 42) (by omega)).trans n7
  have hold := fun (y : Nat) hy => (hh y (hsub y hy)).trans (hold y hy)
  have hsub := fun (y : Nat) hy => sub_X6_init (b := b + 42) (hsub y hy)
  have htop := htop1
  refine r_aast (t0 := 6) hx hb hP hK hD hT hS k5 ⟨by decide, by decide, by decide, by decide⟩ rfl k35 (by decide) rfl (fun _ => rfl) rfl (i := 4) (by decide) dX0_init_212 (fun H locs hP hD hT hS => ?_)
  have n0 := (gR_p (a := (b + 5)) (j := ix 4) (v := some (b + 42)) (by omega)).trans n0
  have n1 := (gR_p (a := (b + 5)) (j := ix 4) (v := some (b + 42)) (by omega)).trans n1
  have n2 := (gR_p (a := (b + 5)) (j := ix 4) (v := some (b + 42)) (by omega)).trans n2
  have n3 := (gR_p (a := (b + 5)) (j := ix 4) (v := some (b + 42)) (by omega)).trans n3
  have n4 := (gR_p (a := (b + 5)) (j := ix 4) (v := some (b + 42)) (by omega)).trans n4
  have n5 := (gR_p (a := (b + 5)) (j := ix 4) (v := some (b + 42)) (by omega)).trans n5
  have n6 := (gR_p (a := (b + 5)) (j := ix 4) (v := some (b + 42)) (by omega)).trans n6
  have n7 := (gR_p (a := (b + 5)) (j := ix 4) (v := some (b + 42)) (by omega)).trans n7
  refine lv_iinc (v := 5) (lv' := [(1, .int 5), (0, .ref (ad b))]) hx hb dX0_init_213 hl (k := 0) rfl (by decide) (by decide) rfl (fun ls hl => ?_)
  refine lv_goto (tgt := 191) hx hb dX0_init_216 rfl ?_
  refine lv_iload_n hx hb dX0_init_191 rfl (lv_at hl 0 rfl) ?_
  refine lv_aload_n hx hb dX0_init_192 rfl (lv_at hl 1 rfl) ?_
  refine r_get (T := TX0) (v := .ref (ad (b + 5))) hx hb hts in0 hown hK hP k0 (by decide) rfl 4 (by decide) (hts (.fieldLink RX0 37 "StoneWalk$Island" "stories" "[LStoneWalk$Story;") (List.mem_of_getElem? (i := 13) (by decide +kernel))) rfl (t := 2) rfl (congrArg (fun z : Option Nat => va_rf (z.map ad)) n4) dX0_init_193 ?_
  refine r_alen (t0 := 6) (v := 5) hx hb hK hP k5 (by decide) rfl rfl dX0_init_196 ?_
  refine lv_icmp_ge (tgt := 219) hx hb dX0_init_197 rfl (fun _ => ?_) (fun c => absurd (by decide) c)
  refine lv_iconst (v := 0) hx hb dX0_init_219 rfl ?_
  refine lv_istore_n (lv' := [(1, .int 0), (0, .ref (ad b))]) hx hb dX0_init_220 rfl hl (by decide) rfl (fun ls hl => ?_)
  refine lv_iload_n hx hb dX0_init_221 rfl (lv_at hl 0 rfl) ?_
  refine lv_aload_n hx hb dX0_init_222 rfl (lv_at hl 1 rfl) ?_
  refine r_get (T := TX0) (v := .ref (ad (b + 6))) hx hb hts in0 hown hK hP k0 (by decide) rfl 5 (by decide) (hts (.fieldLink RX0 43 "StoneWalk$Island" "tellers" "[LStoneWalk$Teller;") (List.mem_of_getElem? (i := 15) (by decide +kernel))) rfl (t := 2) rfl (congrArg (fun z : Option Nat => va_rf (z.map ad)) n5) dX0_init_223 ?_
  refine r_alen (t0 := 7) (v := 3) hx hb hK hP k6 (by decide) rfl rfl dX0_init_226 ?_
  refine lv_icmp_ge (tgt := 249) hx hb dX0_init_227 rfl (fun c => absurd c (by decide)) (fun _ => ?_)
  refine lv_aload_n hx hb dX0_init_230 rfl (lv_at hl 1 rfl) ?_
  refine r_get (T := TX0) (v := .ref (ad (b + 6))) hx hb hts in0 hown hK hP k0 (by decide) rfl 5 (by decide) (hts (.fieldLink RX0 43 "StoneWalk$Island" "tellers" "[LStoneWalk$Teller;") (List.mem_of_getElem? (i := 15) (by decide +kernel))) rfl (t := 2) rfl (congrArg (fun z : Option Nat => va_rf (z.map ad)) n5) dX0_init_231 ?_
  refine lv_iload_n hx hb dX0_init_234 rfl (lv_at hl 0 rfl) ?_
  refine r_new (T := TX8) (ci := 8) (o := b + 44) hx hb hts in8 tyX8 tyX8_ok hown (hts (.classLink RX0 41 RX8) (List.mem_of_getElem? (i := 14) (by decide +kernel))) (hts (.instantiable RX8 2) (List.mem_of_getElem? (i := 29) (by decide +kernel))) (hts (.initialized RX8) (List.mem_of_getElem? (i := 30) (by decide +kernel))) hP hK hD hT hS hA (by decide) rfl htop rfl (fun j hj => by rw [fv_z]; rcases (show j = 0 ∨ j = 1 by omega) with rfl | rfl <;> rfl) (fun _ => fv_e) (Nat.le_of_ble_eq_true rfl) (Nat.le_of_ble_eq_true rfl) (fun ad => [(1, .int 0), (0, .ref (ad b))]) hl (fun ad' hh => by simp only [hh _ k0.1]) (fun ad => [.int 0, .ref (ad (b + 6))]) (fun ad' hh => by simp only [hh _ k6.1]) rfl dX0_init_235 (fun ad H hh hP hD hT hS hl => ?_)
  have k0 := k0.up1 (k := 8) (n := 0) htop rfl
  have k1 := k1.up1 (k := 8) (n := 0) htop rfl
  have k2 := k2.up1 (k := 8) (n := 0) htop rfl
  have k3 := k3.up1 (k := 8) (n := 0) htop rfl
  have k4 := k4.up1 (k := 8) (n := 0) htop rfl
  have k5 := k5.up1 (k := 8) (n := 0) htop rfl
  have k6 := k6.up1 (k := 8) (n := 0) htop rfl
  have k7 := k7.up1 (k := 8) (n := 0) htop rfl
  have k8 := k8.up1 (k := 8) (n := 0) htop rfl
  have htop := htop.nw1 (k := 8) (n := 0) (o := (b + 44)) rfl
  have k36 := ok.nwt htop
  have n0 := (gR_z (o := (b + 44)) (by omega)).trans n0
  have n1 := (gR_z (o := (b + 44)) (by omega)).trans n1
  have n2 := (gR_z (o := (b + 44)) (by omega)).trans n2
  have n3 := (gR_z (o := (b + 44)) (by omega)).trans n3
  have n4 := (gR_z (o := (b + 44)) (by omega)).trans n4
  have n5 := (gR_z (o := (b + 44)) (by omega)).trans n5
  have n6 := (gR_z (o := (b + 44)) (by omega)).trans n6
  have n7 := (gR_z (o := (b + 44)) (by omega)).trans n7
  have hold := fun (y : Nat) hy => (hh y (hsub y hy)).trans (hold y hy)
  have hsub := fun (y : Nat) hy => gN_sub (o := b + 44) (k := 8) (n := 0) (hsub y hy)
  refine lv_dup hx hb dX0_init_238 rfl ?_
  refine k_n (va_runIN (As := []) (rest := [.ref (ad (b + 44)), .int 0, .ref (ad (b + 6))]) ⟨hx, hb, hml, hown, hts⟩ (c_X8_init (l := l) _ (b + 44) k36 htop) ⟨va_cnB 0 hts gX0_init_X8_init_n59 rfl rfl rfl (hG.2.1 ("StoneWalk$Island", 59, ⟨"StoneWalk$Teller", "<init>", "()V"⟩, "StoneWalk") (List.mem_of_getElem? (i := 8) rfl)) (hts (.initialized RX8) (List.mem_of_getElem? (i := 30) (by decide +kernel))) hdI_X8_init ⟨Nat.le_of_ble_eq_true rfl, Nat.le_of_ble_eq_true rfl⟩, rfl, (hts (.instanceMethod yX8_init) (List.mem_of_getElem? (i := 48) (by decide +kernel)))⟩ (pSA hP hK hD hT hG hS hA) rfl rfl hl.1 rfl (lv_room (Nat.le_of_ble_eq_true rfl)) dX0_init_239 ⟨Nat.le_of_ble_eq_true rfl, Nat.le_of_ble_eq_true rfl⟩) hS (fun ad => [(1, .int 0), (0, .ref (ad b))]) hl (fun ad' hh => by simp only [hh _ k0.1]) (fun ad => [.ref (ad (b + 44)), .int 0, .ref (ad (b + 6))]) (fun ad' hh => by simp only [hh _ k36.1, hh _ k6.1]) rfl (fun ad H locs hh hP hD hT htop1 hS hl => ?_)
  have hold := fun (y : Nat) hy => (hh y (hsub y hy)).trans (hold y hy)
  have htop := htop1
  refine r_aast (t0 := 7) hx hb hP hK hD hT hS k6 ⟨by decide, by decide, by decide, by decide⟩ rfl k36 (by decide) rfl (fun _ => rfl) rfl (i := 0) (by decide) dX0_init_242 (fun H locs hP hD hT hS => ?_)
  have n0 := (gR_p (a := (b + 6)) (j := ix 0) (v := some (b + 44)) (by omega)).trans n0
  have n1 := (gR_p (a := (b + 6)) (j := ix 0) (v := some (b + 44)) (by omega)).trans n1
  have n2 := (gR_p (a := (b + 6)) (j := ix 0) (v := some (b + 44)) (by omega)).trans n2
  have n3 := (gR_p (a := (b + 6)) (j := ix 0) (v := some (b + 44)) (by omega)).trans n3
  have n4 := (gR_p (a := (b + 6)) (j := ix 0) (v := some (b + 44)) (by omega)).trans n4
  have n5 := (gR_p (a := (b + 6)) (j := ix 0) (v := some (b + 44)) (by omega)).trans n5
  have n6 := (gR_p (a := (b + 6)) (j := ix 0) (v := some (b + 44)) (by omega)).trans n6
  have n7 := (gR_p (a := (b + 6)) (j := ix 0) (v := some (b + 44)) (by omega)).trans n7
  refine lv_iinc (v := 1) (lv' := [(1, .int 1), (0, .ref (ad b))]) hx hb dX0_init_243 hl (k := 0) rfl (by decide) (by decide) rfl (fun ls hl => ?_)
  refine lv_goto (tgt := 221) hx hb dX0_init_246 rfl ?_
  refine lv_iload_n hx hb dX0_init_221 rfl (lv_at hl 0 rfl) ?_
  refine lv_aload_n hx hb dX0_init_222 rfl (lv_at hl 1 rfl) ?_
  refine r_get (T := TX0) (v := .ref (ad (b + 6))) hx hb hts in0 hown hK hP k0 (by decide) rfl 5 (by decide) (hts (.fieldLink RX0 43 "StoneWalk$Island" "tellers" "[LStoneWalk$Teller;") (List.mem_of_getElem? (i := 15) (by decide +kernel))) rfl (t := 2) rfl (congrArg (fun z : Option Nat => va_rf (z.map ad)) n5) dX0_init_223 ?_
  refine r_alen (t0 := 7) (v := 3) hx hb hK hP k6 (by decide) rfl rfl dX0_init_226 ?_
  refine lv_icmp_ge (tgt := 249) hx hb dX0_init_227 rfl (fun c => absurd c (by decide)) (fun _ => ?_)
  refine lv_aload_n hx hb dX0_init_230 rfl (lv_at hl 1 rfl) ?_
  refine r_get (T := TX0) (v := .ref (ad (b + 6))) hx hb hts in0 hown hK hP k0 (by decide) rfl 5 (by decide) (hts (.fieldLink RX0 43 "StoneWalk$Island" "tellers" "[LStoneWalk$Teller;") (List.mem_of_getElem? (i := 15) (by decide +kernel))) rfl (t := 2) rfl (congrArg (fun z : Option Nat => va_rf (z.map ad)) n5) dX0_init_231 ?_
  refine lv_iload_n hx hb dX0_init_234 rfl (lv_at hl 0 rfl) ?_
  refine r_new (T := TX8) (ci := 8) (o := b + 45) hx hb hts in8 tyX8 tyX8_ok hown (hts (.classLink RX0 41 RX8) (List.mem_of_getElem? (i := 14) (by decide +kernel))) (hts (.instantiable RX8 2) (List.mem_of_getElem? (i := 29) (by decide +kernel))) (hts (.initialized RX8) (List.mem_of_getElem? (i := 30) (by decide +kernel))) hP hK hD hT hS hA (by decide) rfl htop rfl (fun j hj => by rw [fv_z]; rcases (show j = 0 ∨ j = 1 by omega) with rfl | rfl <;> rfl) (fun _ => fv_e) (Nat.le_of_ble_eq_true rfl) (Nat.le_of_ble_eq_true rfl) (fun ad => [(1, .int 1), (0, .ref (ad b))]) hl (fun ad' hh => by simp only [hh _ k0.1]) (fun ad => [.int 1, .ref (ad (b + 6))]) (fun ad' hh => by simp only [hh _ k6.1]) rfl dX0_init_235 (fun ad H hh hP hD hT hS hl => ?_)
  have k0 := k0.up1 (k := 8) (n := 0) htop rfl
  have k1 := k1.up1 (k := 8) (n := 0) htop rfl
  have k2 := k2.up1 (k := 8) (n := 0) htop rfl
  have k3 := k3.up1 (k := 8) (n := 0) htop rfl
  have k4 := k4.up1 (k := 8) (n := 0) htop rfl
  have k5 := k5.up1 (k := 8) (n := 0) htop rfl
  have k6 := k6.up1 (k := 8) (n := 0) htop rfl
  have k7 := k7.up1 (k := 8) (n := 0) htop rfl
  have k8 := k8.up1 (k := 8) (n := 0) htop rfl
  have htop := htop.nw1 (k := 8) (n := 0) (o := (b + 45)) rfl
  have k37 := ok.nwt htop
  have n0 := (gR_z (o := (b + 45)) (by omega)).trans n0
  have n1 := (gR_z (o := (b + 45)) (by omega)).trans n1
  have n2 := (gR_z (o := (b + 45)) (by omega)).trans n2
  have n3 := (gR_z (o := (b + 45)) (by omega)).trans n3
  have n4 := (gR_z (o := (b + 45)) (by omega)).trans n4
  have n5 := (gR_z (o := (b + 45)) (by omega)).trans n5
  have n6 := (gR_z (o := (b + 45)) (by omega)).trans n6
  have n7 := (gR_z (o := (b + 45)) (by omega)).trans n7
  have hold := fun (y : Nat) hy => (hh y (hsub y hy)).trans (hold y hy)
  have hsub := fun (y : Nat) hy => gN_sub (o := b + 45) (k := 8) (n := 0) (hsub y hy)
  refine lv_dup hx hb dX0_init_238 rfl ?_
  refine k_n (va_runIN (As := []) (rest := [.ref (ad (b + 45)), .int 1, .ref (ad (b + 6))]) ⟨hx, hb, hml, hown, hts⟩ (c_X8_init (l := l) _ (b + 45) k37 htop) ⟨va_cnB 0 hts gX0_init_X8_init_n59 rfl rfl rfl (hG.2.1 ("StoneWalk$Island", 59, ⟨"StoneWalk$Teller", "<init>", "()V"⟩, "StoneWalk") (List.mem_of_getElem? (i := 8) rfl)) (hts (.initialized RX8) (List.mem_of_getElem? (i := 30) (by decide +kernel))) hdI_X8_init ⟨Nat.le_of_ble_eq_true rfl, Nat.le_of_ble_eq_true rfl⟩, rfl, (hts (.instanceMethod yX8_init) (List.mem_of_getElem? (i := 48) (by decide +kernel)))⟩ (pSA hP hK hD hT hG hS hA) rfl rfl hl.1 rfl (lv_room (Nat.le_of_ble_eq_true rfl)) dX0_init_239 ⟨Nat.le_of_ble_eq_true rfl, Nat.le_of_ble_eq_true rfl⟩) hS (fun ad => [(1, .int 1), (0, .ref (ad b))]) hl (fun ad' hh => by simp only [hh _ k0.1]) (fun ad => [.ref (ad (b + 45)), .int 1, .ref (ad (b + 6))]) (fun ad' hh => by simp only [hh _ k37.1, hh _ k6.1]) rfl (fun ad H locs hh hP hD hT htop1 hS hl => ?_)
  have hold := fun (y : Nat) hy => (hh y (hsub y hy)).trans (hold y hy)
  have htop := htop1
  refine r_aast (t0 := 7) hx hb hP hK hD hT hS k6 ⟨by decide, by decide, by decide, by decide⟩ rfl k37 (by decide) rfl (fun _ => rfl) rfl (i := 1) (by decide) dX0_init_242 (fun H locs hP hD hT hS => ?_)
  have n0 := (gR_p (a := (b + 6)) (j := ix 1) (v := some (b + 45)) (by omega)).trans n0
  have n1 := (gR_p (a := (b + 6)) (j := ix 1) (v := some (b + 45)) (by omega)).trans n1
  have n2 := (gR_p (a := (b + 6)) (j := ix 1) (v := some (b + 45)) (by omega)).trans n2
  have n3 := (gR_p (a := (b + 6)) (j := ix 1) (v := some (b + 45)) (by omega)).trans n3
  have n4 := (gR_p (a := (b + 6)) (j := ix 1) (v := some (b + 45)) (by omega)).trans n4
  have n5 := (gR_p (a := (b + 6)) (j := ix 1) (v := some (b + 45)) (by omega)).trans n5
  have n6 := (gR_p (a := (b + 6)) (j := ix 1) (v := some (b + 45)) (by omega)).trans n6
  have n7 := (gR_p (a := (b + 6)) (j := ix 1) (v := some (b + 45)) (by omega)).trans n7
  refine lv_iinc (v := 2) (lv' := [(1, .int 2), (0, .ref (ad b))]) hx hb dX0_init_243 hl (k := 0) rfl (by decide) (by decide) rfl (fun ls hl => ?_)
  refine lv_goto (tgt := 221) hx hb dX0_init_246 rfl ?_
  refine lv_iload_n hx hb dX0_init_221 rfl (lv_at hl 0 rfl) ?_
  refine lv_aload_n hx hb dX0_init_222 rfl (lv_at hl 1 rfl) ?_
  refine r_get (T := TX0) (v := .ref (ad (b + 6))) hx hb hts in0 hown hK hP k0 (by decide) rfl 5 (by decide) (hts (.fieldLink RX0 43 "StoneWalk$Island" "tellers" "[LStoneWalk$Teller;") (List.mem_of_getElem? (i := 15) (by decide +kernel))) rfl (t := 2) rfl (congrArg (fun z : Option Nat => va_rf (z.map ad)) n5) dX0_init_223 ?_
  refine r_alen (t0 := 7) (v := 3) hx hb hK hP k6 (by decide) rfl rfl dX0_init_226 ?_
  refine lv_icmp_ge (tgt := 249) hx hb dX0_init_227 rfl (fun c => absurd c (by decide)) (fun _ => ?_)
  refine lv_aload_n hx hb dX0_init_230 rfl (lv_at hl 1 rfl) ?_
  refine r_get (T := TX0) (v := .ref (ad (b + 6))) hx hb hts in0 hown hK hP k0 (by decide) rfl 5 (by decide) (hts (.fieldLink RX0 43 "StoneWalk$Island" "tellers" "[LStoneWalk$Teller;") (List.mem_of_getElem? (i := 15) (by decide +kernel))) rfl (t := 2) rfl (congrArg (fun z : Option Nat => va_rf (z.map ad)) n5) dX0_init_231 ?_
  refine lv_iload_n hx hb dX0_init_234 rfl (lv_at hl 0 rfl) ?_
  refine r_new (T := TX8) (ci := 8) (o := b + 46) hx hb hts in8 tyX8 tyX8_ok hown (hts (.classLink RX0 41 RX8) (List.mem_of_getElem? (i := 14) (by decide +kernel))) (hts (.instantiable RX8 2) (List.mem_of_getElem? (i := 29) (by decide +kernel))) (hts (.initialized RX8) (List.mem_of_getElem? (i := 30) (by decide +kernel))) hP hK hD hT hS hA (by decide) rfl htop rfl (fun j hj => by rw [fv_z]; rcases (show j = 0 ∨ j = 1 by omega) with rfl | rfl <;> rfl) (fun _ => fv_e) (Nat.le_of_ble_eq_true rfl) (Nat.le_of_ble_eq_true rfl) (fun ad => [(1, .int 2), (0, .ref (ad b))]) hl (fun ad' hh => by simp only [hh _ k0.1]) (fun ad => [.int 2, .ref (ad (b + 6))]) (fun ad' hh => by simp only [hh _ k6.1]) rfl dX0_init_235 (fun ad H hh hP hD hT hS hl => ?_)
  have k0 := k0.up1 (k := 8) (n := 0) htop rfl
  have k1 := k1.up1 (k := 8) (n := 0) htop rfl
  have k2 := k2.up1 (k := 8) (n := 0) htop rfl
  have k3 := k3.up1 (k := 8) (n := 0) htop rfl
  have k4 := k4.up1 (k := 8) (n := 0) htop rfl
  have k5 := k5.up1 (k := 8) (n := 0) htop rfl
  have k6 := k6.up1 (k := 8) (n := 0) htop rfl
  have k7 := k7.up1 (k := 8) (n := 0) htop rfl
  have k8 := k8.up1 (k := 8) (n := 0) htop rfl
  have htop := htop.nw1 (k := 8) (n := 0) (o := (b + 46)) rfl
  have k38 := ok.nwt htop
  have n0 := (gR_z (o := (b + 46)) (by omega)).trans n0
  have n1 := (gR_z (o := (b + 46)) (by omega)).trans n1
  have n2 := (gR_z (o := (b + 46)) (by omega)).trans n2
  have n3 := (gR_z (o := (b + 46)) (by omega)).trans n3
  have n4 := (gR_z (o := (b + 46)) (by omega)).trans n4
  have n5 := (gR_z (o := (b + 46)) (by omega)).trans n5
  have n6 := (gR_z (o := (b + 46)) (by omega)).trans n6
  have n7 := (gR_z (o := (b + 46)) (by omega)).trans n7
  have hold := fun (y : Nat) hy => (hh y (hsub y hy)).trans (hold y hy)
  have hsub := fun (y : Nat) hy => gN_sub (o := b + 46) (k := 8) (n := 0) (hsub y hy)
  refine lv_dup hx hb dX0_init_238 rfl ?_
  refine k_n (va_runIN (As := []) (rest := [.ref (ad (b + 46)), .int 2, .ref (ad (b + 6))]) ⟨hx, hb, hml, hown, hts⟩ (c_X8_init (l := l) _ (b + 46) k38 htop) ⟨va_cnB 0 hts gX0_init_X8_init_n59 rfl rfl rfl (hG.2.1 ("StoneWalk$Island", 59, ⟨"StoneWalk$Teller", "<init>", "()V"⟩, "StoneWalk") (List.mem_of_getElem? (i := 8) rfl)) (hts (.initialized RX8) (List.mem_of_getElem? (i := 30) (by decide +kernel))) hdI_X8_init ⟨Nat.le_of_ble_eq_true rfl, Nat.le_of_ble_eq_true rfl⟩, rfl, (hts (.instanceMethod yX8_init) (List.mem_of_getElem? (i := 48) (by decide +kernel)))⟩ (pSA hP hK hD hT hG hS hA) rfl rfl hl.1 rfl (lv_room (Nat.le_of_ble_eq_true rfl)) dX0_init_239 ⟨Nat.le_of_ble_eq_true rfl, Nat.le_of_ble_eq_true rfl⟩) hS (fun ad => [(1, .int 2), (0, .ref (ad b))]) hl (fun ad' hh => by simp only [hh _ k0.1]) (fun ad => [.ref (ad (b + 46)), .int 2, .ref (ad (b + 6))]) (fun ad' hh => by simp only [hh _ k38.1, hh _ k6.1]) rfl (fun ad H locs hh hP hD hT htop1 hS hl => ?_)
  have hold := fun (y : Nat) hy => (hh y (hsub y hy)).trans (hold y hy)
  have htop := htop1
  refine r_aast (t0 := 7) hx hb hP hK hD hT hS k6 ⟨by decide, by decide, by decide, by decide⟩ rfl k38 (by decide) rfl (fun _ => rfl) rfl (i := 2) (by decide) dX0_init_242 (fun H locs hP hD hT hS => ?_)
  have n0 := (gR_p (a := (b + 6)) (j := ix 2) (v := some (b + 46)) (by omega)).trans n0
  have n1 := (gR_p (a := (b + 6)) (j := ix 2) (v := some (b + 46)) (by omega)).trans n1
  have n2 := (gR_p (a := (b + 6)) (j := ix 2) (v := some (b + 46)) (by omega)).trans n2
  have n3 := (gR_p (a := (b + 6)) (j := ix 2) (v := some (b + 46)) (by omega)).trans n3
  have n4 := (gR_p (a := (b + 6)) (j := ix 2) (v := some (b + 46)) (by omega)).trans n4
  have n5 := (gR_p (a := (b + 6)) (j := ix 2) (v := some (b + 46)) (by omega)).trans n5
  have n6 := (gR_p (a := (b + 6)) (j := ix 2) (v := some (b + 46)) (by omega)).trans n6
  have n7 := (gR_p (a := (b + 6)) (j := ix 2) (v := some (b + 46)) (by omega)).trans n7
  refine lv_iinc (v := 3) (lv' := [(1, .int 3), (0, .ref (ad b))]) hx hb dX0_init_243 hl (k := 0) rfl (by decide) (by decide) rfl (fun ls hl => ?_)
  refine lv_goto (tgt := 221) hx hb dX0_init_246 rfl ?_
  refine lv_iload_n hx hb dX0_init_221 rfl (lv_at hl 0 rfl) ?_
  refine lv_aload_n hx hb dX0_init_222 rfl (lv_at hl 1 rfl) ?_
  refine r_get (T := TX0) (v := .ref (ad (b + 6))) hx hb hts in0 hown hK hP k0 (by decide) rfl 5 (by decide) (hts (.fieldLink RX0 43 "StoneWalk$Island" "tellers" "[LStoneWalk$Teller;") (List.mem_of_getElem? (i := 15) (by decide +kernel))) rfl (t := 2) rfl (congrArg (fun z : Option Nat => va_rf (z.map ad)) n5) dX0_init_223 ?_
  refine r_alen (t0 := 7) (v := 3) hx hb hK hP k6 (by decide) rfl rfl dX0_init_226 ?_
  refine lv_icmp_ge (tgt := 249) hx hb dX0_init_227 rfl (fun _ => ?_) (fun c => absurd (by decide) c)
  refine lv_iconst (v := 0) hx hb dX0_init_249 rfl ?_
  refine lv_istore_n (lv' := [(1, .int 0), (0, .ref (ad b))]) hx hb dX0_init_250 rfl hl (by decide) rfl (fun ls hl => ?_)
  refine lv_iload_n hx hb dX0_init_251 rfl (lv_at hl 0 rfl) ?_
  refine lv_aload_n hx hb dX0_init_252 rfl (lv_at hl 1 rfl) ?_
  refine r_get (T := TX0) (v := .ref (ad (b + 7))) hx hb hts in0 hown hK hP k0 (by decide) rfl 6 (by decide) (hts (.fieldLink RX0 47 "StoneWalk$Island" "things" "[LStoneWalk$Stone;") (List.mem_of_getElem? (i := 16) (by decide +kernel))) rfl (t := 2) rfl (congrArg (fun z : Option Nat => va_rf (z.map ad)) n6) dX0_init_253 ?_
  refine r_alen (t0 := 5) (v := 5) hx hb hK hP k7 (by decide) rfl rfl dX0_init_256 ?_
  refine lv_icmp_ge (tgt := 279) hx hb dX0_init_257 rfl (fun c => absurd c (by decide)) (fun _ => ?_)
  refine lv_aload_n hx hb dX0_init_260 rfl (lv_at hl 1 rfl) ?_
  refine r_get (T := TX0) (v := .ref (ad (b + 7))) hx hb hts in0 hown hK hP k0 (by decide) rfl 6 (by decide) (hts (.fieldLink RX0 47 "StoneWalk$Island" "things" "[LStoneWalk$Stone;") (List.mem_of_getElem? (i := 16) (by decide +kernel))) rfl (t := 2) rfl (congrArg (fun z : Option Nat => va_rf (z.map ad)) n6) dX0_init_261 ?_
  refine lv_iload_n hx hb dX0_init_264 rfl (lv_at hl 0 rfl) ?_
  refine r_new (T := TX5) (ci := 5) (o := b + 47) hx hb hts in5 tyX5 tyX5_ok hown (hts (.classLink RX0 23 RX5) (List.mem_of_getElem? (i := 8) (by decide +kernel))) (hts (.instantiable RX5 8) (List.mem_of_getElem? (i := 23) (by decide +kernel))) (hts (.initialized RX5) (List.mem_of_getElem? (i := 24) (by decide +kernel))) hP hK hD hT hS hA (by decide) rfl htop rfl (fun j hj => by rw [fv_z]; rcases (show j = 0 ∨ j = 1 ∨ j = 2 ∨ j = 3 ∨ j = 4 ∨ j = 5 ∨ j = 6 ∨ j = 7 by omega) with rfl | rfl | rfl | rfl | rfl | rfl | rfl | rfl <;> rfl) (fun _ => fv_e) (Nat.le_of_ble_eq_true rfl) (Nat.le_of_ble_eq_true rfl) (fun ad => [(1, .int 0), (0, .ref (ad b))]) hl (fun ad' hh => by simp only [hh _ k0.1]) (fun ad => [.int 0, .ref (ad (b + 7))]) (fun ad' hh => by simp only [hh _ k7.1]) rfl dX0_init_265 (fun ad H hh hP hD hT hS hl => ?_)
  have k0 := k0.up1 (k := 5) (n := 0) htop rfl
  have k1 := k1.up1 (k := 5) (n := 0) htop rfl
  have k2 := k2.up1 (k := 5) (n := 0) htop rfl
  have k3 := k3.up1 (k := 5) (n := 0) htop rfl
  have k4 := k4.up1 (k := 5) (n := 0) htop rfl
  have k5 := k5.up1 (k := 5) (n := 0) htop rfl
  have k6 := k6.up1 (k := 5) (n := 0) htop rfl
  have k7 := k7.up1 (k := 5) (n := 0) htop rfl
  have k8 := k8.up1 (k := 5) (n := 0) htop rfl
  have htop := htop.nw1 (k := 5) (n := 0) (o := (b + 47)) rfl
  have k39 := ok.nwt htop
  have n0 := (gR_z (o := (b + 47)) (by omega)).trans n0
  have n1 := (gR_z (o := (b + 47)) (by omega)).trans n1
  have n2 := (gR_z (o := (b + 47)) (by omega)).trans n2
  have n3 := (gR_z (o := (b + 47)) (by omega)).trans n3
  have n4 := (gR_z (o := (b + 47)) (by omega)).trans n4
  have n5 := (gR_z (o := (b + 47)) (by omega)).trans n5
  have n6 := (gR_z (o := (b + 47)) (by omega)).trans n6
  have n7 := (gR_z (o := (b + 47)) (by omega)).trans n7
  have hold := fun (y : Nat) hy => (hh y (hsub y hy)).trans (hold y hy)
  have hsub := fun (y : Nat) hy => gN_sub (o := b + 47) (k := 5) (n := 0) (hsub y hy)
  refine lv_dup hx hb dX0_init_268 rfl ?_
  refine k_n (va_runIN (As := []) (rest := [.ref (ad (b + 47)), .int 0, .ref (ad (b + 7))]) ⟨hx, hb, hml, hown, hts⟩ (c_X5_init (l := l) _ (b + 47) k39 htop) ⟨va_cnB 0 hts gX0_init_X5_init_n56 rfl rfl rfl (hG.2.1 ("StoneWalk$Island", 56, ⟨"StoneWalk$Stone", "<init>", "()V"⟩, "StoneWalk") (List.mem_of_getElem? (i := 5) rfl)) (hts (.initialized RX5) (List.mem_of_getElem? (i := 24) (by decide +kernel))) hdI_X5_init ⟨Nat.le_of_ble_eq_true rfl, Nat.le_of_ble_eq_true rfl⟩, rfl, (hts (.instanceMethod yX5_init) (List.mem_of_getElem? (i := 38) (by decide +kernel)))⟩ (pSA hP hK hD hT hG hS hA) rfl rfl hl.1 rfl (lv_room (Nat.le_of_ble_eq_true rfl)) dX0_init_269 ⟨Nat.le_of_ble_eq_true rfl, Nat.le_of_ble_eq_true rfl⟩) hS (fun ad => [(1, .int 0), (0, .ref (ad b))]) hl (fun ad' hh => by simp only [hh _ k0.1]) (fun ad => [.ref (ad (b + 47)), .int 0, .ref (ad (b + 7))]) (fun ad' hh => by simp only [hh _ k39.1, hh _ k7.1]) rfl (fun ad H locs hh hP hD hT htop1 hS hl => ?_)
  have hold := fun (y : Nat) hy => (hh y (hsub y hy)).trans (hold y hy)
  have htop := htop1
  refine r_aast (t0 := 5) hx hb hP hK hD hT hS k7 ⟨by decide, by decide, by decide, by decide⟩ rfl k39 (by decide) rfl (fun _ => rfl) rfl (i := 0) (by decide) dX0_init_272 (fun H locs hP hD hT hS => ?_)
  have n0 := (gR_p (a := (b + 7)) (j := ix 0) (v := some (b + 47)) (by omega)).trans n0
  have n1 := (gR_p (a := (b + 7)) (j := ix 0) (v := some (b + 47)) (by omega)).trans n1
  have n2 := (gR_p (a := (b + 7)) (j := ix 0) (v := some (b + 47)) (by omega)).trans n2
  have n3 := (gR_p (a := (b + 7)) (j := ix 0) (v := some (b + 47)) (by omega)).trans n3
  have n4 := (gR_p (a := (b + 7)) (j := ix 0) (v := some (b + 47)) (by omega)).trans n4
  have n5 := (gR_p (a := (b + 7)) (j := ix 0) (v := some (b + 47)) (by omega)).trans n5
  have n6 := (gR_p (a := (b + 7)) (j := ix 0) (v := some (b + 47)) (by omega)).trans n6
  have n7 := (gR_p (a := (b + 7)) (j := ix 0) (v := some (b + 47)) (by omega)).trans n7
  refine lv_iinc (v := 1) (lv' := [(1, .int 1), (0, .ref (ad b))]) hx hb dX0_init_273 hl (k := 0) rfl (by decide) (by decide) rfl (fun ls hl => ?_)
  refine lv_goto (tgt := 251) hx hb dX0_init_276 rfl ?_
  refine lv_iload_n hx hb dX0_init_251 rfl (lv_at hl 0 rfl) ?_
  refine lv_aload_n hx hb dX0_init_252 rfl (lv_at hl 1 rfl) ?_
  refine r_get (T := TX0) (v := .ref (ad (b + 7))) hx hb hts in0 hown hK hP k0 (by decide) rfl 6 (by decide) (hts (.fieldLink RX0 47 "StoneWalk$Island" "things" "[LStoneWalk$Stone;") (List.mem_of_getElem? (i := 16) (by decide +kernel))) rfl (t := 2) rfl (congrArg (fun z : Option Nat => va_rf (z.map ad)) n6) dX0_init_253 ?_
  refine r_alen (t0 := 5) (v := 5) hx hb hK hP k7 (by decide) rfl rfl dX0_init_256 ?_
  refine lv_icmp_ge (tgt := 279) hx hb dX0_init_257 rfl (fun c => absurd c (by decide)) (fun _ => ?_)
  refine lv_aload_n hx hb dX0_init_260 rfl (lv_at hl 1 rfl) ?_
  refine r_get (T := TX0) (v := .ref (ad (b + 7))) hx hb hts in0 hown hK hP k0 (by decide) rfl 6 (by decide) (hts (.fieldLink RX0 47 "StoneWalk$Island" "things" "[LStoneWalk$Stone;") (List.mem_of_getElem? (i := 16) (by decide +kernel))) rfl (t := 2) rfl (congrArg (fun z : Option Nat => va_rf (z.map ad)) n6) dX0_init_261 ?_
  refine lv_iload_n hx hb dX0_init_264 rfl (lv_at hl 0 rfl) ?_
  refine r_new (T := TX5) (ci := 5) (o := b + 48) hx hb hts in5 tyX5 tyX5_ok hown (hts (.classLink RX0 23 RX5) (List.mem_of_getElem? (i := 8) (by decide +kernel))) (hts (.instantiable RX5 8) (List.mem_of_getElem? (i := 23) (by decide +kernel))) (hts (.initialized RX5) (List.mem_of_getElem? (i := 24) (by decide +kernel))) hP hK hD hT hS hA (by decide) rfl htop rfl (fun j hj => by rw [fv_z]; rcases (show j = 0 ∨ j = 1 ∨ j = 2 ∨ j = 3 ∨ j = 4 ∨ j = 5 ∨ j = 6 ∨ j = 7 by omega) with rfl | rfl | rfl | rfl | rfl | rfl | rfl | rfl <;> rfl) (fun _ => fv_e) (Nat.le_of_ble_eq_true rfl) (Nat.le_of_ble_eq_true rfl) (fun ad => [(1, .int 1), (0, .ref (ad b))]) hl (fun ad' hh => by simp only [hh _ k0.1]) (fun ad => [.int 1, .ref (ad (b + 7))]) (fun ad' hh => by simp only [hh _ k7.1]) rfl dX0_init_265 (fun ad H hh hP hD hT hS hl => ?_)
  have k0 := k0.up1 (k := 5) (n := 0) htop rfl
  have k1 := k1.up1 (k := 5) (n := 0) htop rfl
  have k2 := k2.up1 (k := 5) (n := 0) htop rfl
  have k3 := k3.up1 (k := 5) (n := 0) htop rfl
  have k4 := k4.up1 (k := 5) (n := 0) htop rfl
  have k5 := k5.up1 (k := 5) (n := 0) htop rfl
  have k6 := k6.up1 (k := 5) (n := 0) htop rfl
  have k7 := k7.up1 (k := 5) (n := 0) htop rfl
  have k8 := k8.up1 (k := 5) (n := 0) htop rfl
  have htop := htop.nw1 (k := 5) (n := 0) (o := (b + 48)) rfl
  have k40 := ok.nwt htop
  have n0 := (gR_z (o := (b + 48)) (by omega)).trans n0
  have n1 := (gR_z (o := (b + 48)) (by omega)).trans n1
  have n2 := (gR_z (o := (b + 48)) (by omega)).trans n2
  have n3 := (gR_z (o := (b + 48)) (by omega)).trans n3
  have n4 := (gR_z (o := (b + 48)) (by omega)).trans n4
  have n5 := (gR_z (o := (b + 48)) (by omega)).trans n5
  have n6 := (gR_z (o := (b + 48)) (by omega)).trans n6
  have n7 := (gR_z (o := (b + 48)) (by omega)).trans n7
  have hold := fun (y : Nat) hy => (hh y (hsub y hy)).trans (hold y hy)
  have hsub := fun (y : Nat) hy => gN_sub (o := b + 48) (k := 5) (n := 0) (hsub y hy)
  refine lv_dup hx hb dX0_init_268 rfl ?_
  refine k_n (va_runIN (As := []) (rest := [.ref (ad (b + 48)), .int 1, .ref (ad (b + 7))]) ⟨hx, hb, hml, hown, hts⟩ (c_X5_init (l := l) _ (b + 48) k40 htop) ⟨va_cnB 0 hts gX0_init_X5_init_n56 rfl rfl rfl (hG.2.1 ("StoneWalk$Island", 56, ⟨"StoneWalk$Stone", "<init>", "()V"⟩, "StoneWalk") (List.mem_of_getElem? (i := 5) rfl)) (hts (.initialized RX5) (List.mem_of_getElem? (i := 24) (by decide +kernel))) hdI_X5_init ⟨Nat.le_of_ble_eq_true rfl, Nat.le_of_ble_eq_true rfl⟩, rfl, (hts (.instanceMethod yX5_init) (List.mem_of_getElem? (i := 38) (by decide +kernel)))⟩ (pSA hP hK hD hT hG hS hA) rfl rfl hl.1 rfl (lv_room (Nat.le_of_ble_eq_true rfl)) dX0_init_269 ⟨Nat.le_of_ble_eq_true rfl, Nat.le_of_ble_eq_true rfl⟩) hS (fun ad => [(1, .int 1), (0, .ref (ad b))]) hl (fun ad' hh => by simp only [hh _ k0.1]) (fun ad => [.ref (ad (b + 48)), .int 1, .ref (ad (b + 7))]) (fun ad' hh => by simp only [hh _ k40.1, hh _ k7.1]) rfl (fun ad H locs hh hP hD hT htop1 hS hl => ?_)
  have hold := fun (y : Nat) hy => (hh y (hsub y hy)).trans (hold y hy)
  have htop := htop1
  refine r_aast (t0 := 5) hx hb hP hK hD hT hS k7 ⟨by decide, by decide, by decide, by decide⟩ rfl k40 (by decide) rfl (fun _ => rfl) rfl (i := 1) (by decide) dX0_init_272 (fun H locs hP hD hT hS => ?_)
  have n0 := (gR_p (a := (b + 7)) (j := ix 1) (v := some (b + 48)) (by omega)).trans n0
  have n1 := (gR_p (a := (b + 7)) (j := ix 1) (v := some (b + 48)) (by omega)).trans n1
  have n2 := (gR_p (a := (b + 7)) (j := ix 1) (v := some (b + 48)) (by omega)).trans n2
  have n3 := (gR_p (a := (b + 7)) (j := ix 1) (v := some (b + 48)) (by omega)).trans n3
  have n4 := (gR_p (a := (b + 7)) (j := ix 1) (v := some (b + 48)) (by omega)).trans n4
  have n5 := (gR_p (a := (b + 7)) (j := ix 1) (v := some (b + 48)) (by omega)).trans n5
  have n6 := (gR_p (a := (b + 7)) (j := ix 1) (v := some (b + 48)) (by omega)).trans n6
  have n7 := (gR_p (a := (b + 7)) (j := ix 1) (v := some (b + 48)) (by omega)).trans n7
  refine lv_iinc (v := 2) (lv' := [(1, .int 2), (0, .ref (ad b))]) hx hb dX0_init_273 hl (k := 0) rfl (by decide) (by decide) rfl (fun ls hl => ?_)
  refine lv_goto (tgt := 251) hx hb dX0_init_276 rfl ?_
  refine lv_iload_n hx hb dX0_init_251 rfl (lv_at hl 0 rfl) ?_
  refine lv_aload_n hx hb dX0_init_252 rfl (lv_at hl 1 rfl) ?_
  refine r_get (T := TX0) (v := .ref (ad (b + 7))) hx hb hts in0 hown hK hP k0 (by decide) rfl 6 (by decide) (hts (.fieldLink RX0 47 "StoneWalk$Island" "things" "[LStoneWalk$Stone;") (List.mem_of_getElem? (i := 16) (by decide +kernel))) rfl (t := 2) rfl (congrArg (fun z : Option Nat => va_rf (z.map ad)) n6) dX0_init_253 ?_
  refine r_alen (t0 := 5) (v := 5) hx hb hK hP k7 (by decide) rfl rfl dX0_init_256 ?_
  refine lv_icmp_ge (tgt := 279) hx hb dX0_init_257 rfl (fun c => absurd c (by decide)) (fun _ => ?_)
  refine lv_aload_n hx hb dX0_init_260 rfl (lv_at hl 1 rfl) ?_
  refine r_get (T := TX0) (v := .ref (ad (b + 7))) hx hb hts in0 hown hK hP k0 (by decide) rfl 6 (by decide) (hts (.fieldLink RX0 47 "StoneWalk$Island" "things" "[LStoneWalk$Stone;") (List.mem_of_getElem? (i := 16) (by decide +kernel))) rfl (t := 2) rfl (congrArg (fun z : Option Nat => va_rf (z.map ad)) n6) dX0_init_261 ?_
  refine lv_iload_n hx hb dX0_init_264 rfl (lv_at hl 0 rfl) ?_
  refine r_new (T := TX5) (ci := 5) (o := b + 49) hx hb hts in5 tyX5 tyX5_ok hown (hts (.classLink RX0 23 RX5) (List.mem_of_getElem? (i := 8) (by decide +kernel))) (hts (.instantiable RX5 8) (List.mem_of_getElem? (i := 23) (by decide +kernel))) (hts (.initialized RX5) (List.mem_of_getElem? (i := 24) (by decide +kernel))) hP hK hD hT hS hA (by decide) rfl htop rfl (fun j hj => by rw [fv_z]; rcases (show j = 0 ∨ j = 1 ∨ j = 2 ∨ j = 3 ∨ j = 4 ∨ j = 5 ∨ j = 6 ∨ j = 7 by omega) with rfl | rfl | rfl | rfl | rfl | rfl | rfl | rfl <;> rfl) (fun _ => fv_e) (Nat.le_of_ble_eq_true rfl) (Nat.le_of_ble_eq_true rfl) (fun ad => [(1, .int 2), (0, .ref (ad b))]) hl (fun ad' hh => by simp only [hh _ k0.1]) (fun ad => [.int 2, .ref (ad (b + 7))]) (fun ad' hh => by simp only [hh _ k7.1]) rfl dX0_init_265 (fun ad H hh hP hD hT hS hl => ?_)
  have k0 := k0.up1 (k := 5) (n := 0) htop rfl
  have k1 := k1.up1 (k := 5) (n := 0) htop rfl
  have k2 := k2.up1 (k := 5) (n := 0) htop rfl
  have k3 := k3.up1 (k := 5) (n := 0) htop rfl
  have k4 := k4.up1 (k := 5) (n := 0) htop rfl
  have k5 := k5.up1 (k := 5) (n := 0) htop rfl
  have k6 := k6.up1 (k := 5) (n := 0) htop rfl
  have k7 := k7.up1 (k := 5) (n := 0) htop rfl
  have k8 := k8.up1 (k := 5) (n := 0) htop rfl
  have htop := htop.nw1 (k := 5) (n := 0) (o := (b + 49)) rfl
  have k41 := ok.nwt htop
  have n0 := (gR_z (o := (b + 49)) (by omega)).trans n0
  have n1 := (gR_z (o := (b + 49)) (by omega)).trans n1
  have n2 := (gR_z (o := (b + 49)) (by omega)).trans n2
  have n3 := (gR_z (o := (b + 49)) (by omega)).trans n3
  have n4 := (gR_z (o := (b + 49)) (by omega)).trans n4
  have n5 := (gR_z (o := (b + 49)) (by omega)).trans n5
  have n6 := (gR_z (o := (b + 49)) (by omega)).trans n6
  have n7 := (gR_z (o := (b + 49)) (by omega)).trans n7
  have hold := fun (y : Nat) hy => (hh y (hsub y hy)).trans (hold y hy)
  have hsub := fun (y : Nat) hy => gN_sub (o := b + 49) (k := 5) (n := 0) (hsub y hy)
  refine lv_dup hx hb dX0_init_268 rfl ?_
  refine k_n (va_runIN (As := []) (rest := [.ref (ad (b + 49)), .int 2, .ref (ad (b + 7))]) ⟨hx, hb, hml, hown, hts⟩ (c_X5_init (l := l) _ (b + 49) k41 htop) ⟨va_cnB 0 hts gX0_init_X5_init_n56 rfl rfl rfl (hG.2.1 ("StoneWalk$Island", 56, ⟨"StoneWalk$Stone", "<init>", "()V"⟩, "StoneWalk") (List.mem_of_getElem? (i := 5) rfl)) (hts (.initialized RX5) (List.mem_of_getElem? (i := 24) (by decide +kernel))) hdI_X5_init ⟨Nat.le_of_ble_eq_true rfl, Nat.le_of_ble_eq_true rfl⟩, rfl, (hts (.instanceMethod yX5_init) (List.mem_of_getElem? (i := 38) (by decide +kernel)))⟩ (pSA hP hK hD hT hG hS hA) rfl rfl hl.1 rfl (lv_room (Nat.le_of_ble_eq_true rfl)) dX0_init_269 ⟨Nat.le_of_ble_eq_true rfl, Nat.le_of_ble_eq_true rfl⟩) hS (fun ad => [(1, .int 2), (0, .ref (ad b))]) hl (fun ad' hh => by simp only [hh _ k0.1]) (fun ad => [.ref (ad (b + 49)), .int 2, .ref (ad (b + 7))]) (fun ad' hh => by simp only [hh _ k41.1, hh _ k7.1]) rfl (fun ad H locs hh hP hD hT htop1 hS hl => ?_)
  have hold := fun (y : Nat) hy => (hh y (hsub y hy)).trans (hold y hy)
  have htop := htop1
  refine r_aast (t0 := 5) hx hb hP hK hD hT hS k7 ⟨by decide, by decide, by decide, by decide⟩ rfl k41 (by decide) rfl (fun _ => rfl) rfl (i := 2) (by decide) dX0_init_272 (fun H locs hP hD hT hS => ?_)
  have n0 := (gR_p (a := (b + 7)) (j := ix 2) (v := some (b + 49)) (by omega)).trans n0
  have n1 := (gR_p (a := (b + 7)) (j := ix 2) (v := some (b + 49)) (by omega)).trans n1
  have n2 := (gR_p (a := (b + 7)) (j := ix 2) (v := some (b + 49)) (by omega)).trans n2
  have n3 := (gR_p (a := (b + 7)) (j := ix 2) (v := some (b + 49)) (by omega)).trans n3
  have n4 := (gR_p (a := (b + 7)) (j := ix 2) (v := some (b + 49)) (by omega)).trans n4
  have n5 := (gR_p (a := (b + 7)) (j := ix 2) (v := some (b + 49)) (by omega)).trans n5
  have n6 := (gR_p (a := (b + 7)) (j := ix 2) (v := some (b + 49)) (by omega)).trans n6
  have n7 := (gR_p (a := (b + 7)) (j := ix 2) (v := some (b + 49)) (by omega)).trans n7
  refine lv_iinc (v := 3) (lv' := [(1, .int 3), (0, .ref (ad b))]) hx hb dX0_init_273 hl (k := 0) rfl (by decide) (by decide) rfl (fun ls hl => ?_)
  refine lv_goto (tgt := 251) hx hb dX0_init_276 rfl ?_
  refine lv_iload_n hx hb dX0_init_251 rfl (lv_at hl 0 rfl) ?_
  refine lv_aload_n hx hb dX0_init_252 rfl (lv_at hl 1 rfl) ?_
  refine r_get (T := TX0) (v := .ref (ad (b + 7))) hx hb hts in0 hown hK hP k0 (by decide) rfl 6 (by decide) (hts (.fieldLink RX0 47 "StoneWalk$Island" "things" "[LStoneWalk$Stone;") (List.mem_of_getElem? (i := 16) (by decide +kernel))) rfl (t := 2) rfl (congrArg (fun z : Option Nat => va_rf (z.map ad)) n6) dX0_init_253 ?_
  refine r_alen (t0 := 5) (v := 5) hx hb hK hP k7 (by decide) rfl rfl dX0_init_256 ?_
  refine lv_icmp_ge (tgt := 279) hx hb dX0_init_257 rfl (fun c => absurd c (by decide)) (fun _ => ?_)
  refine lv_aload_n hx hb dX0_init_260 rfl (lv_at hl 1 rfl) ?_
  refine r_get (T := TX0) (v := .ref (ad (b + 7))) hx hb hts in0 hown hK hP k0 (by decide) rfl 6 (by decide) (hts (.fieldLink RX0 47 "StoneWalk$Island" "things" "[LStoneWalk$Stone;") (List.mem_of_getElem? (i := 16) (by decide +kernel))) rfl (t := 2) rfl (congrArg (fun z : Option Nat => va_rf (z.map ad)) n6) dX0_init_261 ?_
  refine lv_iload_n hx hb dX0_init_264 rfl (lv_at hl 0 rfl) ?_
  refine r_new (T := TX5) (ci := 5) (o := b + 50) hx hb hts in5 tyX5 tyX5_ok hown (hts (.classLink RX0 23 RX5) (List.mem_of_getElem? (i := 8) (by decide +kernel))) (hts (.instantiable RX5 8) (List.mem_of_getElem? (i := 23) (by decide +kernel))) (hts (.initialized RX5) (List.mem_of_getElem? (i := 24) (by decide +kernel))) hP hK hD hT hS hA (by decide) rfl htop rfl (fun j hj => by rw [fv_z]; rcases (show j = 0 ∨ j = 1 ∨ j = 2 ∨ j = 3 ∨ j = 4 ∨ j = 5 ∨ j = 6 ∨ j = 7 by omega) with rfl | rfl | rfl | rfl | rfl | rfl | rfl | rfl <;> rfl) (fun _ => fv_e) (Nat.le_of_ble_eq_true rfl) (Nat.le_of_ble_eq_true rfl) (fun ad => [(1, .int 3), (0, .ref (ad b))]) hl (fun ad' hh => by simp only [hh _ k0.1]) (fun ad => [.int 3, .ref (ad (b + 7))]) (fun ad' hh => by simp only [hh _ k7.1]) rfl dX0_init_265 (fun ad H hh hP hD hT hS hl => ?_)
  have k0 := k0.up1 (k := 5) (n := 0) htop rfl
  have k1 := k1.up1 (k := 5) (n := 0) htop rfl
  have k2 := k2.up1 (k := 5) (n := 0) htop rfl
  have k3 := k3.up1 (k := 5) (n := 0) htop rfl
  have k4 := k4.up1 (k := 5) (n := 0) htop rfl
  have k5 := k5.up1 (k := 5) (n := 0) htop rfl
  have k6 := k6.up1 (k := 5) (n := 0) htop rfl
  have k7 := k7.up1 (k := 5) (n := 0) htop rfl
  have k8 := k8.up1 (k := 5) (n := 0) htop rfl
  have htop := htop.nw1 (k := 5) (n := 0) (o := (b + 50)) rfl
  have k42 := ok.nwt htop
  have n0 := (gR_z (o := (b + 50)) (by omega)).trans n0
  have n1 := (gR_z (o := (b + 50)) (by omega)).trans n1
  have n2 := (gR_z (o := (b + 50)) (by omega)).trans n2
  have n3 := (gR_z (o := (b + 50)) (by omega)).trans n3
  have n4 := (gR_z (o := (b + 50)) (by omega)).trans n4
  have n5 := (gR_z (o := (b + 50)) (by omega)).trans n5
  have n6 := (gR_z (o := (b + 50)) (by omega)).trans n6
  have n7 := (gR_z (o := (b + 50)) (by omega)).trans n7
  have hold := fun (y : Nat) hy => (hh y (hsub y hy)).trans (hold y hy)
  have hsub := fun (y : Nat) hy => gN_sub (o := b + 50) (k := 5) (n := 0) (hsub y hy)
  refine lv_dup hx hb dX0_init_268 rfl ?_
  refine k_n (va_runIN (As := []) (rest := [.ref (ad (b + 50)), .int 3, .ref (ad (b + 7))]) ⟨hx, hb, hml, hown, hts⟩ (c_X5_init (l := l) _ (b + 50) k42 htop) ⟨va_cnB 0 hts gX0_init_X5_init_n56 rfl rfl rfl (hG.2.1 ("StoneWalk$Island", 56, ⟨"StoneWalk$Stone", "<init>", "()V"⟩, "StoneWalk") (List.mem_of_getElem? (i := 5) rfl)) (hts (.initialized RX5) (List.mem_of_getElem? (i := 24) (by decide +kernel))) hdI_X5_init ⟨Nat.le_of_ble_eq_true rfl, Nat.le_of_ble_eq_true rfl⟩, rfl, (hts (.instanceMethod yX5_init) (List.mem_of_getElem? (i := 38) (by decide +kernel)))⟩ (pSA hP hK hD hT hG hS hA) rfl rfl hl.1 rfl (lv_room (Nat.le_of_ble_eq_true rfl)) dX0_init_269 ⟨Nat.le_of_ble_eq_true rfl, Nat.le_of_ble_eq_true rfl⟩) hS (fun ad => [(1, .int 3), (0, .ref (ad b))]) hl (fun ad' hh => by simp only [hh _ k0.1]) (fun ad => [.ref (ad (b + 50)), .int 3, .ref (ad (b + 7))]) (fun ad' hh => by simp only [hh _ k42.1, hh _ k7.1]) rfl (fun ad H locs hh hP hD hT htop1 hS hl => ?_)
  have hold := fun (y : Nat) hy => (hh y (hsub y hy)).trans (hold y hy)
  have htop := htop1
  refine r_aast (t0 := 5) hx hb hP hK hD hT hS k7 ⟨by decide, by decide, by decide, by decide⟩ rfl k42 (by decide) rfl (fun _ => rfl) rfl (i := 3) (by decide) dX0_init_272 (fun H locs hP hD hT hS => ?_)
  have n0 := (gR_p (a := (b + 7)) (j := ix 3) (v := some (b + 50)) (by omega)).trans n0
  have n1 := (gR_p (a := (b + 7)) (j := ix 3) (v := some (b + 50)) (by omega)).trans n1
  have n2 := (gR_p (a := (b + 7)) (j := ix 3) (v := some (b + 50)) (by omega)).trans n2
  have n3 := (gR_p (a := (b + 7)) (j := ix 3) (v := some (b + 50)) (by omega)).trans n3
  have n4 := (gR_p (a := (b + 7)) (j := ix 3) (v := some (b + 50)) (by omega)).trans n4
  have n5 := (gR_p (a := (b + 7)) (j := ix 3) (v := some (b + 50)) (by omega)).trans n5
  have n6 := (gR_p (a := (b + 7)) (j := ix 3) (v := some (b + 50)) (by omega)).trans n6
  have n7 := (gR_p (a := (b + 7)) (j := ix 3) (v := some (b + 50)) (by omega)).trans n7
  refine lv_iinc (v := 4) (lv' := [(1, .int 4), (0, .ref (ad b))]) hx hb dX0_init_273 hl (k := 0) rfl (by decide) (by decide) rfl (fun ls hl => ?_)
  refine lv_goto (tgt := 251) hx hb dX0_init_276 rfl ?_
  refine lv_iload_n hx hb dX0_init_251 rfl (lv_at hl 0 rfl) ?_
  refine lv_aload_n hx hb dX0_init_252 rfl (lv_at hl 1 rfl) ?_
  refine r_get (T := TX0) (v := .ref (ad (b + 7))) hx hb hts in0 hown hK hP k0 (by decide) rfl 6 (by decide) (hts (.fieldLink RX0 47 "StoneWalk$Island" "things" "[LStoneWalk$Stone;") (List.mem_of_getElem? (i := 16) (by decide +kernel))) rfl (t := 2) rfl (congrArg (fun z : Option Nat => va_rf (z.map ad)) n6) dX0_init_253 ?_
  refine r_alen (t0 := 5) (v := 5) hx hb hK hP k7 (by decide) rfl rfl dX0_init_256 ?_
  refine lv_icmp_ge (tgt := 279) hx hb dX0_init_257 rfl (fun c => absurd c (by decide)) (fun _ => ?_)
  refine lv_aload_n hx hb dX0_init_260 rfl (lv_at hl 1 rfl) ?_
  refine r_get (T := TX0) (v := .ref (ad (b + 7))) hx hb hts in0 hown hK hP k0 (by decide) rfl 6 (by decide) (hts (.fieldLink RX0 47 "StoneWalk$Island" "things" "[LStoneWalk$Stone;") (List.mem_of_getElem? (i := 16) (by decide +kernel))) rfl (t := 2) rfl (congrArg (fun z : Option Nat => va_rf (z.map ad)) n6) dX0_init_261 ?_
  refine lv_iload_n hx hb dX0_init_264 rfl (lv_at hl 0 rfl) ?_
  refine r_new (T := TX5) (ci := 5) (o := b + 51) hx hb hts in5 tyX5 tyX5_ok hown (hts (.classLink RX0 23 RX5) (List.mem_of_getElem? (i := 8) (by decide +kernel))) (hts (.instantiable RX5 8) (List.mem_of_getElem? (i := 23) (by decide +kernel))) (hts (.initialized RX5) (List.mem_of_getElem? (i := 24) (by decide +kernel))) hP hK hD hT hS hA (by decide) rfl htop rfl (fun j hj => by rw [fv_z]; rcases (show j = 0 ∨ j = 1 ∨ j = 2 ∨ j = 3 ∨ j = 4 ∨ j = 5 ∨ j = 6 ∨ j = 7 by omega) with rfl | rfl | rfl | rfl | rfl | rfl | rfl | rfl <;> rfl) (fun _ => fv_e) (Nat.le_of_ble_eq_true rfl) (Nat.le_of_ble_eq_true rfl) (fun ad => [(1, .int 4), (0, .ref (ad b))]) hl (fun ad' hh => by simp only [hh _ k0.1]) (fun ad => [.int 4, .ref (ad (b + 7))]) (fun ad' hh => by simp only [hh _ k7.1]) rfl dX0_init_265 (fun ad H hh hP hD hT hS hl => ?_)
  have k0 := k0.up1 (k := 5) (n := 0) htop rfl
  have k1 := k1.up1 (k := 5) (n := 0) htop rfl
  have k2 := k2.up1 (k := 5) (n := 0) htop rfl
  have k3 := k3.up1 (k := 5) (n := 0) htop rfl
  have k4 := k4.up1 (k := 5) (n := 0) htop rfl
  have k5 := k5.up1 (k := 5) (n := 0) htop rfl
  have k6 := k6.up1 (k := 5) (n := 0) htop rfl
  have k7 := k7.up1 (k := 5) (n := 0) htop rfl
  have k8 := k8.up1 (k := 5) (n := 0) htop rfl
  have htop := htop.nw1 (k := 5) (n := 0) (o := (b + 51)) rfl
  have k43 := ok.nwt htop
  have n0 := (gR_z (o := (b + 51)) (by omega)).trans n0
  have n1 := (gR_z (o := (b + 51)) (by omega)).trans n1
  have n2 := (gR_z (o := (b + 51)) (by omega)).trans n2
  have n3 := (gR_z (o := (b + 51)) (by omega)).trans n3
  have n4 := (gR_z (o := (b + 51)) (by omega)).trans n4
  have n5 := (gR_z (o := (b + 51)) (by omega)).trans n5
  have n6 := (gR_z (o := (b + 51)) (by omega)).trans n6
  have n7 := (gR_z (o := (b + 51)) (by omega)).trans n7
  have hold := fun (y : Nat) hy => (hh y (hsub y hy)).trans (hold y hy)
  have hsub := fun (y : Nat) hy => gN_sub (o := b + 51) (k := 5) (n := 0) (hsub y hy)
  refine lv_dup hx hb dX0_init_268 rfl ?_
  refine k_n (va_runIN (As := []) (rest := [.ref (ad (b + 51)), .int 4, .ref (ad (b + 7))]) ⟨hx, hb, hml, hown, hts⟩ (c_X5_init (l := l) _ (b + 51) k43 htop) ⟨va_cnB 0 hts gX0_init_X5_init_n56 rfl rfl rfl (hG.2.1 ("StoneWalk$Island", 56, ⟨"StoneWalk$Stone", "<init>", "()V"⟩, "StoneWalk") (List.mem_of_getElem? (i := 5) rfl)) (hts (.initialized RX5) (List.mem_of_getElem? (i := 24) (by decide +kernel))) hdI_X5_init ⟨Nat.le_of_ble_eq_true rfl, Nat.le_of_ble_eq_true rfl⟩, rfl, (hts (.instanceMethod yX5_init) (List.mem_of_getElem? (i := 38) (by decide +kernel)))⟩ (pSA hP hK hD hT hG hS hA) rfl rfl hl.1 rfl (lv_room (Nat.le_of_ble_eq_true rfl)) dX0_init_269 ⟨Nat.le_of_ble_eq_true rfl, Nat.le_of_ble_eq_true rfl⟩) hS (fun ad => [(1, .int 4), (0, .ref (ad b))]) hl (fun ad' hh => by simp only [hh _ k0.1]) (fun ad => [.ref (ad (b + 51)), .int 4, .ref (ad (b + 7))]) (fun ad' hh => by simp only [hh _ k43.1, hh _ k7.1]) rfl (fun ad H locs hh hP hD hT htop1 hS hl => ?_)
  have hold := fun (y : Nat) hy => (hh y (hsub y hy)).trans (hold y hy)
  have htop := htop1
  refine r_aast (t0 := 5) hx hb hP hK hD hT hS k7 ⟨by decide, by decide, by decide, by decide⟩ rfl k43 (by decide) rfl (fun _ => rfl) rfl (i := 4) (by decide) dX0_init_272 (fun H locs hP hD hT hS => ?_)
  have n0 := (gR_p (a := (b + 7)) (j := ix 4) (v := some (b + 51)) (by omega)).trans n0
  have n1 := (gR_p (a := (b + 7)) (j := ix 4) (v := some (b + 51)) (by omega)).trans n1
  have n2 := (gR_p (a := (b + 7)) (j := ix 4) (v := some (b + 51)) (by omega)).trans n2
  have n3 := (gR_p (a := (b + 7)) (j := ix 4) (v := some (b + 51)) (by omega)).trans n3
  have n4 := (gR_p (a := (b + 7)) (j := ix 4) (v := some (b + 51)) (by omega)).trans n4
  have n5 := (gR_p (a := (b + 7)) (j := ix 4) (v := some (b + 51)) (by omega)).trans n5
  have n6 := (gR_p (a := (b + 7)) (j := ix 4) (v := some (b + 51)) (by omega)).trans n6
  have n7 := (gR_p (a := (b + 7)) (j := ix 4) (v := some (b + 51)) (by omega)).trans n7
  refine lv_iinc (v := 5) (lv' := [(1, .int 5), (0, .ref (ad b))]) hx hb dX0_init_273 hl (k := 0) rfl (by decide) (by decide) rfl (fun ls hl => ?_)
  refine lv_goto (tgt := 251) hx hb dX0_init_276 rfl ?_
  refine lv_iload_n hx hb dX0_init_251 rfl (lv_at hl 0 rfl) ?_
  refine lv_aload_n hx hb dX0_init_252 rfl (lv_at hl 1 rfl) ?_
  refine r_get (T := TX0) (v := .ref (ad (b + 7))) hx hb hts in0 hown hK hP k0 (by decide) rfl 6 (by decide) (hts (.fieldLink RX0 47 "StoneWalk$Island" "things" "[LStoneWalk$Stone;") (List.mem_of_getElem? (i := 16) (by decide +kernel))) rfl (t := 2) rfl (congrArg (fun z : Option Nat => va_rf (z.map ad)) n6) dX0_init_253 ?_
  refine r_alen (t0 := 5) (v := 5) hx hb hK hP k7 (by decide) rfl rfl dX0_init_256 ?_
  refine lv_icmp_ge (tgt := 279) hx hb dX0_init_257 rfl (fun _ => ?_) (fun c => absurd (by decide) c)
  refine W.widen (k := 51) (n := 760) (Nat.le_of_ble_eq_true rfl) (Nat.le_of_ble_eq_true rfl) ?_
  exact r_nret hx hb hr hlocks hP hK hD hT hG hS hold htop rfl rfl dX0_init_279
