theorem hdV_X13_restore : yX13_restore.cls = RX13 ∧ yX13_restore.cls ≠ "java/lang/invoke/MethodHandle" ∧ yX13_restore.cls ≠ "java/lang/invoke/VarHandle" ∧ (parseMethodDescriptor yX13_restore.desc).map (fun d => d.parameters.length) = some 1 := by decide +kernel
theorem hdV_X13_meanLean : yX13_meanLean.cls = RX13 ∧ yX13_meanLean.cls ≠ "java/lang/invoke/MethodHandle" ∧ yX13_meanLean.cls ≠ "java/lang/invoke/VarHandle" ∧ (parseMethodDescriptor yX13_meanLean.desc).map (fun d => d.parameters.length) = some 2 := by decide +kernel
theorem hdV_X13_shapeOf : yX13_shapeOf.cls = RX13 ∧ yX13_shapeOf.cls ≠ "java/lang/invoke/MethodHandle" ∧ yX13_shapeOf.cls ≠ "java/lang/invoke/VarHandle" ∧ (parseMethodDescriptor yX13_shapeOf.desc).map (fun d => d.parameters.length) = some 2 := by decide +kernel
theorem hdV_X13_hollowOf : yX13_hollowOf.cls = RX13 ∧ yX13_hollowOf.cls ≠ "java/lang/invoke/MethodHandle" ∧ yX13_hollowOf.cls ≠ "java/lang/invoke/VarHandle" ∧ (parseMethodDescriptor yX13_hollowOf.desc).map (fun d => d.parameters.length) = some 2 := by decide +kernel
theorem hdV_X13_toldOf : yX13_toldOf.cls = RX13 ∧ yX13_toldOf.cls ≠ "java/lang/invoke/MethodHandle" ∧ yX13_toldOf.cls ≠ "java/lang/invoke/VarHandle" ∧ (parseMethodDescriptor yX13_toldOf.desc).map (fun d => d.parameters.length) = some 2 := by decide +kernel
theorem hdV_X13_liesBy : yX13_liesBy.cls = RX13 ∧ yX13_liesBy.cls ≠ "java/lang/invoke/MethodHandle" ∧ yX13_liesBy.cls ≠ "java/lang/invoke/VarHandle" ∧ (parseMethodDescriptor yX13_liesBy.desc).map (fun d => d.parameters.length) = some 2 := by decide +kernel
theorem hdV_X13_oddsOf : yX13_oddsOf.cls = RX13 ∧ yX13_oddsOf.cls ≠ "java/lang/invoke/MethodHandle" ∧ yX13_oddsOf.cls ≠ "java/lang/invoke/VarHandle" ∧ (parseMethodDescriptor yX13_oddsOf.desc).map (fun d => d.parameters.length) = some 2 := by decide +kernel
theorem hdV_X13_odds : yX13_odds.cls = RX13 ∧ yX13_odds.cls ≠ "java/lang/invoke/MethodHandle" ∧ yX13_odds.cls ≠ "java/lang/invoke/VarHandle" ∧ (parseMethodDescriptor yX13_odds.desc).map (fun d => d.parameters.length) = some 1 := by decide +kernel
theorem hdV_X13_likeliestOf : yX13_likeliestOf.cls = RX13 ∧ yX13_likeliestOf.cls ≠ "java/lang/invoke/MethodHandle" ∧ yX13_likeliestOf.cls ≠ "java/lang/invoke/VarHandle" ∧ (parseMethodDescriptor yX13_likeliestOf.desc).map (fun d => d.parameters.length) = some 1 := by decide +kernel
theorem hdV_X13_likeliest : yX13_likeliest.cls = RX13 ∧ yX13_likeliest.cls ≠ "java/lang/invoke/MethodHandle" ∧ yX13_likeliest.cls ≠ "java/lang/invoke/VarHandle" ∧ (parseMethodDescriptor yX13_likeliest.desc).map (fun d => d.parameters.length) = some 0 := by decide +kernel
theorem hdV_X13_lies : yX13_lies.cls = RX13 ∧ yX13_lies.cls ≠ "java/lang/invoke/MethodHandle" ∧ yX13_lies.cls ≠ "java/lang/invoke/VarHandle" ∧ (parseMethodDescriptor yX13_lies.desc).map (fun d => d.parameters.length) = some 2 := by decide +kernel
theorem hdV_X13_hollow : yX13_hollow.cls = RX13 ∧ yX13_hollow.cls ≠ "java/lang/invoke/MethodHandle" ∧ yX13_hollow.cls ≠ "java/lang/invoke/VarHandle" ∧ (parseMethodDescriptor yX13_hollow.desc).map (fun d => d.parameters.length) = some 2 := by decide +kernel
theorem hdV_X13_shape : yX13_shape.cls = RX13 ∧ yX13_shape.cls ≠ "java/lang/invoke/MethodHandle" ∧ yX13_shape.cls ≠ "java/lang/invoke/VarHandle" ∧ (parseMethodDescriptor yX13_shape.desc).map (fun d => d.parameters.length) = some 1 := by decide +kernel
theorem hdV_X13_changed : yX13_changed.cls = RX13 ∧ yX13_changed.cls ≠ "java/lang/invoke/MethodHandle" ∧ yX13_changed.cls ≠ "java/lang/invoke/VarHandle" ∧ (parseMethodDescriptor yX13_changed.desc).map (fun d => d.parameters.length) = some 0 := by decide +kernel
theorem hdV_X13_told : yX13_told.cls = RX13 ∧ yX13_told.cls ≠ "java/lang/invoke/MethodHandle" ∧ yX13_told.cls ≠ "java/lang/invoke/VarHandle" ∧ (parseMethodDescriptor yX13_told.desc).map (fun d => d.parameters.length) = some 2 := by decide +kernel
theorem hdV_X13_turn : yX13_turn.cls = RX13 ∧ yX13_turn.cls ≠ "java/lang/invoke/MethodHandle" ∧ yX13_turn.cls ≠ "java/lang/invoke/VarHandle" ∧ (parseMethodDescriptor yX13_turn.desc).map (fun d => d.parameters.length) = some 2 := by decide +kernel
theorem hdV_X13_hangs : yX13_hangs.cls = RX13 ∧ yX13_hangs.cls ≠ "java/lang/invoke/MethodHandle" ∧ yX13_hangs.cls ≠ "java/lang/invoke/VarHandle" ∧ (parseMethodDescriptor yX13_hangs.desc).map (fun d => d.parameters.length) = some 0 := by decide +kernel
theorem hdV_X13_tryout : yX13_tryout.cls = RX13 ∧ yX13_tryout.cls ≠ "java/lang/invoke/MethodHandle" ∧ yX13_tryout.cls ≠ "java/lang/invoke/VarHandle" ∧ (parseMethodDescriptor yX13_tryout.desc).map (fun d => d.parameters.length) = some 0 := by decide +kernel
theorem hdV_X13_people : yX13_people.cls = RX13 ∧ yX13_people.cls ≠ "java/lang/invoke/MethodHandle" ∧ yX13_people.cls ≠ "java/lang/invoke/VarHandle" ∧ (parseMethodDescriptor yX13_people.desc).map (fun d => d.parameters.length) = some 3 := by decide +kernel
theorem hdV_X13_takes : yX13_takes.cls = RX13 ∧ yX13_takes.cls ≠ "java/lang/invoke/MethodHandle" ∧ yX13_takes.cls ≠ "java/lang/invoke/VarHandle" ∧ (parseMethodDescriptor yX13_takes.desc).map (fun d => d.parameters.length) = some 3 := by decide +kernel
theorem hdV_X13_off : yX13_off.cls = RX13 ∧ yX13_off.cls ≠ "java/lang/invoke/MethodHandle" ∧ yX13_off.cls ≠ "java/lang/invoke/VarHandle" ∧ (parseMethodDescriptor yX13_off.desc).map (fun d => d.parameters.length) = some 1 := by decide +kernel
theorem hdV_X13_woodBy : yX13_woodBy.cls = RX13 ∧ yX13_woodBy.cls ≠ "java/lang/invoke/MethodHandle" ∧ yX13_woodBy.cls ≠ "java/lang/invoke/VarHandle" ∧ (parseMethodDescriptor yX13_woodBy.desc).map (fun d => d.parameters.length) = some 1 := by decide +kernel
theorem hdV_X13_wood : yX13_wood.cls = RX13 ∧ yX13_wood.cls ≠ "java/lang/invoke/MethodHandle" ∧ yX13_wood.cls ≠ "java/lang/invoke/VarHandle" ∧ (parseMethodDescriptor yX13_wood.desc).map (fun d => d.parameters.length) = some 1 := by decide +kernel
theorem hdV_X13_enough : yX13_enough.cls = RX13 ∧ yX13_enough.cls ≠ "java/lang/invoke/MethodHandle" ∧ yX13_enough.cls ≠ "java/lang/invoke/VarHandle" ∧ (parseMethodDescriptor yX13_enough.desc).map (fun d => d.parameters.length) = some 1 := by decide +kernel
theorem hdV_X13_treesAfter : yX13_treesAfter.cls = RX13 ∧ yX13_treesAfter.cls ≠ "java/lang/invoke/MethodHandle" ∧ yX13_treesAfter.cls ≠ "java/lang/invoke/VarHandle" ∧ (parseMethodDescriptor yX13_treesAfter.desc).map (fun d => d.parameters.length) = some 3 := by decide +kernel
theorem hdV_X13_treesIn : yX13_treesIn.cls = RX13 ∧ yX13_treesIn.cls ≠ "java/lang/invoke/MethodHandle" ∧ yX13_treesIn.cls ≠ "java/lang/invoke/VarHandle" ∧ (parseMethodDescriptor yX13_treesIn.desc).map (fun d => d.parameters.length) = some 2 := by decide +kernel
theorem hdV_X13_trees : yX13_trees.cls = RX13 ∧ yX13_trees.cls ≠ "java/lang/invoke/MethodHandle" ∧ yX13_trees.cls ≠ "java/lang/invoke/VarHandle" ∧ (parseMethodDescriptor yX13_trees.desc).map (fun d => d.parameters.length) = some 2 := by decide +kernel
theorem hdV_X13_see : yX13_see.cls = RX13 ∧ yX13_see.cls ≠ "java/lang/invoke/MethodHandle" ∧ yX13_see.cls ≠ "java/lang/invoke/VarHandle" ∧ (parseMethodDescriptor yX13_see.desc).map (fun d => d.parameters.length) = some 3 := by decide +kernel
theorem hdV_X13_forget : yX13_forget.cls = RX13 ∧ yX13_forget.cls ≠ "java/lang/invoke/MethodHandle" ∧ yX13_forget.cls ≠ "java/lang/invoke/VarHandle" ∧ (parseMethodDescriptor yX13_forget.desc).map (fun d => d.parameters.length) = some 0 := by decide +kernel
theorem hdV_X13_isFit : yX13_isFit.cls = RX13 ∧ yX13_isFit.cls ≠ "java/lang/invoke/MethodHandle" ∧ yX13_isFit.cls ≠ "java/lang/invoke/VarHandle" ∧ (parseMethodDescriptor yX13_isFit.desc).map (fun d => d.parameters.length) = some 1 := by decide +kernel
theorem hdV_X13_fitting : yX13_fitting.cls = RX13 ∧ yX13_fitting.cls ≠ "java/lang/invoke/MethodHandle" ∧ yX13_fitting.cls ≠ "java/lang/invoke/VarHandle" ∧ (parseMethodDescriptor yX13_fitting.desc).map (fun d => d.parameters.length) = some 0 := by decide +kernel
theorem hdV_X13_fits : yX13_fits.cls = RX13 ∧ yX13_fits.cls ≠ "java/lang/invoke/MethodHandle" ∧ yX13_fits.cls ≠ "java/lang/invoke/VarHandle" ∧ (parseMethodDescriptor yX13_fits.desc).map (fun d => d.parameters.length) = some 0 := by decide +kernel
theorem hdV_X13_weight : yX13_weight.cls = RX13 ∧ yX13_weight.cls ≠ "java/lang/invoke/MethodHandle" ∧ yX13_weight.cls ≠ "java/lang/invoke/VarHandle" ∧ (parseMethodDescriptor yX13_weight.desc).map (fun d => d.parameters.length) = some 0 := by decide +kernel
theorem hdV_X13_gone : yX13_gone.cls = RX13 ∧ yX13_gone.cls ≠ "java/lang/invoke/MethodHandle" ∧ yX13_gone.cls ≠ "java/lang/invoke/VarHandle" ∧ (parseMethodDescriptor yX13_gone.desc).map (fun d => d.parameters.length) = some 1 := by decide +kernel
theorem hdV_X13_dig : yX13_dig.cls = RX13 ∧ yX13_dig.cls ≠ "java/lang/invoke/MethodHandle" ∧ yX13_dig.cls ≠ "java/lang/invoke/VarHandle" ∧ (parseMethodDescriptor yX13_dig.desc).map (fun d => d.parameters.length) = some 0 := by decide +kernel
theorem hdV_X13_lived : yX13_lived.cls = RX13 ∧ yX13_lived.cls ≠ "java/lang/invoke/MethodHandle" ∧ yX13_lived.cls ≠ "java/lang/invoke/VarHandle" ∧ (parseMethodDescriptor yX13_lived.desc).map (fun d => d.parameters.length) = some 1 := by decide +kernel
theorem hdV_X13_led : yX13_led.cls = RX13 ∧ yX13_led.cls ≠ "java/lang/invoke/MethodHandle" ∧ yX13_led.cls ≠ "java/lang/invoke/VarHandle" ∧ (parseMethodDescriptor yX13_led.desc).map (fun d => d.parameters.length) = some 2 := by decide +kernel
theorem hdV_X13_size : yX13_size.cls = RX13 ∧ yX13_size.cls ≠ "java/lang/invoke/MethodHandle" ∧ yX13_size.cls ≠ "java/lang/invoke/VarHandle" ∧ (parseMethodDescriptor yX13_size.desc).map (fun d => d.parameters.length) = some 1 := by decide +kernel
theorem hdV_X13_statue : yX13_statue.cls = RX13 ∧ yX13_statue.cls ≠ "java/lang/invoke/MethodHandle" ∧ yX13_statue.cls ≠ "java/lang/invoke/VarHandle" ∧ (parseMethodDescriptor yX13_statue.desc).map (fun d => d.parameters.length) = some 2 := by decide +kernel
theorem hdV_X13_trouble : yX13_trouble.cls = RX13 ∧ yX13_trouble.cls ≠ "java/lang/invoke/MethodHandle" ∧ yX13_trouble.cls ≠ "java/lang/invoke/VarHandle" ∧ (parseMethodDescriptor yX13_trouble.desc).map (fun d => d.parameters.length) = some 0 := by decide +kernel
set_option maxHeartbeats 4000000 in
set_option maxRecDepth 100000 in
theorem c_X13_restore {l : Launch} {D : va_G} {ad : Nat → Nat} {cy : Nat → ClassId} {A : Nat → Prop} {g : CG} {q : SE} (M : MM) (a0 : Nat) (x1 : Int64) (k0 : ok g a0 13 0) {Z : (Int32 × MM)} (h : f_X13_restore M a0 x1 = some Z) : Met l yX13_restore wsX13_restore ({ frames := 2, cells := 0, slots := 0, locals := 42 }) (va_Pc [.ref (ad a0), .long x1] (Wd D ad cy A g q M)) (va_Qi (fun r u => r = Z.1 ∧ u = Z.2 ∧ zb r) (Wd D ad cy A g q) A) 0 0 A := by
  refine Met.ofW (cc := cX13_restore) (maxL := 14) (ret := (some .boolean)) (by decide) rfl ?_
  intro p e s m args below meth c s₁ B hml hv
  obtain ⟨rfl, hP, hK, hD, hT, hG⟩ := hv
  have hx := B.exec
  have hb := B.bytes
  have hr := B.returns
  have hts := atoms_spec (ws := wsX13_restore) B.pre
  have hown : s.vm.findClass RX13 = some m.cls := findClass_of_methodNamed B.named
  have hlocks := B.notSynchronized
  have in12 : ∀ w ∈ u_ws RX12 TX12 48, w ∈ wsX13_restore := fun w h => List.mem_cons_of_mem _ (List.mem_append_right _ h)
  have in13 : ∀ w ∈ u_ws RX13 TX13 29, w ∈ wsX13_restore := fun w h => List.mem_cons_of_mem _ (List.mem_append_left _ (List.mem_append_right _ h))
  have hS : va_S A s.heap s.heap [] := va_S.rf
  have hl := lv_entry ([.ref (ad a0), .long x1]) (n := 14) (Nat.le_of_ble_eq_true rfl)
  rw [lg_entry_eq]
  generalize (lg_sl ([.ref (ad a0), .long x1]) ++ List.replicate (14 - (lg_sl ([.ref (ad a0), .long x1])).length) Slot.unset).toArray = ls at hl ⊢
  have hl : lv_has ls 14 [(0, .ref (ad a0)), (1, .long x1)] := hl
  unfold f_X13_restore at h
  refine lv_aload_n hx hb dX13_restore_0 rfl (lv_at hl 0 rfl) ?_
  refine lv_iconst (v := 0) hx hb dX13_restore_1 rfl ?_
  refine r_putI (T := TX13) (ty := .int) (v := 0) hx hb hts in13 tyX13 tyX13_ok nmX13 hown hK hP hD hT hS k0 (by decide) rfl 0 (by decide) (hts (.fieldLink RX13 30 "StoneWalkModel" "thrown" "I") (List.mem_of_getElem? (i := 1) (by decide +kernel))) rfl rfl (tyX13_ok 0 (by decide)) rfl rfl rfl dX13_restore_2 (fun H locs hP hD hT hS => ?_)
  generalize pI M a0 0 0 = Mg1 at h hP hD hT ⊢
  refine lv_aload_n hx hb dX13_restore_5 rfl (lv_at hl 0 rfl) ?_
  rcases hN1 : gR Mg1 a0 3 with _ | b1
  · replace h := oc_n hN1 h
    refine r_get (T := TX13) (v := .null) hx hb hts in13 hown hK hP k0 (by decide) rfl 3 (by decide) (hts (.fieldLink RX13 431 "StoneWalkModel" "island" "LStoneWalkModel$Island;") (List.mem_of_getElem? (i := 2) (by decide +kernel))) rfl (t := 2) rfl (by show va_rf _ = _; rw [hN1]; rfl) dX13_restore_6 ?_
    refine lv_ifnonnullN hx hb dX13_restore_9 ?_
    refine lv_aload_n hx hb dX13_restore_12 rfl (lv_at hl 0 rfl) ?_
    refine lv_iconst (v := 1) hx hb dX13_restore_13 rfl ?_
    obtain ⟨z2, h2, h⟩ := ob_some h
    refine k_z (va_runV (As := [.int 1]) (rest := []) ⟨hx, hb, hml, hown, hts⟩ (c_X13_denied (l := l) Mg1 a0 1 k0 h2) (cwV 1 hts gX13_restore_X13_denied rfl rfl rfl hdV_X13_denied ⟨Nat.le_of_ble_eq_true rfl, Nat.le_of_ble_eq_true rfl⟩) (pV (T := TX13) hP hK hD hT hG hS k0 (by decide) rfl) rfl rfl hl.1 rfl (lv_room (Nat.le_of_ble_eq_true rfl)) dX13_restore_14 ⟨Nat.zero_le _, Nat.zero_le _⟩) hS (fun H locs hz2 hP hD hT hS => ?_)
    have hZ := Option.some.inj h
    have hZ1 := congrArg Prod.fst hZ
    have hZ2 := congrArg Prod.snd hZ
    exact r_zret hx hb hr hlocks hP hK hD hT hG hS hz2 hZ1 hZ2 dX13_restore_17
  · replace h := oc_s hN1 h
    have kb1 := hT.f k0 (k := 3) (t := 12) (n := 0) rfl hN1
    refine r_get (T := TX13) (v := .ref (ad b1)) hx hb hts in13 hown hK hP k0 (by decide) rfl 3 (by decide) (hts (.fieldLink RX13 431 "StoneWalkModel" "island" "LStoneWalkModel$Island;") (List.mem_of_getElem? (i := 2) (by decide +kernel))) rfl (t := 2) rfl (by show va_rf _ = _; rw [hN1]; rfl) dX13_restore_6 ?_
    refine lv_ifnonnull (tgt := 18) hx hb dX13_restore_9 rfl ?_
    refine lv_lload_n hx hb dX13_restore_18 rfl (lv_at hl 1 rfl) ?_
    refine lv_lconst (v := 0) hx hb dX13_restore_19 rfl ?_
    refine W.lcmp hx hb dX13_restore_20 ?_
    refine lv_if_ge (tgt := 30) hx hb dX13_restore_21 rfl (fun c3 => ?_) (fun c3 => ?_)
    · replace h := ite_t c3 h
      refine lv_lload_n hx hb dX13_restore_30 rfl (lv_at hl 1 rfl) ?_
      refine lv_lstore_n (lv' := [(3, .long x1), (0, .ref (ad a0)), (1, .long x1)]) hx hb dX13_restore_31 rfl hl (by decide) rfl (fun ls hl => ?_)
      refine lv_lload_n hx hb dX13_restore_32 rfl (lv_at hl 0 rfl) ?_
      refine lv_ldc2 hx hb hown (hts (.constantLong RX13 539 (201)) (List.mem_of_getElem? (i := 3) (by decide +kernel))) dX13_restore_33 ?_
      refine lv_lrem hx hb dX13_restore_36 (by decide) ?_
      refine lv_l2i hx hb dX13_restore_37 rfl ?_
      refine lv_istore (lv' := [(5, .int ((x1 - x1 / 201 * 201).toInt32)), (3, .long x1), (0, .ref (ad a0)), (1, .long x1)]) hx hb dX13_restore_38 hl (by decide) rfl (fun ls hl => ?_)
      refine lv_lload_n hx hb dX13_restore_40 rfl (lv_at hl 1 rfl) ?_
      refine lv_ldc2 hx hb hown (hts (.constantLong RX13 539 (201)) (List.mem_of_getElem? (i := 3) (by decide +kernel))) dX13_restore_41 ?_
      refine lv_ldiv hx hb dX13_restore_44 (by decide) ?_
      refine lv_lstore_n (lv' := [(3, .long (x1 / 201)), (5, .int ((x1 - x1 / 201 * 201).toInt32)), (0, .ref (ad a0)), (1, .long x1)]) hx hb dX13_restore_45 rfl hl (by decide) rfl (fun ls hl => ?_)
      refine lv_lload_n hx hb dX13_restore_46 rfl (lv_at hl 0 rfl) ?_
      refine lv_ldc2 hx hb hown (hts (.constantLong RX13 537 (3)) (List.mem_of_getElem? (i := 4) (by decide +kernel))) dX13_restore_47 ?_
      refine lv_lrem hx hb dX13_restore_50 (by decide) ?_
      refine lv_l2i hx hb dX13_restore_51 rfl ?_
      refine lv_istore (lv' := [(6, .int (((x1 / 201) - (x1 / 201) / 3 * 3).toInt32)), (3, .long (x1 / 201)), (5, .int ((x1 - x1 / 201 * 201).toInt32)), (0, .ref (ad a0)), (1, .long x1)]) hx hb dX13_restore_52 hl (by decide) rfl (fun ls hl => ?_)
      refine lv_lload_n hx hb dX13_restore_54 rfl (lv_at hl 1 rfl) ?_
      refine lv_ldc2 hx hb hown (hts (.constantLong RX13 537 (3)) (List.mem_of_getElem? (i := 4) (by decide +kernel))) dX13_restore_55 ?_
      refine lv_ldiv hx hb dX13_restore_58 (by decide) ?_
      refine lv_lstore_n (lv' := [(3, .long ((x1 / 201) / 3)), (6, .int (((x1 / 201) - (x1 / 201) / 3 * 3).toInt32)), (5, .int ((x1 - x1 / 201 * 201).toInt32)), (0, .ref (ad a0)), (1, .long x1)]) hx hb dX13_restore_59 rfl hl (by decide) rfl (fun ls hl => ?_)
      refine lv_lload_n hx hb dX13_restore_60 rfl (lv_at hl 0 rfl) ?_
      refine lv_ldc2 hx hb hown (hts (.constantLong RX13 533 (4)) (List.mem_of_getElem? (i := 5) (by decide +kernel))) dX13_restore_61 ?_
      refine lv_lrem hx hb dX13_restore_64 (by decide) ?_
      refine lv_l2i hx hb dX13_restore_65 rfl ?_
      refine lv_istore (lv' := [(7, .int ((((x1 / 201) / 3) - ((x1 / 201) / 3) / 4 * 4).toInt32)), (3, .long ((x1 / 201) / 3)), (6, .int (((x1 / 201) - (x1 / 201) / 3 * 3).toInt32)), (5, .int ((x1 - x1 / 201 * 201).toInt32)), (0, .ref (ad a0)), (1, .long x1)]) hx hb dX13_restore_66 hl (by decide) rfl (fun ls hl => ?_)
      refine lv_lload_n hx hb dX13_restore_68 rfl (lv_at hl 1 rfl) ?_
      refine lv_ldc2 hx hb hown (hts (.constantLong RX13 533 (4)) (List.mem_of_getElem? (i := 5) (by decide +kernel))) dX13_restore_69 ?_
      refine lv_ldiv hx hb dX13_restore_72 (by decide) ?_
      refine lv_lstore_n (lv' := [(3, .long (((x1 / 201) / 3) / 4)), (7, .int ((((x1 / 201) / 3) - ((x1 / 201) / 3) / 4 * 4).toInt32)), (6, .int (((x1 / 201) - (x1 / 201) / 3 * 3).toInt32)), (5, .int ((x1 - x1 / 201 * 201).toInt32)), (0, .ref (ad a0)), (1, .long x1)]) hx hb dX13_restore_73 rfl hl (by decide) rfl (fun ls hl => ?_)
      refine lv_lload_n hx hb dX13_restore_74 rfl (lv_at hl 0 rfl) ?_
      refine lv_ldc2 hx hb hown (hts (.constantLong RX13 535 (10)) (List.mem_of_getElem? (i := 6) (by decide +kernel))) dX13_restore_75 ?_
      refine lv_lrem hx hb dX13_restore_78 (by decide) ?_
      refine lv_l2i hx hb dX13_restore_79 rfl ?_
      refine lv_istore (lv' := [(8, .int (((((x1 / 201) / 3) / 4) - (((x1 / 201) / 3) / 4) / 10 * 10).toInt32)), (3, .long (((x1 / 201) / 3) / 4)), (7, .int ((((x1 / 201) / 3) - ((x1 / 201) / 3) / 4 * 4).toInt32)), (6, .int (((x1 / 201) - (x1 / 201) / 3 * 3).toInt32)), (5, .int ((x1 - x1 / 201 * 201).toInt32)), (0, .ref (ad a0)), (1, .long x1)]) hx hb dX13_restore_80 hl (by decide) rfl (fun ls hl => ?_)
      refine lv_lload_n hx hb dX13_restore_82 rfl (lv_at hl 1 rfl) ?_
      refine lv_ldc2 hx hb hown (hts (.constantLong RX13 535 (10)) (List.mem_of_getElem? (i := 6) (by decide +kernel))) dX13_restore_83 ?_
      refine lv_ldiv hx hb dX13_restore_86 (by decide) ?_
      refine lv_lstore_n (lv' := [(3, .long ((((x1 / 201) / 3) / 4) / 10)), (8, .int (((((x1 / 201) / 3) / 4) - (((x1 / 201) / 3) / 4) / 10 * 10).toInt32)), (7, .int ((((x1 / 201) / 3) - ((x1 / 201) / 3) / 4 * 4).toInt32)), (6, .int (((x1 / 201) - (x1 / 201) / 3 * 3).toInt32)), (5, .int ((x1 - x1 / 201 * 201).toInt32)), (0, .ref (ad a0)), (1, .long x1)]) hx hb dX13_restore_87 rfl hl (by decide) rfl (fun ls hl => ?_)
      refine lv_lload_n hx hb dX13_restore_88 rfl (lv_at hl 0 rfl) ?_
      refine lv_ldc2 hx hb hown (hts (.constantLong RX13 533 (4)) (List.mem_of_getElem? (i := 5) (by decide +kernel))) dX13_restore_89 ?_
      refine lv_lrem hx hb dX13_restore_92 (by decide) ?_
      refine lv_l2i hx hb dX13_restore_93 rfl ?_
      refine lv_istore (lv' := [(9, .int ((((((x1 / 201) / 3) / 4) / 10) - ((((x1 / 201) / 3) / 4) / 10) / 4 * 4).toInt32)), (3, .long ((((x1 / 201) / 3) / 4) / 10)), (8, .int (((((x1 / 201) / 3) / 4) - (((x1 / 201) / 3) / 4) / 10 * 10).toInt32)), (7, .int ((((x1 / 201) / 3) - ((x1 / 201) / 3) / 4 * 4).toInt32)), (6, .int (((x1 / 201) - (x1 / 201) / 3 * 3).toInt32)), (5, .int ((x1 - x1 / 201 * 201).toInt32)), (0, .ref (ad a0)), (1, .long x1)]) hx hb dX13_restore_94 hl (by decide) rfl (fun ls hl => ?_)
      refine lv_lload_n hx hb dX13_restore_96 rfl (lv_at hl 1 rfl) ?_
      refine lv_ldc2 hx hb hown (hts (.constantLong RX13 533 (4)) (List.mem_of_getElem? (i := 5) (by decide +kernel))) dX13_restore_97 ?_
      refine lv_ldiv hx hb dX13_restore_100 (by decide) ?_
      refine lv_lstore_n (lv' := [(3, .long (((((x1 / 201) / 3) / 4) / 10) / 4)), (9, .int ((((((x1 / 201) / 3) / 4) / 10) - ((((x1 / 201) / 3) / 4) / 10) / 4 * 4).toInt32)), (8, .int (((((x1 / 201) / 3) / 4) - (((x1 / 201) / 3) / 4) / 10 * 10).toInt32)), (7, .int ((((x1 / 201) / 3) - ((x1 / 201) / 3) / 4 * 4).toInt32)), (6, .int (((x1 / 201) - (x1 / 201) / 3 * 3).toInt32)), (5, .int ((x1 - x1 / 201 * 201).toInt32)), (0, .ref (ad a0)), (1, .long x1)]) hx hb dX13_restore_101 rfl hl (by decide) rfl (fun ls hl => ?_)
      refine lv_lload_n hx hb dX13_restore_102 rfl (lv_at hl 0 rfl) ?_
      refine lv_ldc2 hx hb hown (hts (.constantLong RX13 531 (541)) (List.mem_of_getElem? (i := 7) (by decide +kernel))) dX13_restore_103 ?_
      refine lv_lrem hx hb dX13_restore_106 (by decide) ?_
      refine lv_l2i hx hb dX13_restore_107 rfl ?_
      refine lv_istore (lv' := [(10, .int (((((((x1 / 201) / 3) / 4) / 10) / 4) - (((((x1 / 201) / 3) / 4) / 10) / 4) / 541 * 541).toInt32)), (3, .long (((((x1 / 201) / 3) / 4) / 10) / 4)), (9, .int ((((((x1 / 201) / 3) / 4) / 10) - ((((x1 / 201) / 3) / 4) / 10) / 4 * 4).toInt32)), (8, .int (((((x1 / 201) / 3) / 4) - (((x1 / 201) / 3) / 4) / 10 * 10).toInt32)), (7, .int ((((x1 / 201) / 3) - ((x1 / 201) / 3) / 4 * 4).toInt32)), (6, .int (((x1 / 201) - (x1 / 201) / 3 * 3).toInt32)), (5, .int ((x1 - x1 / 201 * 201).toInt32)), (0, .ref (ad a0)), (1, .long x1)]) hx hb dX13_restore_108 hl (by decide) rfl (fun ls hl => ?_)
      refine lv_lload_n hx hb dX13_restore_110 rfl (lv_at hl 1 rfl) ?_
      refine lv_ldc2 hx hb hown (hts (.constantLong RX13 531 (541)) (List.mem_of_getElem? (i := 7) (by decide +kernel))) dX13_restore_111 ?_
      refine lv_ldiv hx hb dX13_restore_114 (by decide) ?_
      refine lv_lstore_n (lv' := [(3, .long ((((((x1 / 201) / 3) / 4) / 10) / 4) / 541)), (10, .int (((((((x1 / 201) / 3) / 4) / 10) / 4) - (((((x1 / 201) / 3) / 4) / 10) / 4) / 541 * 541).toInt32)), (9, .int ((((((x1 / 201) / 3) / 4) / 10) - ((((x1 / 201) / 3) / 4) / 10) / 4 * 4).toInt32)), (8, .int (((((x1 / 201) / 3) / 4) - (((x1 / 201) / 3) / 4) / 10 * 10).toInt32)), (7, .int ((((x1 / 201) / 3) - ((x1 / 201) / 3) / 4 * 4).toInt32)), (6, .int (((x1 / 201) - (x1 / 201) / 3 * 3).toInt32)), (5, .int ((x1 - x1 / 201 * 201).toInt32)), (0, .ref (ad a0)), (1, .long x1)]) hx hb dX13_restore_115 rfl hl (by decide) rfl (fun ls hl => ?_)
      refine lv_lload_n hx hb dX13_restore_116 rfl (lv_at hl 0 rfl) ?_
      refine lv_ldc2 hx hb hown (hts (.constantLong RX13 529 (7)) (List.mem_of_getElem? (i := 8) (by decide +kernel))) dX13_restore_117 ?_
      refine lv_lrem hx hb dX13_restore_120 (by decide) ?_
      refine lv_l2i hx hb dX13_restore_121 rfl ?_
      refine lv_istore (lv' := [(11, .int ((((((((x1 / 201) / 3) / 4) / 10) / 4) / 541) - ((((((x1 / 201) / 3) / 4) / 10) / 4) / 541) / 7 * 7).toInt32)), (3, .long ((((((x1 / 201) / 3) / 4) / 10) / 4) / 541)), (10, .int (((((((x1 / 201) / 3) / 4) / 10) / 4) - (((((x1 / 201) / 3) / 4) / 10) / 4) / 541 * 541).toInt32)), (9, .int ((((((x1 / 201) / 3) / 4) / 10) - ((((x1 / 201) / 3) / 4) / 10) / 4 * 4).toInt32)), (8, .int (((((x1 / 201) / 3) / 4) - (((x1 / 201) / 3) / 4) / 10 * 10).toInt32)), (7, .int ((((x1 / 201) / 3) - ((x1 / 201) / 3) / 4 * 4).toInt32)), (6, .int (((x1 / 201) - (x1 / 201) / 3 * 3).toInt32)), (5, .int ((x1 - x1 / 201 * 201).toInt32)), (0, .ref (ad a0)), (1, .long x1)]) hx hb dX13_restore_122 hl (by decide) rfl (fun ls hl => ?_)
      refine lv_lload_n hx hb dX13_restore_124 rfl (lv_at hl 1 rfl) ?_
      refine lv_ldc2 hx hb hown (hts (.constantLong RX13 529 (7)) (List.mem_of_getElem? (i := 8) (by decide +kernel))) dX13_restore_125 ?_
      refine lv_ldiv hx hb dX13_restore_128 (by decide) ?_
      refine lv_lstore_n (lv' := [(3, .long (((((((x1 / 201) / 3) / 4) / 10) / 4) / 541) / 7)), (11, .int ((((((((x1 / 201) / 3) / 4) / 10) / 4) / 541) - ((((((x1 / 201) / 3) / 4) / 10) / 4) / 541) / 7 * 7).toInt32)), (10, .int (((((((x1 / 201) / 3) / 4) / 10) / 4) - (((((x1 / 201) / 3) / 4) / 10) / 4) / 541 * 541).toInt32)), (9, .int ((((((x1 / 201) / 3) / 4) / 10) - ((((x1 / 201) / 3) / 4) / 10) / 4 * 4).toInt32)), (8, .int (((((x1 / 201) / 3) / 4) - (((x1 / 201) / 3) / 4) / 10 * 10).toInt32)), (7, .int ((((x1 / 201) / 3) - ((x1 / 201) / 3) / 4 * 4).toInt32)), (6, .int (((x1 / 201) - (x1 / 201) / 3 * 3).toInt32)), (5, .int ((x1 - x1 / 201 * 201).toInt32)), (0, .ref (ad a0)), (1, .long x1)]) hx hb dX13_restore_129 rfl hl (by decide) rfl (fun ls hl => ?_)
      refine lv_lload_n hx hb dX13_restore_130 rfl (lv_at hl 0 rfl) ?_
      refine lv_ldc2 hx hb hown (hts (.constantLong RX13 527 (6)) (List.mem_of_getElem? (i := 9) (by decide +kernel))) dX13_restore_131 ?_
      refine lv_lrem hx hb dX13_restore_134 (by decide) ?_
      refine lv_l2i hx hb dX13_restore_135 rfl ?_
      refine lv_istore (lv' := [(12, .int (((((((((x1 / 201) / 3) / 4) / 10) / 4) / 541) / 7) - (((((((x1 / 201) / 3) / 4) / 10) / 4) / 541) / 7) / 6 * 6).toInt32)), (3, .long (((((((x1 / 201) / 3) / 4) / 10) / 4) / 541) / 7)), (11, .int ((((((((x1 / 201) / 3) / 4) / 10) / 4) / 541) - ((((((x1 / 201) / 3) / 4) / 10) / 4) / 541) / 7 * 7).toInt32)), (10, .int (((((((x1 / 201) / 3) / 4) / 10) / 4) - (((((x1 / 201) / 3) / 4) / 10) / 4) / 541 * 541).toInt32)), (9, .int ((((((x1 / 201) / 3) / 4) / 10) - ((((x1 / 201) / 3) / 4) / 10) / 4 * 4).toInt32)), (8, .int (((((x1 / 201) / 3) / 4) - (((x1 / 201) / 3) / 4) / 10 * 10).toInt32)), (7, .int ((((x1 / 201) / 3) - ((x1 / 201) / 3) / 4 * 4).toInt32)), (6, .int (((x1 / 201) - (x1 / 201) / 3 * 3).toInt32)), (5, .int ((x1 - x1 / 201 * 201).toInt32)), (0, .ref (ad a0)), (1, .long x1)]) hx hb dX13_restore_136 hl (by decide) rfl (fun ls hl => ?_)
      refine lv_lload_n hx hb dX13_restore_138 rfl (lv_at hl 1 rfl) ?_
      refine lv_ldc2 hx hb hown (hts (.constantLong RX13 527 (6)) (List.mem_of_getElem? (i := 9) (by decide +kernel))) dX13_restore_139 ?_
      refine lv_ldiv hx hb dX13_restore_142 (by decide) ?_
      refine lv_lstore_n (lv' := [(3, .long ((((((((x1 / 201) / 3) / 4) / 10) / 4) / 541) / 7) / 6)), (12, .int (((((((((x1 / 201) / 3) / 4) / 10) / 4) / 541) / 7) - (((((((x1 / 201) / 3) / 4) / 10) / 4) / 541) / 7) / 6 * 6).toInt32)), (11, .int ((((((((x1 / 201) / 3) / 4) / 10) / 4) / 541) - ((((((x1 / 201) / 3) / 4) / 10) / 4) / 541) / 7 * 7).toInt32)), (10, .int (((((((x1 / 201) / 3) / 4) / 10) / 4) - (((((x1 / 201) / 3) / 4) / 10) / 4) / 541 * 541).toInt32)), (9, .int ((((((x1 / 201) / 3) / 4) / 10) - ((((x1 / 201) / 3) / 4) / 10) / 4 * 4).toInt32)), (8, .int (((((x1 / 201) / 3) / 4) - (((x1 / 201) / 3) / 4) / 10 * 10).toInt32)), (7, .int ((((x1 / 201) / 3) - ((x1 / 201) / 3) / 4 * 4).toInt32)), (6, .int (((x1 / 201) - (x1 / 201) / 3 * 3).toInt32)), (5, .int ((x1 - x1 / 201 * 201).toInt32)), (0, .ref (ad a0)), (1, .long x1)]) hx hb dX13_restore_143 rfl hl (by decide) rfl (fun ls hl => ?_)
      refine lv_lload_n hx hb dX13_restore_144 rfl (lv_at hl 0 rfl) ?_
      refine lv_ldc2 hx hb hown (hts (.constantLong RX13 516 (65537)) (List.mem_of_getElem? (i := 10) (by decide +kernel))) dX13_restore_145 ?_
      refine W.lcmp hx hb dX13_restore_148 ?_
      refine lv_if_ge (tgt := 214) hx hb dX13_restore_149 rfl (fun c4 => ?_) (fun c4 => ?_)
      · replace h := ite_t c4 h
        refine lv_aload_n hx hb dX13_restore_214 rfl (lv_at hl 9 rfl) ?_
        refine lv_iconst (v := 2) hx hb dX13_restore_215 rfl ?_
        obtain ⟨z5, h5, h⟩ := ob_some h
        refine k_z (va_runV (As := [.int 2]) (rest := []) ⟨hx, hb, hml, hown, hts⟩ (c_X13_denied (l := l) Mg1 a0 2 k0 h5) (cwV 1 hts gX13_restore_X13_denied rfl rfl rfl hdV_X13_denied ⟨Nat.le_of_ble_eq_true rfl, Nat.le_of_ble_eq_true rfl⟩) (pV (T := TX13) hP hK hD hT hG hS k0 (by decide) rfl) rfl rfl hl.1 rfl (lv_room (Nat.le_of_ble_eq_true rfl)) dX13_restore_216 ⟨Nat.zero_le _, Nat.zero_le _⟩) hS (fun H locs hz5 hP hD hT hS => ?_)
        have hZ := Option.some.inj h
        have hZ1 := congrArg Prod.fst hZ
        have hZ2 := congrArg Prod.snd hZ
        exact r_zret hx hb hr hlocks hP hK hD hT hG hS hz5 hZ1 hZ2 dX13_restore_219
      · replace h := ite_f c4 h
        refine lv_iload hx hb dX13_restore_152 (lv_at hl 1 rfl) ?_
        refine lv_if_eq (tgt := 214) hx hb dX13_restore_154 rfl (fun c6 => ?_) (fun c6 => ?_)
        · replace h := ite_t c6 h
          refine lv_aload_n hx hb dX13_restore_214 rfl (lv_at hl 9 rfl) ?_
          refine lv_iconst (v := 2) hx hb dX13_restore_215 rfl ?_
          obtain ⟨z7, h7, h⟩ := ob_some h
          refine k_z (va_runV (As := [.int 2]) (rest := []) ⟨hx, hb, hml, hown, hts⟩ (c_X13_denied (l := l) Mg1 a0 2 k0 h7) (cwV 1 hts gX13_restore_X13_denied rfl rfl rfl hdV_X13_denied ⟨Nat.le_of_ble_eq_true rfl, Nat.le_of_ble_eq_true rfl⟩) (pV (T := TX13) hP hK hD hT hG hS k0 (by decide) rfl) rfl rfl hl.1 rfl (lv_room (Nat.le_of_ble_eq_true rfl)) dX13_restore_216 ⟨Nat.zero_le _, Nat.zero_le _⟩) hS (fun H locs hz7 hP hD hT hS => ?_)
          have hZ := Option.some.inj h
          have hZ1 := congrArg Prod.fst hZ
          have hZ2 := congrArg Prod.snd hZ
          exact r_zret hx hb hr hlocks hP hK hD hT hG hS hz7 hZ1 hZ2 dX13_restore_219
        · replace h := ite_f c6 h
          refine lv_aload_n hx hb dX13_restore_157 rfl (lv_at hl 9 rfl) ?_
          refine lv_iload hx hb dX13_restore_158 (lv_at hl 5 rfl) ?_
          obtain ⟨z8, h8, h⟩ := ob_some h
          refine k_z (va_runV (As := [.int (((((x1 / 201) / 3) / 4) - (((x1 / 201) / 3) / 4) / 10 * 10).toInt32)]) (rest := []) ⟨hx, hb, hml, hown, hts⟩ (c_X13_isStatue (l := l) Mg1 a0 (((((x1 / 201) / 3) / 4) - (((x1 / 201) / 3) / 4) / 10 * 10).toInt32) k0 h8) (cwV 1 hts gX13_restore_X13_isStatue rfl rfl rfl hdV_X13_isStatue ⟨Nat.le_of_ble_eq_true rfl, Nat.le_of_ble_eq_true rfl⟩) (pV (T := TX13) hP hK hD hT hG hS k0 (by decide) rfl) rfl rfl hl.1 rfl (lv_room (Nat.le_of_ble_eq_true rfl)) dX13_restore_160 ⟨Nat.zero_le _, Nat.zero_le _⟩) hS (fun H locs hz8 hP hD hT hS => ?_)
          refine lv_if_eq (tgt := 214) hx hb dX13_restore_163 rfl (fun c9 => ?_) (fun c9 => ?_)
          · replace h := ite_t c9 h
            refine lv_aload_n hx hb dX13_restore_214 rfl (lv_at hl 9 rfl) ?_
            refine lv_iconst (v := 2) hx hb dX13_restore_215 rfl ?_
            obtain ⟨z10, h10, h⟩ := ob_some h
            refine k_z (va_runV (As := [.int 2]) (rest := []) ⟨hx, hb, hml, hown, hts⟩ (c_X13_denied (l := l) Mg1 a0 2 k0 h10) (cwV 1 hts gX13_restore_X13_denied rfl rfl rfl hdV_X13_denied ⟨Nat.le_of_ble_eq_true rfl, Nat.le_of_ble_eq_true rfl⟩) (pV (T := TX13) hP hK hD hT hG hS k0 (by decide) rfl) rfl rfl hl.1 rfl (lv_room (Nat.le_of_ble_eq_true rfl)) dX13_restore_216 ⟨Nat.zero_le _, Nat.zero_le _⟩) hS (fun H locs hz10 hP hD hT hS => ?_)
            have hZ := Option.some.inj h
            have hZ1 := congrArg Prod.fst hZ
            have hZ2 := congrArg Prod.snd hZ
            exact r_zret hx hb hr hlocks hP hK hD hT hG hS hz10 hZ1 hZ2 dX13_restore_219
          · replace h := ite_f c9 h
            refine lv_aload_n hx hb dX13_restore_166 rfl (lv_at hl 9 rfl) ?_
            refine lv_iload hx hb dX13_restore_167 (lv_at hl 6 rfl) ?_
            obtain ⟨z11, h11, h⟩ := ob_some h
            refine k_z (va_runV (As := [.int ((((x1 / 201) / 3) - ((x1 / 201) / 3) / 4 * 4).toInt32)]) (rest := []) ⟨hx, hb, hml, hown, hts⟩ (c_X13_isWay (l := l) Mg1 a0 ((((x1 / 201) / 3) - ((x1 / 201) / 3) / 4 * 4).toInt32) k0 h11) (cwV 1 hts gX13_restore_X13_isWay rfl rfl rfl hdV_X13_isWay ⟨Nat.le_of_ble_eq_true rfl, Nat.le_of_ble_eq_true rfl⟩) (pV (T := TX13) hP hK hD hT hG hS k0 (by decide) rfl) rfl rfl hl.1 rfl (lv_room (Nat.le_of_ble_eq_true rfl)) dX13_restore_169 ⟨Nat.zero_le _, Nat.zero_le _⟩) hS (fun H locs hz11 hP hD hT hS => ?_)
            refine lv_if_eq (tgt := 214) hx hb dX13_restore_172 rfl (fun c12 => ?_) (fun c12 => ?_)
            · replace h := ite_t c12 h
              refine lv_aload_n hx hb dX13_restore_214 rfl (lv_at hl 9 rfl) ?_
              refine lv_iconst (v := 2) hx hb dX13_restore_215 rfl ?_
              obtain ⟨z13, h13, h⟩ := ob_some h
              refine k_z (va_runV (As := [.int 2]) (rest := []) ⟨hx, hb, hml, hown, hts⟩ (c_X13_denied (l := l) Mg1 a0 2 k0 h13) (cwV 1 hts gX13_restore_X13_denied rfl rfl rfl hdV_X13_denied ⟨Nat.le_of_ble_eq_true rfl, Nat.le_of_ble_eq_true rfl⟩) (pV (T := TX13) hP hK hD hT hG hS k0 (by decide) rfl) rfl rfl hl.1 rfl (lv_room (Nat.le_of_ble_eq_true rfl)) dX13_restore_216 ⟨Nat.zero_le _, Nat.zero_le _⟩) hS (fun H locs hz13 hP hD hT hS => ?_)
              have hZ := Option.some.inj h
              have hZ1 := congrArg Prod.fst hZ
              have hZ2 := congrArg Prod.snd hZ
              exact r_zret hx hb hr hlocks hP hK hD hT hG hS hz13 hZ1 hZ2 dX13_restore_219
            · replace h := ite_f c12 h
              refine lv_aload_n hx hb dX13_restore_175 rfl (lv_at hl 9 rfl) ?_
              refine lv_iload hx hb dX13_restore_176 (lv_at hl 7 rfl) ?_
              obtain ⟨z14, h14, h⟩ := ob_some h
              refine k_z (va_runV (As := [.int (((x1 / 201) - (x1 / 201) / 3 * 3).toInt32)]) (rest := []) ⟨hx, hb, hml, hown, hts⟩ (c_X13_isRoad (l := l) Mg1 a0 (((x1 / 201) - (x1 / 201) / 3 * 3).toInt32) k0 h14) (cwV 1 hts gX13_restore_X13_isRoad rfl rfl rfl hdV_X13_isRoad ⟨Nat.le_of_ble_eq_true rfl, Nat.le_of_ble_eq_true rfl⟩) (pV (T := TX13) hP hK hD hT hG hS k0 (by decide) rfl) rfl rfl hl.1 rfl (lv_room (Nat.le_of_ble_eq_true rfl)) dX13_restore_178 ⟨Nat.zero_le _, Nat.zero_le _⟩) hS (fun H locs hz14 hP hD hT hS => ?_)
              refine lv_if_eq (tgt := 214) hx hb dX13_restore_181 rfl (fun c15 => ?_) (fun c15 => ?_)
              · replace h := ite_t c15 h
                refine lv_aload_n hx hb dX13_restore_214 rfl (lv_at hl 9 rfl) ?_
                refine lv_iconst (v := 2) hx hb dX13_restore_215 rfl ?_
                obtain ⟨z16, h16, h⟩ := ob_some h
                refine k_z (va_runV (As := [.int 2]) (rest := []) ⟨hx, hb, hml, hown, hts⟩ (c_X13_denied (l := l) Mg1 a0 2 k0 h16) (cwV 1 hts gX13_restore_X13_denied rfl rfl rfl hdV_X13_denied ⟨Nat.le_of_ble_eq_true rfl, Nat.le_of_ble_eq_true rfl⟩) (pV (T := TX13) hP hK hD hT hG hS k0 (by decide) rfl) rfl rfl hl.1 rfl (lv_room (Nat.le_of_ble_eq_true rfl)) dX13_restore_216 ⟨Nat.zero_le _, Nat.zero_le _⟩) hS (fun H locs hz16 hP hD hT hS => ?_)
                have hZ := Option.some.inj h
                have hZ1 := congrArg Prod.fst hZ
                have hZ2 := congrArg Prod.snd hZ
                exact r_zret hx hb hr hlocks hP hK hD hT hG hS hz16 hZ1 hZ2 dX13_restore_219
              · replace h := ite_f c15 h
                refine lv_iload hx hb dX13_restore_184 (lv_at hl 8 rfl) ?_
                refine lv_if_eq (tgt := 214) hx hb dX13_restore_186 rfl (fun c17 => ?_) (fun c17 => ?_)
                · replace h := ite_t c17 h
                  refine lv_aload_n hx hb dX13_restore_214 rfl (lv_at hl 9 rfl) ?_
                  refine lv_iconst (v := 2) hx hb dX13_restore_215 rfl ?_
                  obtain ⟨z18, h18, h⟩ := ob_some h
                  refine k_z (va_runV (As := [.int 2]) (rest := []) ⟨hx, hb, hml, hown, hts⟩ (c_X13_denied (l := l) Mg1 a0 2 k0 h18) (cwV 1 hts gX13_restore_X13_denied rfl rfl rfl hdV_X13_denied ⟨Nat.le_of_ble_eq_true rfl, Nat.le_of_ble_eq_true rfl⟩) (pV (T := TX13) hP hK hD hT hG hS k0 (by decide) rfl) rfl rfl hl.1 rfl (lv_room (Nat.le_of_ble_eq_true rfl)) dX13_restore_216 ⟨Nat.zero_le _, Nat.zero_le _⟩) hS (fun H locs hz18 hP hD hT hS => ?_)
                  have hZ := Option.some.inj h
                  have hZ1 := congrArg Prod.fst hZ
                  have hZ2 := congrArg Prod.snd hZ
                  exact r_zret hx hb hr hlocks hP hK hD hT hG hS hz18 hZ1 hZ2 dX13_restore_219
                · replace h := ite_f c17 h
                  refine lv_iload hx hb dX13_restore_189 (lv_at hl 4 rfl) ?_
                  refine lv_iconst (v := 3) hx hb dX13_restore_191 rfl ?_
                  refine lv_icmp_ne (tgt := 199) hx hb dX13_restore_192 rfl (fun c19 => ?_) (fun c19 => ?_)
                  · replace h := ite_f c19 h
                    refine lv_iconst (v := 0) hx hb dX13_restore_199 rfl ?_
                    refine lv_iload hx hb dX13_restore_200 (lv_at hl 1 rfl) ?_
                    refine lv_iconst (v := 3) hx hb dX13_restore_202 rfl ?_
                    refine lv_icmp_ne (tgt := 210) hx hb dX13_restore_203 rfl (fun c20 => ?_) (fun c20 => ?_)
                    · replace h := ite_f c20 h
                      refine lv_iconst (v := 0) hx hb dX13_restore_210 rfl ?_
                      refine lv_icmp_ne (tgt := 220) hx hb dX13_restore_211 rfl (fun c21 => absurd c21 (by decide)) (fun _ => ?_)
                      refine lv_aload_n hx hb dX13_restore_214 rfl (lv_at hl 9 rfl) ?_
                      refine lv_iconst (v := 2) hx hb dX13_restore_215 rfl ?_
                      obtain ⟨z22, h22, h⟩ := ob_some h
                      refine k_z (va_runV (As := [.int 2]) (rest := []) ⟨hx, hb, hml, hown, hts⟩ (c_X13_denied (l := l) Mg1 a0 2 k0 h22) (cwV 1 hts gX13_restore_X13_denied rfl rfl rfl hdV_X13_denied ⟨Nat.le_of_ble_eq_true rfl, Nat.le_of_ble_eq_true rfl⟩) (pV (T := TX13) hP hK hD hT hG hS k0 (by decide) rfl) rfl rfl hl.1 rfl (lv_room (Nat.le_of_ble_eq_true rfl)) dX13_restore_216 ⟨Nat.zero_le _, Nat.zero_le _⟩) hS (fun H locs hz22 hP hD hT hS => ?_)
                      have hZ := Option.some.inj h
                      have hZ1 := congrArg Prod.fst hZ
                      have hZ2 := congrArg Prod.snd hZ
                      exact r_zret hx hb hr hlocks hP hK hD hT hG hS hz22 hZ1 hZ2 dX13_restore_219
                    · replace h := ite_t c20 h
                      refine lv_iconst (v := 1) hx hb dX13_restore_206 rfl ?_
                      refine lv_goto (tgt := 211) hx hb dX13_restore_207 rfl ?_
                      refine lv_icmp_ne (tgt := 220) hx hb dX13_restore_211 rfl (fun _ => ?_) (fun c23 => absurd c23 (by decide))
                      refine lv_aload_n hx hb dX13_restore_220 rfl (lv_at hl 9 rfl) ?_
                      rcases hN24 : gR Mg1 a0 3 with _ | b24
                      · replace h := oc_n hN24 h
                        refine r_get (T := TX13) (v := .null) hx hb hts in13 hown hK hP k0 (by decide) rfl 3 (by decide) (hts (.fieldLink RX13 431 "StoneWalkModel" "island" "LStoneWalkModel$Island;") (List.mem_of_getElem? (i := 2) (by decide +kernel))) rfl (t := 2) rfl (by show va_rf _ = _; rw [hN24]; rfl) dX13_restore_221 ?_
                        exact absurd h (by simp)
                      · replace h := oc_s hN24 h
                        have kb24 := hT.f k0 (k := 3) (t := 12) (n := 0) rfl hN24
                        refine r_get (T := TX13) (v := .ref (ad b24)) hx hb hts in13 hown hK hP k0 (by decide) rfl 3 (by decide) (hts (.fieldLink RX13 431 "StoneWalkModel" "island" "LStoneWalkModel$Island;") (List.mem_of_getElem? (i := 2) (by decide +kernel))) rfl (t := 2) rfl (by show va_rf _ = _; rw [hN24]; rfl) dX13_restore_221 ?_
                        rcases hN25 : gR Mg1 b24 13 with _ | b25
                        · exact absurd (oc_n hN25 h) (by simp)
                        replace h := oc_s hN25 h
                        have kb25 := hT.f kb24 (k := 13) (t := 15) (n := 3) rfl hN25
                        refine r_getN (T := TX12) (v := .ref (ad b25)) hx hb hts in12 hown hK hP kb24 (by decide) rfl 13 (by decide) (hG.2.2.1 ("StoneWalkModel", 266, "StoneWalkModel$Island", "slopes", "[I", "StoneWalkModel") (List.mem_of_getElem? (i := 13) rfl)) rfl (t := 2) rfl (by show va_rf _ = _; rw [hN25]; rfl) dX13_restore_224 ?_
                        refine lv_iload hx hb dX13_restore_227 (lv_at hl 7 rfl) ?_
                        obtain ⟨hn26, h⟩ := chk_some h
                        refine r_iald hx hb hK hP kb25 hn26 dX13_restore_229 ?_
                        refine lv_istore (lv' := [(13, .int (gI Mg1 b25 (ix (((x1 / 201) - (x1 / 201) / 3 * 3).toInt32)))), (3, .long ((((((((x1 / 201) / 3) / 4) / 10) / 4) / 541) / 7) / 6)), (12, .int (((((((((x1 / 201) / 3) / 4) / 10) / 4) / 541) / 7) - (((((((x1 / 201) / 3) / 4) / 10) / 4) / 541) / 7) / 6 * 6).toInt32)), (11, .int ((((((((x1 / 201) / 3) / 4) / 10) / 4) / 541) - ((((((x1 / 201) / 3) / 4) / 10) / 4) / 541) / 7 * 7).toInt32)), (10, .int (((((((x1 / 201) / 3) / 4) / 10) / 4) - (((((x1 / 201) / 3) / 4) / 10) / 4) / 541 * 541).toInt32)), (9, .int ((((((x1 / 201) / 3) / 4) / 10) - ((((x1 / 201) / 3) / 4) / 10) / 4 * 4).toInt32)), (8, .int (((((x1 / 201) / 3) / 4) - (((x1 / 201) / 3) / 4) / 10 * 10).toInt32)), (7, .int ((((x1 / 201) / 3) - ((x1 / 201) / 3) / 4 * 4).toInt32)), (6, .int (((x1 / 201) - (x1 / 201) / 3 * 3).toInt32)), (5, .int ((x1 - x1 / 201 * 201).toInt32)), (0, .ref (ad a0)), (1, .long x1)]) hx hb dX13_restore_230 hl (by decide) rfl (fun ls hl => ?_)
                        refine lv_iload hx hb dX13_restore_232 (lv_at hl 2 rfl) ?_
                        refine lv_iconst (v := 2) hx hb dX13_restore_234 rfl ?_
                        refine lv_icmp_ne (tgt := 248) hx hb dX13_restore_235 rfl (fun c27 => ?_) (fun c27 => ?_)
                        · replace h := ite_f c27 h
                          refine lv_iload hx hb dX13_restore_248 (lv_at hl 3 rfl) ?_
                          refine lv_iload hx hb dX13_restore_250 (lv_at hl 0 rfl) ?_
                          refine lv_icmp_lt (tgt := 261) hx hb dX13_restore_252 rfl (fun c28 => ?_) (fun c28 => ?_)
                          · replace h := ite_t c28 h
                            refine lv_aload_n hx hb dX13_restore_261 rfl (lv_at hl 10 rfl) ?_
                            refine lv_lload_n hx hb dX13_restore_262 rfl (lv_at hl 1 rfl) ?_
                            refine lv_l2i hx hb dX13_restore_263 rfl ?_
                            refine r_putI (T := TX13) (ty := .int) (v := ((((((((x1 / 201) / 3) / 4) / 10) / 4) / 541) / 7) / 6).toInt32) hx hb hts in13 tyX13 tyX13_ok nmX13 hown hK hP hD hT hS k0 (by decide) rfl 16 (by decide) (hts (.fieldLink RX13 437 "StoneWalkModel" "seed" "I") (List.mem_of_getElem? (i := 11) (by decide +kernel))) rfl rfl (tyX13_ok 16 (by decide)) rfl rfl rfl dX13_restore_264 (fun H locs hP hD hT hS => ?_)
                            generalize pI Mg1 a0 16 (((((((((x1 / 201) / 3) / 4) / 10) / 4) / 541) / 7) / 6).toInt32) = Mg2 at h hP hD hT ⊢
                            refine lv_aload_n hx hb dX13_restore_267 rfl (lv_at hl 10 rfl) ?_
                            refine lv_iload hx hb dX13_restore_268 (lv_at hl 6 rfl) ?_
                            refine r_putI (T := TX13) (ty := .int) (v := ((((x1 / 201) / 3) / 4) - (((x1 / 201) / 3) / 4) / 10 * 10).toInt32) hx hb hts in13 tyX13 tyX13_ok nmX13 hown hK hP hD hT hS k0 (by decide) rfl 17 (by decide) (hts (.fieldLink RX13 17 "StoneWalkModel" "moved" "I") (List.mem_of_getElem? (i := 12) (by decide +kernel))) rfl rfl (tyX13_ok 17 (by decide)) rfl rfl rfl dX13_restore_270 (fun H locs hP hD hT hS => ?_)
                            generalize pI Mg2 a0 17 (((((x1 / 201) / 3) / 4) - (((x1 / 201) / 3) / 4) / 10 * 10).toInt32) = Mg3 at h hP hD hT ⊢
                            refine lv_aload_n hx hb dX13_restore_273 rfl (lv_at hl 10 rfl) ?_
                            refine lv_iload hx hb dX13_restore_274 (lv_at hl 7 rfl) ?_
                            refine r_putI (T := TX13) (ty := .int) (v := (((x1 / 201) / 3) - ((x1 / 201) / 3) / 4 * 4).toInt32) hx hb hts in13 tyX13 tyX13_ok nmX13 hown hK hP hD hT hS k0 (by decide) rfl 18 (by decide) (hts (.fieldLink RX13 490 "StoneWalkModel" "movedBy" "I") (List.mem_of_getElem? (i := 13) (by decide +kernel))) rfl rfl (tyX13_ok 18 (by decide)) rfl rfl rfl dX13_restore_276 (fun H locs hP hD hT hS => ?_)
                            generalize pI Mg3 a0 18 ((((x1 / 201) / 3) - ((x1 / 201) / 3) / 4 * 4).toInt32) = Mg4 at h hP hD hT ⊢
                            refine lv_aload_n hx hb dX13_restore_279 rfl (lv_at hl 10 rfl) ?_
                            refine lv_iload hx hb dX13_restore_280 (lv_at hl 8 rfl) ?_
                            refine r_putI (T := TX13) (ty := .int) (v := ((x1 / 201) - (x1 / 201) / 3 * 3).toInt32) hx hb hts in13 tyX13 tyX13_ok nmX13 hown hK hP hD hT hS k0 (by decide) rfl 19 (by decide) (hts (.fieldLink RX13 493 "StoneWalkModel" "movedOn" "I") (List.mem_of_getElem? (i := 14) (by decide +kernel))) rfl rfl (tyX13_ok 19 (by decide)) rfl rfl rfl dX13_restore_282 (fun H locs hP hD hT hS => ?_)
                            generalize pI Mg4 a0 19 (((x1 / 201) - (x1 / 201) / 3 * 3).toInt32) = Mg5 at h hP hD hT ⊢
                            refine lv_aload_n hx hb dX13_restore_285 rfl (lv_at hl 10 rfl) ?_
                            refine lv_iload hx hb dX13_restore_286 (lv_at hl 9 rfl) ?_
                            refine r_putI (T := TX13) (ty := .int) (v := (x1 - x1 / 201 * 201).toInt32) hx hb hts in13 tyX13 tyX13_ok nmX13 hown hK hP hD hT hS k0 (by decide) rfl 20 (by decide) (hts (.fieldLink RX13 496 "StoneWalkModel" "people" "I") (List.mem_of_getElem? (i := 15) (by decide +kernel))) rfl rfl (tyX13_ok 20 (by decide)) rfl rfl rfl dX13_restore_288 (fun H locs hP hD hT hS => ?_)
                            generalize pI Mg5 a0 20 ((x1 - x1 / 201 * 201).toInt32) = Mg6 at h hP hD hT ⊢
                            refine lv_aload_n hx hb dX13_restore_291 rfl (lv_at hl 10 rfl) ?_
                            refine lv_iload hx hb dX13_restore_292 (lv_at hl 2 rfl) ?_
                            refine r_putI (T := TX13) (ty := .int) (v := ((((((((x1 / 201) / 3) / 4) / 10) / 4) / 541) / 7) - (((((((x1 / 201) / 3) / 4) / 10) / 4) / 541) / 7) / 6 * 6).toInt32) hx hb hts in13 tyX13 tyX13_ok nmX13 hown hK hP hD hT hS k0 (by decide) rfl 21 (by decide) (hts (.fieldLink RX13 500 "StoneWalkModel" "told" "I") (List.mem_of_getElem? (i := 16) (by decide +kernel))) rfl rfl (tyX13_ok 21 (by decide)) rfl rfl rfl dX13_restore_294 (fun H locs hP hD hT hS => ?_)
                            generalize pI Mg6 a0 21 (((((((((x1 / 201) / 3) / 4) / 10) / 4) / 541) / 7) - (((((((x1 / 201) / 3) / 4) / 10) / 4) / 541) / 7) / 6 * 6).toInt32) = Mg7 at h hP hD hT ⊢
                            refine lv_aload_n hx hb dX13_restore_297 rfl (lv_at hl 10 rfl) ?_
                            refine lv_iload hx hb dX13_restore_298 (lv_at hl 3 rfl) ?_
                            refine r_putI (T := TX13) (ty := .int) (v := (((((((x1 / 201) / 3) / 4) / 10) / 4) / 541) - ((((((x1 / 201) / 3) / 4) / 10) / 4) / 541) / 7 * 7).toInt32) hx hb hts in13 tyX13 tyX13_ok nmX13 hown hK hP hD hT hS k0 (by decide) rfl 22 (by decide) (hts (.fieldLink RX13 503 "StoneWalkModel" "slopesGone" "I") (List.mem_of_getElem? (i := 17) (by decide +kernel))) rfl rfl (tyX13_ok 22 (by decide)) rfl rfl rfl dX13_restore_300 (fun H locs hP hD hT hS => ?_)
                            generalize pI Mg7 a0 22 ((((((((x1 / 201) / 3) / 4) / 10) / 4) / 541) - ((((((x1 / 201) / 3) / 4) / 10) / 4) / 541) / 7 * 7).toInt32) = Mg8 at h hP hD hT ⊢
                            refine lv_aload_n hx hb dX13_restore_303 rfl (lv_at hl 10 rfl) ?_
                            refine lv_iload hx hb dX13_restore_304 (lv_at hl 4 rfl) ?_
                            refine r_putI (T := TX13) (ty := .int) (v := ((((((x1 / 201) / 3) / 4) / 10) / 4) - (((((x1 / 201) / 3) / 4) / 10) / 4) / 541 * 541).toInt32) hx hb hts in13 tyX13 tyX13_ok nmX13 hown hK hP hD hT hS k0 (by decide) rfl 23 (by decide) (hts (.fieldLink RX13 506 "StoneWalkModel" "minutesGone" "I") (List.mem_of_getElem? (i := 18) (by decide +kernel))) rfl rfl (tyX13_ok 23 (by decide)) rfl rfl rfl dX13_restore_306 (fun H locs hP hD hT hS => ?_)
                            generalize pI Mg8 a0 23 (((((((x1 / 201) / 3) / 4) / 10) / 4) - (((((x1 / 201) / 3) / 4) / 10) / 4) / 541 * 541).toInt32) = Mg9 at h hP hD hT ⊢
                            refine lv_aload_n hx hb dX13_restore_309 rfl (lv_at hl 10 rfl) ?_
                            refine lv_iload hx hb dX13_restore_310 (lv_at hl 5 rfl) ?_
                            refine lv_iconst (v := 3) hx hb dX13_restore_312 rfl ?_
                            refine lv_icmp_ne (tgt := 321) hx hb dX13_restore_313 rfl (fun c29 => ?_) (fun c29 => ?_)
                            · replace h := ite_f c29 h
                              refine lv_iload hx hb dX13_restore_321 (lv_at hl 5 rfl) ?_
                              refine r_putI (T := TX13) (ty := .int) (v := (((((x1 / 201) / 3) / 4) / 10) - ((((x1 / 201) / 3) / 4) / 10) / 4 * 4).toInt32) hx hb hts in13 tyX13 tyX13_ok nmX13 hown hK hP hD hT hS k0 (by decide) rfl 24 (by decide) (hts (.fieldLink RX13 509 "StoneWalkModel" "liesNow" "I") (List.mem_of_getElem? (i := 19) (by decide +kernel))) rfl rfl (tyX13_ok 24 (by decide)) rfl rfl rfl dX13_restore_323 (fun H locs hP hD hT hS => ?_)
                              generalize pI Mg9 a0 24 ((((((x1 / 201) / 3) / 4) / 10) - ((((x1 / 201) / 3) / 4) / 10) / 4 * 4).toInt32) = Mg10 at h hP hD hT ⊢
                              refine lv_aload_n hx hb dX13_restore_326 rfl (lv_at hl 10 rfl) ?_
                              obtain ⟨z30, h30, h⟩ := ob_some h
                              refine k_z (va_runV (As := []) (rest := []) ⟨hx, hb, hml, hown, hts⟩ (c_X13_granted (l := l) Mg10 a0 k0 h30) (cwV 0 hts gX13_restore_X13_granted rfl rfl rfl hdV_X13_granted ⟨Nat.le_of_ble_eq_true rfl, Nat.le_of_ble_eq_true rfl⟩) (pV (T := TX13) hP hK hD hT hG hS k0 (by decide) rfl) rfl rfl hl.1 rfl (lv_room (Nat.le_of_ble_eq_true rfl)) dX13_restore_327 ⟨Nat.zero_le _, Nat.zero_le _⟩) hS (fun H locs hz30 hP hD hT hS => ?_)
                              have hZ := Option.some.inj h
                              have hZ1 := congrArg Prod.fst hZ
                              have hZ2 := congrArg Prod.snd hZ
                              exact r_zret hx hb hr hlocks hP hK hD hT hG hS hz30 hZ1 hZ2 dX13_restore_330
                            · replace h := ite_t c29 h
                              refine lv_bipush (v := (-2)) hx hb dX13_restore_316 rfl ?_
                              refine lv_goto (tgt := 323) hx hb dX13_restore_318 rfl ?_
                              refine r_putI (T := TX13) (ty := .int) (v := (-2)) hx hb hts in13 tyX13 tyX13_ok nmX13 hown hK hP hD hT hS k0 (by decide) rfl 24 (by decide) (hts (.fieldLink RX13 509 "StoneWalkModel" "liesNow" "I") (List.mem_of_getElem? (i := 19) (by decide +kernel))) rfl rfl (tyX13_ok 24 (by decide)) rfl rfl rfl dX13_restore_323 (fun H locs hP hD hT hS => ?_)
                              generalize pI Mg9 a0 24 (-2) = Mg11 at h hP hD hT ⊢
                              refine lv_aload_n hx hb dX13_restore_326 rfl (lv_at hl 10 rfl) ?_
                              obtain ⟨z31, h31, h⟩ := ob_some h
                              refine k_z (va_runV (As := []) (rest := []) ⟨hx, hb, hml, hown, hts⟩ (c_X13_granted (l := l) Mg11 a0 k0 h31) (cwV 0 hts gX13_restore_X13_granted rfl rfl rfl hdV_X13_granted ⟨Nat.le_of_ble_eq_true rfl, Nat.le_of_ble_eq_true rfl⟩) (pV (T := TX13) hP hK hD hT hG hS k0 (by decide) rfl) rfl rfl hl.1 rfl (lv_room (Nat.le_of_ble_eq_true rfl)) dX13_restore_327 ⟨Nat.zero_le _, Nat.zero_le _⟩) hS (fun H locs hz31 hP hD hT hS => ?_)
                              have hZ := Option.some.inj h
                              have hZ1 := congrArg Prod.fst hZ
                              have hZ2 := congrArg Prod.snd hZ
                              exact r_zret hx hb hr hlocks hP hK hD hT hG hS hz31 hZ1 hZ2 dX13_restore_330
                          · replace h := ite_f c28 h
                            refine lv_aload_n hx hb dX13_restore_255 rfl (lv_at hl 10 rfl) ?_
                            refine lv_iconst (v := 2) hx hb dX13_restore_256 rfl ?_
                            obtain ⟨z32, h32, h⟩ := ob_some h
                            refine k_z (va_runV (As := [.int 2]) (rest := []) ⟨hx, hb, hml, hown, hts⟩ (c_X13_denied (l := l) Mg1 a0 2 k0 h32) (cwV 1 hts gX13_restore_X13_denied rfl rfl rfl hdV_X13_denied ⟨Nat.le_of_ble_eq_true rfl, Nat.le_of_ble_eq_true rfl⟩) (pV (T := TX13) hP hK hD hT hG hS k0 (by decide) rfl) rfl rfl hl.1 rfl (lv_room (Nat.le_of_ble_eq_true rfl)) dX13_restore_257 ⟨Nat.zero_le _, Nat.zero_le _⟩) hS (fun H locs hz32 hP hD hT hS => ?_)
                            have hZ := Option.some.inj h
                            have hZ1 := congrArg Prod.fst hZ
                            have hZ2 := congrArg Prod.snd hZ
                            exact r_zret hx hb hr hlocks hP hK hD hT hG hS hz32 hZ1 hZ2 dX13_restore_260
                        · replace h := ite_t c27 h
                          refine lv_iload hx hb dX13_restore_238 (lv_at hl 3 rfl) ?_
                          refine lv_iload hx hb dX13_restore_240 (lv_at hl 0 rfl) ?_
                          refine lv_icmp_eq (tgt := 261) hx hb dX13_restore_242 rfl (fun c33 => ?_) (fun c33 => ?_)
                          · replace h := ite_t c33 h
                            refine lv_aload_n hx hb dX13_restore_261 rfl (lv_at hl 10 rfl) ?_
                            refine lv_lload_n hx hb dX13_restore_262 rfl (lv_at hl 1 rfl) ?_
                            refine lv_l2i hx hb dX13_restore_263 rfl ?_
                            refine r_putI (T := TX13) (ty := .int) (v := ((((((((x1 / 201) / 3) / 4) / 10) / 4) / 541) / 7) / 6).toInt32) hx hb hts in13 tyX13 tyX13_ok nmX13 hown hK hP hD hT hS k0 (by decide) rfl 16 (by decide) (hts (.fieldLink RX13 437 "StoneWalkModel" "seed" "I") (List.mem_of_getElem? (i := 11) (by decide +kernel))) rfl rfl (tyX13_ok 16 (by decide)) rfl rfl rfl dX13_restore_264 (fun H locs hP hD hT hS => ?_)
                            generalize pI Mg1 a0 16 (((((((((x1 / 201) / 3) / 4) / 10) / 4) / 541) / 7) / 6).toInt32) = Mg12 at h hP hD hT ⊢
                            refine lv_aload_n hx hb dX13_restore_267 rfl (lv_at hl 10 rfl) ?_
                            refine lv_iload hx hb dX13_restore_268 (lv_at hl 6 rfl) ?_
                            refine r_putI (T := TX13) (ty := .int) (v := ((((x1 / 201) / 3) / 4) - (((x1 / 201) / 3) / 4) / 10 * 10).toInt32) hx hb hts in13 tyX13 tyX13_ok nmX13 hown hK hP hD hT hS k0 (by decide) rfl 17 (by decide) (hts (.fieldLink RX13 17 "StoneWalkModel" "moved" "I") (List.mem_of_getElem? (i := 12) (by decide +kernel))) rfl rfl (tyX13_ok 17 (by decide)) rfl rfl rfl dX13_restore_270 (fun H locs hP hD hT hS => ?_)
                            generalize pI Mg12 a0 17 (((((x1 / 201) / 3) / 4) - (((x1 / 201) / 3) / 4) / 10 * 10).toInt32) = Mg13 at h hP hD hT ⊢
                            refine lv_aload_n hx hb dX13_restore_273 rfl (lv_at hl 10 rfl) ?_
                            refine lv_iload hx hb dX13_restore_274 (lv_at hl 7 rfl) ?_
                            refine r_putI (T := TX13) (ty := .int) (v := (((x1 / 201) / 3) - ((x1 / 201) / 3) / 4 * 4).toInt32) hx hb hts in13 tyX13 tyX13_ok nmX13 hown hK hP hD hT hS k0 (by decide) rfl 18 (by decide) (hts (.fieldLink RX13 490 "StoneWalkModel" "movedBy" "I") (List.mem_of_getElem? (i := 13) (by decide +kernel))) rfl rfl (tyX13_ok 18 (by decide)) rfl rfl rfl dX13_restore_276 (fun H locs hP hD hT hS => ?_)
                            generalize pI Mg13 a0 18 ((((x1 / 201) / 3) - ((x1 / 201) / 3) / 4 * 4).toInt32) = Mg14 at h hP hD hT ⊢
                            refine lv_aload_n hx hb dX13_restore_279 rfl (lv_at hl 10 rfl) ?_
                            refine lv_iload hx hb dX13_restore_280 (lv_at hl 8 rfl) ?_
                            refine r_putI (T := TX13) (ty := .int) (v := ((x1 / 201) - (x1 / 201) / 3 * 3).toInt32) hx hb hts in13 tyX13 tyX13_ok nmX13 hown hK hP hD hT hS k0 (by decide) rfl 19 (by decide) (hts (.fieldLink RX13 493 "StoneWalkModel" "movedOn" "I") (List.mem_of_getElem? (i := 14) (by decide +kernel))) rfl rfl (tyX13_ok 19 (by decide)) rfl rfl rfl dX13_restore_282 (fun H locs hP hD hT hS => ?_)
                            generalize pI Mg14 a0 19 (((x1 / 201) - (x1 / 201) / 3 * 3).toInt32) = Mg15 at h hP hD hT ⊢
                            refine lv_aload_n hx hb dX13_restore_285 rfl (lv_at hl 10 rfl) ?_
                            refine lv_iload hx hb dX13_restore_286 (lv_at hl 9 rfl) ?_
                            refine r_putI (T := TX13) (ty := .int) (v := (x1 - x1 / 201 * 201).toInt32) hx hb hts in13 tyX13 tyX13_ok nmX13 hown hK hP hD hT hS k0 (by decide) rfl 20 (by decide) (hts (.fieldLink RX13 496 "StoneWalkModel" "people" "I") (List.mem_of_getElem? (i := 15) (by decide +kernel))) rfl rfl (tyX13_ok 20 (by decide)) rfl rfl rfl dX13_restore_288 (fun H locs hP hD hT hS => ?_)
                            generalize pI Mg15 a0 20 ((x1 - x1 / 201 * 201).toInt32) = Mg16 at h hP hD hT ⊢
                            refine lv_aload_n hx hb dX13_restore_291 rfl (lv_at hl 10 rfl) ?_
                            refine lv_iload hx hb dX13_restore_292 (lv_at hl 2 rfl) ?_
                            refine r_putI (T := TX13) (ty := .int) (v := ((((((((x1 / 201) / 3) / 4) / 10) / 4) / 541) / 7) - (((((((x1 / 201) / 3) / 4) / 10) / 4) / 541) / 7) / 6 * 6).toInt32) hx hb hts in13 tyX13 tyX13_ok nmX13 hown hK hP hD hT hS k0 (by decide) rfl 21 (by decide) (hts (.fieldLink RX13 500 "StoneWalkModel" "told" "I") (List.mem_of_getElem? (i := 16) (by decide +kernel))) rfl rfl (tyX13_ok 21 (by decide)) rfl rfl rfl dX13_restore_294 (fun H locs hP hD hT hS => ?_)
                            generalize pI Mg16 a0 21 (((((((((x1 / 201) / 3) / 4) / 10) / 4) / 541) / 7) - (((((((x1 / 201) / 3) / 4) / 10) / 4) / 541) / 7) / 6 * 6).toInt32) = Mg17 at h hP hD hT ⊢
                            refine lv_aload_n hx hb dX13_restore_297 rfl (lv_at hl 10 rfl) ?_
                            refine lv_iload hx hb dX13_restore_298 (lv_at hl 3 rfl) ?_
                            refine r_putI (T := TX13) (ty := .int) (v := (((((((x1 / 201) / 3) / 4) / 10) / 4) / 541) - ((((((x1 / 201) / 3) / 4) / 10) / 4) / 541) / 7 * 7).toInt32) hx hb hts in13 tyX13 tyX13_ok nmX13 hown hK hP hD hT hS k0 (by decide) rfl 22 (by decide) (hts (.fieldLink RX13 503 "StoneWalkModel" "slopesGone" "I") (List.mem_of_getElem? (i := 17) (by decide +kernel))) rfl rfl (tyX13_ok 22 (by decide)) rfl rfl rfl dX13_restore_300 (fun H locs hP hD hT hS => ?_)
                            generalize pI Mg17 a0 22 ((((((((x1 / 201) / 3) / 4) / 10) / 4) / 541) - ((((((x1 / 201) / 3) / 4) / 10) / 4) / 541) / 7 * 7).toInt32) = Mg18 at h hP hD hT ⊢
                            refine lv_aload_n hx hb dX13_restore_303 rfl (lv_at hl 10 rfl) ?_
                            refine lv_iload hx hb dX13_restore_304 (lv_at hl 4 rfl) ?_
                            refine r_putI (T := TX13) (ty := .int) (v := ((((((x1 / 201) / 3) / 4) / 10) / 4) - (((((x1 / 201) / 3) / 4) / 10) / 4) / 541 * 541).toInt32) hx hb hts in13 tyX13 tyX13_ok nmX13 hown hK hP hD hT hS k0 (by decide) rfl 23 (by decide) (hts (.fieldLink RX13 506 "StoneWalkModel" "minutesGone" "I") (List.mem_of_getElem? (i := 18) (by decide +kernel))) rfl rfl (tyX13_ok 23 (by decide)) rfl rfl rfl dX13_restore_306 (fun H locs hP hD hT hS => ?_)
                            generalize pI Mg18 a0 23 (((((((x1 / 201) / 3) / 4) / 10) / 4) - (((((x1 / 201) / 3) / 4) / 10) / 4) / 541 * 541).toInt32) = Mg19 at h hP hD hT ⊢
                            refine lv_aload_n hx hb dX13_restore_309 rfl (lv_at hl 10 rfl) ?_
                            refine lv_iload hx hb dX13_restore_310 (lv_at hl 5 rfl) ?_
                            refine lv_iconst (v := 3) hx hb dX13_restore_312 rfl ?_
                            refine lv_icmp_ne (tgt := 321) hx hb dX13_restore_313 rfl (fun c34 => ?_) (fun c34 => ?_)
                            · replace h := ite_f c34 h
                              refine lv_iload hx hb dX13_restore_321 (lv_at hl 5 rfl) ?_
                              refine r_putI (T := TX13) (ty := .int) (v := (((((x1 / 201) / 3) / 4) / 10) - ((((x1 / 201) / 3) / 4) / 10) / 4 * 4).toInt32) hx hb hts in13 tyX13 tyX13_ok nmX13 hown hK hP hD hT hS k0 (by decide) rfl 24 (by decide) (hts (.fieldLink RX13 509 "StoneWalkModel" "liesNow" "I") (List.mem_of_getElem? (i := 19) (by decide +kernel))) rfl rfl (tyX13_ok 24 (by decide)) rfl rfl rfl dX13_restore_323 (fun H locs hP hD hT hS => ?_)
                              generalize pI Mg19 a0 24 ((((((x1 / 201) / 3) / 4) / 10) - ((((x1 / 201) / 3) / 4) / 10) / 4 * 4).toInt32) = Mg20 at h hP hD hT ⊢
                              refine lv_aload_n hx hb dX13_restore_326 rfl (lv_at hl 10 rfl) ?_
                              obtain ⟨z35, h35, h⟩ := ob_some h
                              refine k_z (va_runV (As := []) (rest := []) ⟨hx, hb, hml, hown, hts⟩ (c_X13_granted (l := l) Mg20 a0 k0 h35) (cwV 0 hts gX13_restore_X13_granted rfl rfl rfl hdV_X13_granted ⟨Nat.le_of_ble_eq_true rfl, Nat.le_of_ble_eq_true rfl⟩) (pV (T := TX13) hP hK hD hT hG hS k0 (by decide) rfl) rfl rfl hl.1 rfl (lv_room (Nat.le_of_ble_eq_true rfl)) dX13_restore_327 ⟨Nat.zero_le _, Nat.zero_le _⟩) hS (fun H locs hz35 hP hD hT hS => ?_)
                              have hZ := Option.some.inj h
                              have hZ1 := congrArg Prod.fst hZ
                              have hZ2 := congrArg Prod.snd hZ
                              exact r_zret hx hb hr hlocks hP hK hD hT hG hS hz35 hZ1 hZ2 dX13_restore_330
                            · replace h := ite_t c34 h
                              refine lv_bipush (v := (-2)) hx hb dX13_restore_316 rfl ?_
                              refine lv_goto (tgt := 323) hx hb dX13_restore_318 rfl ?_
                              refine r_putI (T := TX13) (ty := .int) (v := (-2)) hx hb hts in13 tyX13 tyX13_ok nmX13 hown hK hP hD hT hS k0 (by decide) rfl 24 (by decide) (hts (.fieldLink RX13 509 "StoneWalkModel" "liesNow" "I") (List.mem_of_getElem? (i := 19) (by decide +kernel))) rfl rfl (tyX13_ok 24 (by decide)) rfl rfl rfl dX13_restore_323 (fun H locs hP hD hT hS => ?_)
                              generalize pI Mg19 a0 24 (-2) = Mg21 at h hP hD hT ⊢
                              refine lv_aload_n hx hb dX13_restore_326 rfl (lv_at hl 10 rfl) ?_
                              obtain ⟨z36, h36, h⟩ := ob_some h
                              refine k_z (va_runV (As := []) (rest := []) ⟨hx, hb, hml, hown, hts⟩ (c_X13_granted (l := l) Mg21 a0 k0 h36) (cwV 0 hts gX13_restore_X13_granted rfl rfl rfl hdV_X13_granted ⟨Nat.le_of_ble_eq_true rfl, Nat.le_of_ble_eq_true rfl⟩) (pV (T := TX13) hP hK hD hT hG hS k0 (by decide) rfl) rfl rfl hl.1 rfl (lv_room (Nat.le_of_ble_eq_true rfl)) dX13_restore_327 ⟨Nat.zero_le _, Nat.zero_le _⟩) hS (fun H locs hz36 hP hD hT hS => ?_)
                              have hZ := Option.some.inj h
                              have hZ1 := congrArg Prod.fst hZ
                              have hZ2 := congrArg Prod.snd hZ
                              exact r_zret hx hb hr hlocks hP hK hD hT hG hS hz36 hZ1 hZ2 dX13_restore_330
                          · replace h := ite_f c33 h
                            refine lv_goto (tgt := 255) hx hb dX13_restore_245 rfl ?_
                            refine lv_aload_n hx hb dX13_restore_255 rfl (lv_at hl 10 rfl) ?_
                            refine lv_iconst (v := 2) hx hb dX13_restore_256 rfl ?_
                            obtain ⟨z37, h37, h⟩ := ob_some h
                            refine k_z (va_runV (As := [.int 2]) (rest := []) ⟨hx, hb, hml, hown, hts⟩ (c_X13_denied (l := l) Mg1 a0 2 k0 h37) (cwV 1 hts gX13_restore_X13_denied rfl rfl rfl hdV_X13_denied ⟨Nat.le_of_ble_eq_true rfl, Nat.le_of_ble_eq_true rfl⟩) (pV (T := TX13) hP hK hD hT hG hS k0 (by decide) rfl) rfl rfl hl.1 rfl (lv_room (Nat.le_of_ble_eq_true rfl)) dX13_restore_257 ⟨Nat.zero_le _, Nat.zero_le _⟩) hS (fun H locs hz37 hP hD hT hS => ?_)
                            have hZ := Option.some.inj h
                            have hZ1 := congrArg Prod.fst hZ
                            have hZ2 := congrArg Prod.snd hZ
                            exact r_zret hx hb hr hlocks hP hK hD hT hG hS hz37 hZ1 hZ2 dX13_restore_260
                  · replace h := ite_t c19 h
                    refine lv_iconst (v := 1) hx hb dX13_restore_195 rfl ?_
                    refine lv_goto (tgt := 200) hx hb dX13_restore_196 rfl ?_
                    refine lv_iload hx hb dX13_restore_200 (lv_at hl 1 rfl) ?_
                    refine lv_iconst (v := 3) hx hb dX13_restore_202 rfl ?_
                    refine lv_icmp_ne (tgt := 210) hx hb dX13_restore_203 rfl (fun c38 => ?_) (fun c38 => ?_)
                    · replace h := ite_f c38 h
                      refine lv_iconst (v := 0) hx hb dX13_restore_210 rfl ?_
                      refine lv_icmp_ne (tgt := 220) hx hb dX13_restore_211 rfl (fun _ => ?_) (fun c39 => absurd c39 (by decide))
                      refine lv_aload_n hx hb dX13_restore_220 rfl (lv_at hl 9 rfl) ?_
                      rcases hN40 : gR Mg1 a0 3 with _ | b40
                      · replace h := oc_n hN40 h
                        refine r_get (T := TX13) (v := .null) hx hb hts in13 hown hK hP k0 (by decide) rfl 3 (by decide) (hts (.fieldLink RX13 431 "StoneWalkModel" "island" "LStoneWalkModel$Island;") (List.mem_of_getElem? (i := 2) (by decide +kernel))) rfl (t := 2) rfl (by show va_rf _ = _; rw [hN40]; rfl) dX13_restore_221 ?_
                        exact absurd h (by simp)
                      · replace h := oc_s hN40 h
                        have kb40 := hT.f k0 (k := 3) (t := 12) (n := 0) rfl hN40
                        refine r_get (T := TX13) (v := .ref (ad b40)) hx hb hts in13 hown hK hP k0 (by decide) rfl 3 (by decide) (hts (.fieldLink RX13 431 "StoneWalkModel" "island" "LStoneWalkModel$Island;") (List.mem_of_getElem? (i := 2) (by decide +kernel))) rfl (t := 2) rfl (by show va_rf _ = _; rw [hN40]; rfl) dX13_restore_221 ?_
                        rcases hN41 : gR Mg1 b40 13 with _ | b41
                        · exact absurd (oc_n hN41 h) (by simp)
                        replace h := oc_s hN41 h
                        have kb41 := hT.f kb40 (k := 13) (t := 15) (n := 3) rfl hN41
                        refine r_getN (T := TX12) (v := .ref (ad b41)) hx hb hts in12 hown hK hP kb40 (by decide) rfl 13 (by decide) (hG.2.2.1 ("StoneWalkModel", 266, "StoneWalkModel$Island", "slopes", "[I", "StoneWalkModel") (List.mem_of_getElem? (i := 13) rfl)) rfl (t := 2) rfl (by show va_rf _ = _; rw [hN41]; rfl) dX13_restore_224 ?_
                        refine lv_iload hx hb dX13_restore_227 (lv_at hl 7 rfl) ?_
                        obtain ⟨hn42, h⟩ := chk_some h
                        refine r_iald hx hb hK hP kb41 hn42 dX13_restore_229 ?_
                        refine lv_istore (lv' := [(13, .int (gI Mg1 b41 (ix (((x1 / 201) - (x1 / 201) / 3 * 3).toInt32)))), (3, .long ((((((((x1 / 201) / 3) / 4) / 10) / 4) / 541) / 7) / 6)), (12, .int (((((((((x1 / 201) / 3) / 4) / 10) / 4) / 541) / 7) - (((((((x1 / 201) / 3) / 4) / 10) / 4) / 541) / 7) / 6 * 6).toInt32)), (11, .int ((((((((x1 / 201) / 3) / 4) / 10) / 4) / 541) - ((((((x1 / 201) / 3) / 4) / 10) / 4) / 541) / 7 * 7).toInt32)), (10, .int (((((((x1 / 201) / 3) / 4) / 10) / 4) - (((((x1 / 201) / 3) / 4) / 10) / 4) / 541 * 541).toInt32)), (9, .int ((((((x1 / 201) / 3) / 4) / 10) - ((((x1 / 201) / 3) / 4) / 10) / 4 * 4).toInt32)), (8, .int (((((x1 / 201) / 3) / 4) - (((x1 / 201) / 3) / 4) / 10 * 10).toInt32)), (7, .int ((((x1 / 201) / 3) - ((x1 / 201) / 3) / 4 * 4).toInt32)), (6, .int (((x1 / 201) - (x1 / 201) / 3 * 3).toInt32)), (5, .int ((x1 - x1 / 201 * 201).toInt32)), (0, .ref (ad a0)), (1, .long x1)]) hx hb dX13_restore_230 hl (by decide) rfl (fun ls hl => ?_)
                        refine lv_iload hx hb dX13_restore_232 (lv_at hl 2 rfl) ?_
                        refine lv_iconst (v := 2) hx hb dX13_restore_234 rfl ?_
                        refine lv_icmp_ne (tgt := 248) hx hb dX13_restore_235 rfl (fun c43 => ?_) (fun c43 => ?_)
                        · replace h := ite_f c43 h
                          refine lv_iload hx hb dX13_restore_248 (lv_at hl 3 rfl) ?_
                          refine lv_iload hx hb dX13_restore_250 (lv_at hl 0 rfl) ?_
                          refine lv_icmp_lt (tgt := 261) hx hb dX13_restore_252 rfl (fun c44 => ?_) (fun c44 => ?_)
                          · replace h := ite_t c44 h
                            refine lv_aload_n hx hb dX13_restore_261 rfl (lv_at hl 10 rfl) ?_
                            refine lv_lload_n hx hb dX13_restore_262 rfl (lv_at hl 1 rfl) ?_
                            refine lv_l2i hx hb dX13_restore_263 rfl ?_
                            refine r_putI (T := TX13) (ty := .int) (v := ((((((((x1 / 201) / 3) / 4) / 10) / 4) / 541) / 7) / 6).toInt32) hx hb hts in13 tyX13 tyX13_ok nmX13 hown hK hP hD hT hS k0 (by decide) rfl 16 (by decide) (hts (.fieldLink RX13 437 "StoneWalkModel" "seed" "I") (List.mem_of_getElem? (i := 11) (by decide +kernel))) rfl rfl (tyX13_ok 16 (by decide)) rfl rfl rfl dX13_restore_264 (fun H locs hP hD hT hS => ?_)
                            generalize pI Mg1 a0 16 (((((((((x1 / 201) / 3) / 4) / 10) / 4) / 541) / 7) / 6).toInt32) = Mg22 at h hP hD hT ⊢
                            refine lv_aload_n hx hb dX13_restore_267 rfl (lv_at hl 10 rfl) ?_
                            refine lv_iload hx hb dX13_restore_268 (lv_at hl 6 rfl) ?_
                            refine r_putI (T := TX13) (ty := .int) (v := ((((x1 / 201) / 3) / 4) - (((x1 / 201) / 3) / 4) / 10 * 10).toInt32) hx hb hts in13 tyX13 tyX13_ok nmX13 hown hK hP hD hT hS k0 (by decide) rfl 17 (by decide) (hts (.fieldLink RX13 17 "StoneWalkModel" "moved" "I") (List.mem_of_getElem? (i := 12) (by decide +kernel))) rfl rfl (tyX13_ok 17 (by decide)) rfl rfl rfl dX13_restore_270 (fun H locs hP hD hT hS => ?_)
                            generalize pI Mg22 a0 17 (((((x1 / 201) / 3) / 4) - (((x1 / 201) / 3) / 4) / 10 * 10).toInt32) = Mg23 at h hP hD hT ⊢
                            refine lv_aload_n hx hb dX13_restore_273 rfl (lv_at hl 10 rfl) ?_
                            refine lv_iload hx hb dX13_restore_274 (lv_at hl 7 rfl) ?_
                            refine r_putI (T := TX13) (ty := .int) (v := (((x1 / 201) / 3) - ((x1 / 201) / 3) / 4 * 4).toInt32) hx hb hts in13 tyX13 tyX13_ok nmX13 hown hK hP hD hT hS k0 (by decide) rfl 18 (by decide) (hts (.fieldLink RX13 490 "StoneWalkModel" "movedBy" "I") (List.mem_of_getElem? (i := 13) (by decide +kernel))) rfl rfl (tyX13_ok 18 (by decide)) rfl rfl rfl dX13_restore_276 (fun H locs hP hD hT hS => ?_)
                            generalize pI Mg23 a0 18 ((((x1 / 201) / 3) - ((x1 / 201) / 3) / 4 * 4).toInt32) = Mg24 at h hP hD hT ⊢
                            refine lv_aload_n hx hb dX13_restore_279 rfl (lv_at hl 10 rfl) ?_
                            refine lv_iload hx hb dX13_restore_280 (lv_at hl 8 rfl) ?_
                            refine r_putI (T := TX13) (ty := .int) (v := ((x1 / 201) - (x1 / 201) / 3 * 3).toInt32) hx hb hts in13 tyX13 tyX13_ok nmX13 hown hK hP hD hT hS k0 (by decide) rfl 19 (by decide) (hts (.fieldLink RX13 493 "StoneWalkModel" "movedOn" "I") (List.mem_of_getElem? (i := 14) (by decide +kernel))) rfl rfl (tyX13_ok 19 (by decide)) rfl rfl rfl dX13_restore_282 (fun H locs hP hD hT hS => ?_)
                            generalize pI Mg24 a0 19 (((x1 / 201) - (x1 / 201) / 3 * 3).toInt32) = Mg25 at h hP hD hT ⊢
                            refine lv_aload_n hx hb dX13_restore_285 rfl (lv_at hl 10 rfl) ?_
                            refine lv_iload hx hb dX13_restore_286 (lv_at hl 9 rfl) ?_
                            refine r_putI (T := TX13) (ty := .int) (v := (x1 - x1 / 201 * 201).toInt32) hx hb hts in13 tyX13 tyX13_ok nmX13 hown hK hP hD hT hS k0 (by decide) rfl 20 (by decide) (hts (.fieldLink RX13 496 "StoneWalkModel" "people" "I") (List.mem_of_getElem? (i := 15) (by decide +kernel))) rfl rfl (tyX13_ok 20 (by decide)) rfl rfl rfl dX13_restore_288 (fun H locs hP hD hT hS => ?_)
                            generalize pI Mg25 a0 20 ((x1 - x1 / 201 * 201).toInt32) = Mg26 at h hP hD hT ⊢
                            refine lv_aload_n hx hb dX13_restore_291 rfl (lv_at hl 10 rfl) ?_
                            refine lv_iload hx hb dX13_restore_292 (lv_at hl 2 rfl) ?_
                            refine r_putI (T := TX13) (ty := .int) (v := ((((((((x1 / 201) / 3) / 4) / 10) / 4) / 541) / 7) - (((((((x1 / 201) / 3) / 4) / 10) / 4) / 541) / 7) / 6 * 6).toInt32) hx hb hts in13 tyX13 tyX13_ok nmX13 hown hK hP hD hT hS k0 (by decide) rfl 21 (by decide) (hts (.fieldLink RX13 500 "StoneWalkModel" "told" "I") (List.mem_of_getElem? (i := 16) (by decide +kernel))) rfl rfl (tyX13_ok 21 (by decide)) rfl rfl rfl dX13_restore_294 (fun H locs hP hD hT hS => ?_)
                            generalize pI Mg26 a0 21 (((((((((x1 / 201) / 3) / 4) / 10) / 4) / 541) / 7) - (((((((x1 / 201) / 3) / 4) / 10) / 4) / 541) / 7) / 6 * 6).toInt32) = Mg27 at h hP hD hT ⊢
                            refine lv_aload_n hx hb dX13_restore_297 rfl (lv_at hl 10 rfl) ?_
                            refine lv_iload hx hb dX13_restore_298 (lv_at hl 3 rfl) ?_
                            refine r_putI (T := TX13) (ty := .int) (v := (((((((x1 / 201) / 3) / 4) / 10) / 4) / 541) - ((((((x1 / 201) / 3) / 4) / 10) / 4) / 541) / 7 * 7).toInt32) hx hb hts in13 tyX13 tyX13_ok nmX13 hown hK hP hD hT hS k0 (by decide) rfl 22 (by decide) (hts (.fieldLink RX13 503 "StoneWalkModel" "slopesGone" "I") (List.mem_of_getElem? (i := 17) (by decide +kernel))) rfl rfl (tyX13_ok 22 (by decide)) rfl rfl rfl dX13_restore_300 (fun H locs hP hD hT hS => ?_)
                            generalize pI Mg27 a0 22 ((((((((x1 / 201) / 3) / 4) / 10) / 4) / 541) - ((((((x1 / 201) / 3) / 4) / 10) / 4) / 541) / 7 * 7).toInt32) = Mg28 at h hP hD hT ⊢
                            refine lv_aload_n hx hb dX13_restore_303 rfl (lv_at hl 10 rfl) ?_
                            refine lv_iload hx hb dX13_restore_304 (lv_at hl 4 rfl) ?_
                            refine r_putI (T := TX13) (ty := .int) (v := ((((((x1 / 201) / 3) / 4) / 10) / 4) - (((((x1 / 201) / 3) / 4) / 10) / 4) / 541 * 541).toInt32) hx hb hts in13 tyX13 tyX13_ok nmX13 hown hK hP hD hT hS k0 (by decide) rfl 23 (by decide) (hts (.fieldLink RX13 506 "StoneWalkModel" "minutesGone" "I") (List.mem_of_getElem? (i := 18) (by decide +kernel))) rfl rfl (tyX13_ok 23 (by decide)) rfl rfl rfl dX13_restore_306 (fun H locs hP hD hT hS => ?_)
                            generalize pI Mg28 a0 23 (((((((x1 / 201) / 3) / 4) / 10) / 4) - (((((x1 / 201) / 3) / 4) / 10) / 4) / 541 * 541).toInt32) = Mg29 at h hP hD hT ⊢
                            refine lv_aload_n hx hb dX13_restore_309 rfl (lv_at hl 10 rfl) ?_
                            refine lv_iload hx hb dX13_restore_310 (lv_at hl 5 rfl) ?_
                            refine lv_iconst (v := 3) hx hb dX13_restore_312 rfl ?_
                            refine lv_icmp_ne (tgt := 321) hx hb dX13_restore_313 rfl (fun c45 => ?_) (fun c45 => ?_)
                            · replace h := ite_f c45 h
                              refine lv_iload hx hb dX13_restore_321 (lv_at hl 5 rfl) ?_
                              refine r_putI (T := TX13) (ty := .int) (v := (((((x1 / 201) / 3) / 4) / 10) - ((((x1 / 201) / 3) / 4) / 10) / 4 * 4).toInt32) hx hb hts in13 tyX13 tyX13_ok nmX13 hown hK hP hD hT hS k0 (by decide) rfl 24 (by decide) (hts (.fieldLink RX13 509 "StoneWalkModel" "liesNow" "I") (List.mem_of_getElem? (i := 19) (by decide +kernel))) rfl rfl (tyX13_ok 24 (by decide)) rfl rfl rfl dX13_restore_323 (fun H locs hP hD hT hS => ?_)
                              generalize pI Mg29 a0 24 ((((((x1 / 201) / 3) / 4) / 10) - ((((x1 / 201) / 3) / 4) / 10) / 4 * 4).toInt32) = Mg30 at h hP hD hT ⊢
                              refine lv_aload_n hx hb dX13_restore_326 rfl (lv_at hl 10 rfl) ?_
                              obtain ⟨z46, h46, h⟩ := ob_some h
                              refine k_z (va_runV (As := []) (rest := []) ⟨hx, hb, hml, hown, hts⟩ (c_X13_granted (l := l) Mg30 a0 k0 h46) (cwV 0 hts gX13_restore_X13_granted rfl rfl rfl hdV_X13_granted ⟨Nat.le_of_ble_eq_true rfl, Nat.le_of_ble_eq_true rfl⟩) (pV (T := TX13) hP hK hD hT hG hS k0 (by decide) rfl) rfl rfl hl.1 rfl (lv_room (Nat.le_of_ble_eq_true rfl)) dX13_restore_327 ⟨Nat.zero_le _, Nat.zero_le _⟩) hS (fun H locs hz46 hP hD hT hS => ?_)
                              have hZ := Option.some.inj h
                              have hZ1 := congrArg Prod.fst hZ
                              have hZ2 := congrArg Prod.snd hZ
                              exact r_zret hx hb hr hlocks hP hK hD hT hG hS hz46 hZ1 hZ2 dX13_restore_330
                            · replace h := ite_t c45 h
                              refine lv_bipush (v := (-2)) hx hb dX13_restore_316 rfl ?_
                              refine lv_goto (tgt := 323) hx hb dX13_restore_318 rfl ?_
                              refine r_putI (T := TX13) (ty := .int) (v := (-2)) hx hb hts in13 tyX13 tyX13_ok nmX13 hown hK hP hD hT hS k0 (by decide) rfl 24 (by decide) (hts (.fieldLink RX13 509 "StoneWalkModel" "liesNow" "I") (List.mem_of_getElem? (i := 19) (by decide +kernel))) rfl rfl (tyX13_ok 24 (by decide)) rfl rfl rfl dX13_restore_323 (fun H locs hP hD hT hS => ?_)
                              generalize pI Mg29 a0 24 (-2) = Mg31 at h hP hD hT ⊢
                              refine lv_aload_n hx hb dX13_restore_326 rfl (lv_at hl 10 rfl) ?_
                              obtain ⟨z47, h47, h⟩ := ob_some h
                              refine k_z (va_runV (As := []) (rest := []) ⟨hx, hb, hml, hown, hts⟩ (c_X13_granted (l := l) Mg31 a0 k0 h47) (cwV 0 hts gX13_restore_X13_granted rfl rfl rfl hdV_X13_granted ⟨Nat.le_of_ble_eq_true rfl, Nat.le_of_ble_eq_true rfl⟩) (pV (T := TX13) hP hK hD hT hG hS k0 (by decide) rfl) rfl rfl hl.1 rfl (lv_room (Nat.le_of_ble_eq_true rfl)) dX13_restore_327 ⟨Nat.zero_le _, Nat.zero_le _⟩) hS (fun H locs hz47 hP hD hT hS => ?_)
                              have hZ := Option.some.inj h
                              have hZ1 := congrArg Prod.fst hZ
                              have hZ2 := congrArg Prod.snd hZ
                              exact r_zret hx hb hr hlocks hP hK hD hT hG hS hz47 hZ1 hZ2 dX13_restore_330
                          · replace h := ite_f c44 h
                            refine lv_aload_n hx hb dX13_restore_255 rfl (lv_at hl 10 rfl) ?_
                            refine lv_iconst (v := 2) hx hb dX13_restore_256 rfl ?_
                            obtain ⟨z48, h48, h⟩ := ob_some h
                            refine k_z (va_runV (As := [.int 2]) (rest := []) ⟨hx, hb, hml, hown, hts⟩ (c_X13_denied (l := l) Mg1 a0 2 k0 h48) (cwV 1 hts gX13_restore_X13_denied rfl rfl rfl hdV_X13_denied ⟨Nat.le_of_ble_eq_true rfl, Nat.le_of_ble_eq_true rfl⟩) (pV (T := TX13) hP hK hD hT hG hS k0 (by decide) rfl) rfl rfl hl.1 rfl (lv_room (Nat.le_of_ble_eq_true rfl)) dX13_restore_257 ⟨Nat.zero_le _, Nat.zero_le _⟩) hS (fun H locs hz48 hP hD hT hS => ?_)
                            have hZ := Option.some.inj h
                            have hZ1 := congrArg Prod.fst hZ
                            have hZ2 := congrArg Prod.snd hZ
                            exact r_zret hx hb hr hlocks hP hK hD hT hG hS hz48 hZ1 hZ2 dX13_restore_260
                        · replace h := ite_t c43 h
                          refine lv_iload hx hb dX13_restore_238 (lv_at hl 3 rfl) ?_
                          refine lv_iload hx hb dX13_restore_240 (lv_at hl 0 rfl) ?_
                          refine lv_icmp_eq (tgt := 261) hx hb dX13_restore_242 rfl (fun c49 => ?_) (fun c49 => ?_)
                          · replace h := ite_t c49 h
                            refine lv_aload_n hx hb dX13_restore_261 rfl (lv_at hl 10 rfl) ?_
                            refine lv_lload_n hx hb dX13_restore_262 rfl (lv_at hl 1 rfl) ?_
                            refine lv_l2i hx hb dX13_restore_263 rfl ?_
                            refine r_putI (T := TX13) (ty := .int) (v := ((((((((x1 / 201) / 3) / 4) / 10) / 4) / 541) / 7) / 6).toInt32) hx hb hts in13 tyX13 tyX13_ok nmX13 hown hK hP hD hT hS k0 (by decide) rfl 16 (by decide) (hts (.fieldLink RX13 437 "StoneWalkModel" "seed" "I") (List.mem_of_getElem? (i := 11) (by decide +kernel))) rfl rfl (tyX13_ok 16 (by decide)) rfl rfl rfl dX13_restore_264 (fun H locs hP hD hT hS => ?_)
                            generalize pI Mg1 a0 16 (((((((((x1 / 201) / 3) / 4) / 10) / 4) / 541) / 7) / 6).toInt32) = Mg32 at h hP hD hT ⊢
                            refine lv_aload_n hx hb dX13_restore_267 rfl (lv_at hl 10 rfl) ?_
                            refine lv_iload hx hb dX13_restore_268 (lv_at hl 6 rfl) ?_
                            refine r_putI (T := TX13) (ty := .int) (v := ((((x1 / 201) / 3) / 4) - (((x1 / 201) / 3) / 4) / 10 * 10).toInt32) hx hb hts in13 tyX13 tyX13_ok nmX13 hown hK hP hD hT hS k0 (by decide) rfl 17 (by decide) (hts (.fieldLink RX13 17 "StoneWalkModel" "moved" "I") (List.mem_of_getElem? (i := 12) (by decide +kernel))) rfl rfl (tyX13_ok 17 (by decide)) rfl rfl rfl dX13_restore_270 (fun H locs hP hD hT hS => ?_)
                            generalize pI Mg32 a0 17 (((((x1 / 201) / 3) / 4) - (((x1 / 201) / 3) / 4) / 10 * 10).toInt32) = Mg33 at h hP hD hT ⊢
                            refine lv_aload_n hx hb dX13_restore_273 rfl (lv_at hl 10 rfl) ?_
                            refine lv_iload hx hb dX13_restore_274 (lv_at hl 7 rfl) ?_
                            refine r_putI (T := TX13) (ty := .int) (v := (((x1 / 201) / 3) - ((x1 / 201) / 3) / 4 * 4).toInt32) hx hb hts in13 tyX13 tyX13_ok nmX13 hown hK hP hD hT hS k0 (by decide) rfl 18 (by decide) (hts (.fieldLink RX13 490 "StoneWalkModel" "movedBy" "I") (List.mem_of_getElem? (i := 13) (by decide +kernel))) rfl rfl (tyX13_ok 18 (by decide)) rfl rfl rfl dX13_restore_276 (fun H locs hP hD hT hS => ?_)
                            generalize pI Mg33 a0 18 ((((x1 / 201) / 3) - ((x1 / 201) / 3) / 4 * 4).toInt32) = Mg34 at h hP hD hT ⊢
                            refine lv_aload_n hx hb dX13_restore_279 rfl (lv_at hl 10 rfl) ?_
                            refine lv_iload hx hb dX13_restore_280 (lv_at hl 8 rfl) ?_
                            refine r_putI (T := TX13) (ty := .int) (v := ((x1 / 201) - (x1 / 201) / 3 * 3).toInt32) hx hb hts in13 tyX13 tyX13_ok nmX13 hown hK hP hD hT hS k0 (by decide) rfl 19 (by decide) (hts (.fieldLink RX13 493 "StoneWalkModel" "movedOn" "I") (List.mem_of_getElem? (i := 14) (by decide +kernel))) rfl rfl (tyX13_ok 19 (by decide)) rfl rfl rfl dX13_restore_282 (fun H locs hP hD hT hS => ?_)
                            generalize pI Mg34 a0 19 (((x1 / 201) - (x1 / 201) / 3 * 3).toInt32) = Mg35 at h hP hD hT ⊢
                            refine lv_aload_n hx hb dX13_restore_285 rfl (lv_at hl 10 rfl) ?_
                            refine lv_iload hx hb dX13_restore_286 (lv_at hl 9 rfl) ?_
                            refine r_putI (T := TX13) (ty := .int) (v := (x1 - x1 / 201 * 201).toInt32) hx hb hts in13 tyX13 tyX13_ok nmX13 hown hK hP hD hT hS k0 (by decide) rfl 20 (by decide) (hts (.fieldLink RX13 496 "StoneWalkModel" "people" "I") (List.mem_of_getElem? (i := 15) (by decide +kernel))) rfl rfl (tyX13_ok 20 (by decide)) rfl rfl rfl dX13_restore_288 (fun H locs hP hD hT hS => ?_)
                            generalize pI Mg35 a0 20 ((x1 - x1 / 201 * 201).toInt32) = Mg36 at h hP hD hT ⊢
                            refine lv_aload_n hx hb dX13_restore_291 rfl (lv_at hl 10 rfl) ?_
                            refine lv_iload hx hb dX13_restore_292 (lv_at hl 2 rfl) ?_
                            refine r_putI (T := TX13) (ty := .int) (v := ((((((((x1 / 201) / 3) / 4) / 10) / 4) / 541) / 7) - (((((((x1 / 201) / 3) / 4) / 10) / 4) / 541) / 7) / 6 * 6).toInt32) hx hb hts in13 tyX13 tyX13_ok nmX13 hown hK hP hD hT hS k0 (by decide) rfl 21 (by decide) (hts (.fieldLink RX13 500 "StoneWalkModel" "told" "I") (List.mem_of_getElem? (i := 16) (by decide +kernel))) rfl rfl (tyX13_ok 21 (by decide)) rfl rfl rfl dX13_restore_294 (fun H locs hP hD hT hS => ?_)
                            generalize pI Mg36 a0 21 (((((((((x1 / 201) / 3) / 4) / 10) / 4) / 541) / 7) - (((((((x1 / 201) / 3) / 4) / 10) / 4) / 541) / 7) / 6 * 6).toInt32) = Mg37 at h hP hD hT ⊢
                            refine lv_aload_n hx hb dX13_restore_297 rfl (lv_at hl 10 rfl) ?_
                            refine lv_iload hx hb dX13_restore_298 (lv_at hl 3 rfl) ?_
                            refine r_putI (T := TX13) (ty := .int) (v := (((((((x1 / 201) / 3) / 4) / 10) / 4) / 541) - ((((((x1 / 201) / 3) / 4) / 10) / 4) / 541) / 7 * 7).toInt32) hx hb hts in13 tyX13 tyX13_ok nmX13 hown hK hP hD hT hS k0 (by decide) rfl 22 (by decide) (hts (.fieldLink RX13 503 "StoneWalkModel" "slopesGone" "I") (List.mem_of_getElem? (i := 17) (by decide +kernel))) rfl rfl (tyX13_ok 22 (by decide)) rfl rfl rfl dX13_restore_300 (fun H locs hP hD hT hS => ?_)
                            generalize pI Mg37 a0 22 ((((((((x1 / 201) / 3) / 4) / 10) / 4) / 541) - ((((((x1 / 201) / 3) / 4) / 10) / 4) / 541) / 7 * 7).toInt32) = Mg38 at h hP hD hT ⊢
                            refine lv_aload_n hx hb dX13_restore_303 rfl (lv_at hl 10 rfl) ?_
                            refine lv_iload hx hb dX13_restore_304 (lv_at hl 4 rfl) ?_
                            refine r_putI (T := TX13) (ty := .int) (v := ((((((x1 / 201) / 3) / 4) / 10) / 4) - (((((x1 / 201) / 3) / 4) / 10) / 4) / 541 * 541).toInt32) hx hb hts in13 tyX13 tyX13_ok nmX13 hown hK hP hD hT hS k0 (by decide) rfl 23 (by decide) (hts (.fieldLink RX13 506 "StoneWalkModel" "minutesGone" "I") (List.mem_of_getElem? (i := 18) (by decide +kernel))) rfl rfl (tyX13_ok 23 (by decide)) rfl rfl rfl dX13_restore_306 (fun H locs hP hD hT hS => ?_)
                            generalize pI Mg38 a0 23 (((((((x1 / 201) / 3) / 4) / 10) / 4) - (((((x1 / 201) / 3) / 4) / 10) / 4) / 541 * 541).toInt32) = Mg39 at h hP hD hT ⊢
                            refine lv_aload_n hx hb dX13_restore_309 rfl (lv_at hl 10 rfl) ?_
                            refine lv_iload hx hb dX13_restore_310 (lv_at hl 5 rfl) ?_
                            refine lv_iconst (v := 3) hx hb dX13_restore_312 rfl ?_
                            refine lv_icmp_ne (tgt := 321) hx hb dX13_restore_313 rfl (fun c50 => ?_) (fun c50 => ?_)
                            · replace h := ite_f c50 h
                              refine lv_iload hx hb dX13_restore_321 (lv_at hl 5 rfl) ?_
                              refine r_putI (T := TX13) (ty := .int) (v := (((((x1 / 201) / 3) / 4) / 10) - ((((x1 / 201) / 3) / 4) / 10) / 4 * 4).toInt32) hx hb hts in13 tyX13 tyX13_ok nmX13 hown hK hP hD hT hS k0 (by decide) rfl 24 (by decide) (hts (.fieldLink RX13 509 "StoneWalkModel" "liesNow" "I") (List.mem_of_getElem? (i := 19) (by decide +kernel))) rfl rfl (tyX13_ok 24 (by decide)) rfl rfl rfl dX13_restore_323 (fun H locs hP hD hT hS => ?_)
                              generalize pI Mg39 a0 24 ((((((x1 / 201) / 3) / 4) / 10) - ((((x1 / 201) / 3) / 4) / 10) / 4 * 4).toInt32) = Mg40 at h hP hD hT ⊢
                              refine lv_aload_n hx hb dX13_restore_326 rfl (lv_at hl 10 rfl) ?_
                              obtain ⟨z51, h51, h⟩ := ob_some h
                              refine k_z (va_runV (As := []) (rest := []) ⟨hx, hb, hml, hown, hts⟩ (c_X13_granted (l := l) Mg40 a0 k0 h51) (cwV 0 hts gX13_restore_X13_granted rfl rfl rfl hdV_X13_granted ⟨Nat.le_of_ble_eq_true rfl, Nat.le_of_ble_eq_true rfl⟩) (pV (T := TX13) hP hK hD hT hG hS k0 (by decide) rfl) rfl rfl hl.1 rfl (lv_room (Nat.le_of_ble_eq_true rfl)) dX13_restore_327 ⟨Nat.zero_le _, Nat.zero_le _⟩) hS (fun H locs hz51 hP hD hT hS => ?_)
                              have hZ := Option.some.inj h
                              have hZ1 := congrArg Prod.fst hZ
                              have hZ2 := congrArg Prod.snd hZ
                              exact r_zret hx hb hr hlocks hP hK hD hT hG hS hz51 hZ1 hZ2 dX13_restore_330
                            · replace h := ite_t c50 h
                              refine lv_bipush (v := (-2)) hx hb dX13_restore_316 rfl ?_
                              refine lv_goto (tgt := 323) hx hb dX13_restore_318 rfl ?_
                              refine r_putI (T := TX13) (ty := .int) (v := (-2)) hx hb hts in13 tyX13 tyX13_ok nmX13 hown hK hP hD hT hS k0 (by decide) rfl 24 (by decide) (hts (.fieldLink RX13 509 "StoneWalkModel" "liesNow" "I") (List.mem_of_getElem? (i := 19) (by decide +kernel))) rfl rfl (tyX13_ok 24 (by decide)) rfl rfl rfl dX13_restore_323 (fun H locs hP hD hT hS => ?_)
                              generalize pI Mg39 a0 24 (-2) = Mg41 at h hP hD hT ⊢
                              refine lv_aload_n hx hb dX13_restore_326 rfl (lv_at hl 10 rfl) ?_
                              obtain ⟨z52, h52, h⟩ := ob_some h
                              refine k_z (va_runV (As := []) (rest := []) ⟨hx, hb, hml, hown, hts⟩ (c_X13_granted (l := l) Mg41 a0 k0 h52) (cwV 0 hts gX13_restore_X13_granted rfl rfl rfl hdV_X13_granted ⟨Nat.le_of_ble_eq_true rfl, Nat.le_of_ble_eq_true rfl⟩) (pV (T := TX13) hP hK hD hT hG hS k0 (by decide) rfl) rfl rfl hl.1 rfl (lv_room (Nat.le_of_ble_eq_true rfl)) dX13_restore_327 ⟨Nat.zero_le _, Nat.zero_le _⟩) hS (fun H locs hz52 hP hD hT hS => ?_)
                              have hZ := Option.some.inj h
                              have hZ1 := congrArg Prod.fst hZ
                              have hZ2 := congrArg Prod.snd hZ
                              exact r_zret hx hb hr hlocks hP hK hD hT hG hS hz52 hZ1 hZ2 dX13_restore_330
                          · replace h := ite_f c49 h
                            refine lv_goto (tgt := 255) hx hb dX13_restore_245 rfl ?_
                            refine lv_aload_n hx hb dX13_restore_255 rfl (lv_at hl 10 rfl) ?_
                            refine lv_iconst (v := 2) hx hb dX13_restore_256 rfl ?_
                            obtain ⟨z53, h53, h⟩ := ob_some h
                            refine k_z (va_runV (As := [.int 2]) (rest := []) ⟨hx, hb, hml, hown, hts⟩ (c_X13_denied (l := l) Mg1 a0 2 k0 h53) (cwV 1 hts gX13_restore_X13_denied rfl rfl rfl hdV_X13_denied ⟨Nat.le_of_ble_eq_true rfl, Nat.le_of_ble_eq_true rfl⟩) (pV (T := TX13) hP hK hD hT hG hS k0 (by decide) rfl) rfl rfl hl.1 rfl (lv_room (Nat.le_of_ble_eq_true rfl)) dX13_restore_257 ⟨Nat.zero_le _, Nat.zero_le _⟩) hS (fun H locs hz53 hP hD hT hS => ?_)
                            have hZ := Option.some.inj h
                            have hZ1 := congrArg Prod.fst hZ
                            have hZ2 := congrArg Prod.snd hZ
                            exact r_zret hx hb hr hlocks hP hK hD hT hG hS hz53 hZ1 hZ2 dX13_restore_260
                    · replace h := ite_t c38 h
                      refine lv_iconst (v := 1) hx hb dX13_restore_206 rfl ?_
                      refine lv_goto (tgt := 211) hx hb dX13_restore_207 rfl ?_
                      refine lv_icmp_ne (tgt := 220) hx hb dX13_restore_211 rfl (fun c54 => absurd c54 (by decide)) (fun _ => ?_)
                      refine lv_aload_n hx hb dX13_restore_214 rfl (lv_at hl 9 rfl) ?_
                      refine lv_iconst (v := 2) hx hb dX13_restore_215 rfl ?_
                      obtain ⟨z55, h55, h⟩ := ob_some h
                      refine k_z (va_runV (As := [.int 2]) (rest := []) ⟨hx, hb, hml, hown, hts⟩ (c_X13_denied (l := l) Mg1 a0 2 k0 h55) (cwV 1 hts gX13_restore_X13_denied rfl rfl rfl hdV_X13_denied ⟨Nat.le_of_ble_eq_true rfl, Nat.le_of_ble_eq_true rfl⟩) (pV (T := TX13) hP hK hD hT hG hS k0 (by decide) rfl) rfl rfl hl.1 rfl (lv_room (Nat.le_of_ble_eq_true rfl)) dX13_restore_216 ⟨Nat.zero_le _, Nat.zero_le _⟩) hS (fun H locs hz55 hP hD hT hS => ?_)
                      have hZ := Option.some.inj h
                      have hZ1 := congrArg Prod.fst hZ
                      have hZ2 := congrArg Prod.snd hZ
                      exact r_zret hx hb hr hlocks hP hK hD hT hG hS hz55 hZ1 hZ2 dX13_restore_219
    · replace h := ite_f c3 h
      refine lv_aload_n hx hb dX13_restore_24 rfl (lv_at hl 0 rfl) ?_
      refine lv_iconst (v := 2) hx hb dX13_restore_25 rfl ?_
      obtain ⟨z56, h56, h⟩ := ob_some h
      refine k_z (va_runV (As := [.int 2]) (rest := []) ⟨hx, hb, hml, hown, hts⟩ (c_X13_denied (l := l) Mg1 a0 2 k0 h56) (cwV 1 hts gX13_restore_X13_denied rfl rfl rfl hdV_X13_denied ⟨Nat.le_of_ble_eq_true rfl, Nat.le_of_ble_eq_true rfl⟩) (pV (T := TX13) hP hK hD hT hG hS k0 (by decide) rfl) rfl rfl hl.1 rfl (lv_room (Nat.le_of_ble_eq_true rfl)) dX13_restore_26 ⟨Nat.zero_le _, Nat.zero_le _⟩) hS (fun H locs hz56 hP hD hT hS => ?_)
      have hZ := Option.some.inj h
      have hZ1 := congrArg Prod.fst hZ
      have hZ2 := congrArg Prod.snd hZ
      exact r_zret hx hb hr hlocks hP hK hD hT hG hS hz56 hZ1 hZ2 dX13_restore_29
set_option maxHeartbeats 4000000 in
set_option maxRecDepth 100000 in
theorem c_X13_meanLean {l : Launch} {D : va_G} {ad : Nat → Nat} {cy : Nat → ClassId} {A : Nat → Prop} {g : CG} {q : SE} (M : MM) (a0 : Nat) (x1 : Int32) (x2 : Int32) (k0 : ok g a0 13 0) {Z : Int32} (h : f_X13_meanLean M a0 x1 x2 = some Z) : Met l yX13_meanLean wsX13_meanLean ({ frames := 0, cells := 0, slots := 0, locals := 0 }) (va_Pc [.ref (ad a0), .int x1, .int x2] (Wd D ad cy A g q M)) (va_Qi (fun r u => r = Z ∧ u = M) (Wd D ad cy A g q) A) 0 0 A := by
  refine Met.ofW (cc := cX13_meanLean) (maxL := 6) (ret := (some .int)) (by decide) rfl ?_
  intro p e s m args below meth c s₁ B hml hv
  obtain ⟨rfl, hP, hK, hD, hT, hG⟩ := hv
  have hx := B.exec
  have hb := B.bytes
  have hr := B.returns
  have hts := atoms_spec (ws := wsX13_meanLean) B.pre
  have hown : s.vm.findClass RX13 = some m.cls := findClass_of_methodNamed B.named
  have hlocks := B.notSynchronized
  have in12 : ∀ w ∈ u_ws RX12 TX12 48, w ∈ wsX13_meanLean := fun w h => List.mem_cons_of_mem _ (List.mem_append_right _ h)
  have in13 : ∀ w ∈ u_ws RX13 TX13 29, w ∈ wsX13_meanLean := fun w h => List.mem_cons_of_mem _ (List.mem_append_left _ (List.mem_append_right _ h))
  have hS : va_S A s.heap s.heap [] := va_S.rf
  have hl := lv_entry ([.ref (ad a0), .int x1, .int x2]) (n := 6) (Nat.le_of_ble_eq_true rfl)
  rw [lg_entry_eq]
  generalize (lg_sl ([.ref (ad a0), .int x1, .int x2]) ++ List.replicate (6 - (lg_sl ([.ref (ad a0), .int x1, .int x2])).length) Slot.unset).toArray = ls at hl ⊢
  have hl : lv_has ls 6 [(0, .ref (ad a0)), (1, .int x1), (2, .int x2)] := hl
  unfold f_X13_meanLean at h
  refine lv_iconst (v := 0) hx hb dX13_meanLean_0 rfl ?_
  refine lv_istore_n (lv' := [(3, .int 0), (0, .ref (ad a0)), (1, .int x1), (2, .int x2)]) hx hb dX13_meanLean_1 rfl hl (by decide) rfl (fun ls hl => ?_)
  refine lv_iconst (v := 0) hx hb dX13_meanLean_2 rfl ?_
  refine lv_istore (lv' := [(4, .int 0), (3, .int 0), (0, .ref (ad a0)), (1, .int x1), (2, .int x2)]) hx hb dX13_meanLean_3 hl (by decide) rfl (fun ls hl => ?_)
  refine lv_iconst (v := 0) hx hb dX13_meanLean_5 rfl ?_
  refine lv_istore (lv' := [(5, .int 0), (4, .int 0), (3, .int 0), (0, .ref (ad a0)), (1, .int x1), (2, .int x2)]) hx hb dX13_meanLean_6 hl (by decide) rfl (fun ls hl => ?_)
  have L1 : ∀ n1 : Nat, ∀ (y1_0 : Nat) (y1_1 : Int32) (y1_2 : Int32) (y1_3 : Int32) (y1_4 : Int32) (y1_5 : Int32) (ky1_0 : ok g y1_0 13 0) (H : Heap) (locs : List Loc), f_X13_meanLean_L8 n1 M y1_0 y1_1 y1_2 y1_3 y1_4 y1_5 = some Z → va_P D vwCl (wd ad cy g M) H → va_D A (wd ad cy g M) → WT g M → va_S A s.heap H locs → ∀ (ls : Array Slot), lv_has ls 6 [(0, .ref (ad y1_0)), (1, .int y1_1), (2, .int y1_2), (3, .int y1_3), (4, .int y1_4), (5, .int y1_5)] → W p l e ((headSpec wsX13_meanLean ({ frames := 0, cells := 0, slots := 0, locals := 0 })).room) s m (([.ref (ad a0), .int x1, .int x2] : List Value).toArray) below meth c H locs 0 0 (MQ below (va_Qi (fun r u => r = Z ∧ u = M) (Wd D ad cy A g q) A) ([.ref (ad a0), .int x1, .int x2]).toArray s 0 0 A) (F0 m 8 ls []) := by
    intro n1
    induction n1 with
    | zero => intro y1_0 y1_1 y1_2 y1_3 y1_4 y1_5 ky1_0 H locs h; exact absurd h (by simp [f_X13_meanLean_L8])
    | succ n1 ih1 =>
      intro y1_0 y1_1 y1_2 y1_3 y1_4 y1_5 ky1_0 H locs h hP hD hT hS ls hl
      rw [f_X13_meanLean_L8] at h
      refine lv_iload hx hb dX13_meanLean_8 (lv_at hl 5 rfl) ?_
      refine lv_aload_n hx hb dX13_meanLean_10 rfl (lv_at hl 0 rfl) ?_
      rcases hN2 : gR M y1_0 3 with _ | b2
      · replace h := oc_n hN2 h
        refine r_get (T := TX13) (v := .null) hx hb hts in13 hown hK hP ky1_0 (by decide) rfl 3 (by decide) (hts (.fieldLink RX13 431 "StoneWalkModel" "island" "LStoneWalkModel$Island;") (List.mem_of_getElem? (i := 1) (by decide +kernel))) rfl (t := 2) rfl (by show va_rf _ = _; rw [hN2]; rfl) dX13_meanLean_11 ?_
        exact absurd h (by simp)
      · replace h := oc_s hN2 h
        have kb2 := hT.f ky1_0 (k := 3) (t := 12) (n := 0) rfl hN2
        refine r_get (T := TX13) (v := .ref (ad b2)) hx hb hts in13 hown hK hP ky1_0 (by decide) rfl 3 (by decide) (hts (.fieldLink RX13 431 "StoneWalkModel" "island" "LStoneWalkModel$Island;") (List.mem_of_getElem? (i := 1) (by decide +kernel))) rfl (t := 2) rfl (by show va_rf _ = _; rw [hN2]; rfl) dX13_meanLean_11 ?_
        refine r_getN (T := TX12) (v := .int (gI M b2 2)) hx hb hts in12 hown hK hP kb2 (by decide) rfl 2 (by decide) (hG.2.2.1 ("StoneWalkModel", 191, "StoneWalkModel$Island", "statues", "I", "StoneWalkModel") (List.mem_of_getElem? (i := 7) rfl)) rfl (t := 0) rfl rfl dX13_meanLean_14 ?_
        refine lv_icmp_ge (tgt := 65) hx hb dX13_meanLean_17 rfl (fun c3 => ?_) (fun c3 => ?_)
        · replace h := ite_t c3 h
          refine lv_iload hx hb dX13_meanLean_65 (lv_at hl 4 rfl) ?_
          refine lv_if_ne (tgt := 74) hx hb dX13_meanLean_67 rfl (fun c4 => ?_) (fun c4 => ?_)
          · replace h := ite_f c4 h
            refine lv_iload_n hx hb dX13_meanLean_74 rfl (lv_at hl 3 rfl) ?_
            refine lv_iload hx hb dX13_meanLean_75 (lv_at hl 4 rfl) ?_
            obtain ⟨hn5, h⟩ := chk_some h
            refine lv_idiv hx hb dX13_meanLean_77 hn5 ?_
            exact r_iret hx hb hr hlocks hP hK hD hT hG hS (Option.some.inj h) rfl dX13_meanLean_78
          · replace h := ite_t c4 h
            refine lv_iconst (v := (-1)) hx hb dX13_meanLean_70 rfl ?_
            refine lv_goto (tgt := 78) hx hb dX13_meanLean_71 rfl ?_
            exact r_iret hx hb hr hlocks hP hK hD hT hG hS (Option.some.inj h) rfl dX13_meanLean_78
        · replace h := ite_f c3 h
          refine lv_aload_n hx hb dX13_meanLean_20 rfl (lv_at hl 0 rfl) ?_
          rcases hN6 : gR M y1_0 3 with _ | b6
          · replace h := oc_n hN6 h
            refine r_get (T := TX13) (v := .null) hx hb hts in13 hown hK hP ky1_0 (by decide) rfl 3 (by decide) (hts (.fieldLink RX13 431 "StoneWalkModel" "island" "LStoneWalkModel$Island;") (List.mem_of_getElem? (i := 1) (by decide +kernel))) rfl (t := 2) rfl (by show va_rf _ = _; rw [hN6]; rfl) dX13_meanLean_21 ?_
            exact absurd h (by simp)
          · replace h := oc_s hN6 h
            have kb6 := hT.f ky1_0 (k := 3) (t := 12) (n := 0) rfl hN6
            refine r_get (T := TX13) (v := .ref (ad b6)) hx hb hts in13 hown hK hP ky1_0 (by decide) rfl 3 (by decide) (hts (.fieldLink RX13 431 "StoneWalkModel" "island" "LStoneWalkModel$Island;") (List.mem_of_getElem? (i := 1) (by decide +kernel))) rfl (t := 2) rfl (by show va_rf _ = _; rw [hN6]; rfl) dX13_meanLean_21 ?_
            rcases hN7 : gR M b6 18 with _ | b7
            · exact absurd (oc_n hN7 h) (by simp)
            replace h := oc_s hN7 h
            have kb7 := hT.f kb6 (k := 18) (t := 15) (n := 10) rfl hN7
            refine r_getN (T := TX12) (v := .ref (ad b7)) hx hb hts in12 hown hK hP kb6 (by decide) rfl 18 (by decide) (hG.2.2.1 ("StoneWalkModel", 307, "StoneWalkModel$Island", "sort", "[I", "StoneWalkModel") (List.mem_of_getElem? (i := 18) rfl)) rfl (t := 2) rfl (by show va_rf _ = _; rw [hN7]; rfl) dX13_meanLean_24 ?_
            refine lv_iload hx hb dX13_meanLean_27 (lv_at hl 5 rfl) ?_
            obtain ⟨hn8, h⟩ := chk_some h
            refine r_iald hx hb hK hP kb7 hn8 dX13_meanLean_29 ?_
            refine lv_iload_n hx hb dX13_meanLean_30 rfl (lv_at hl 1 rfl) ?_
            refine lv_icmp_ne (tgt := 59) hx hb dX13_meanLean_31 rfl (fun c9 => ?_) (fun c9 => ?_)
            · replace h := ite_f c9 h
              refine lv_iinc (v := y1_5 + 1) (lv' := [(5, .int (y1_5 + 1)), (0, .ref (ad y1_0)), (1, .int y1_1), (2, .int y1_2), (3, .int y1_3), (4, .int y1_4)]) hx hb dX13_meanLean_59 hl (k := 5) rfl rfl (by decide) rfl (fun ls hl => ?_)
              refine lv_goto (tgt := 8) hx hb dX13_meanLean_62 rfl ?_
              exact ih1 y1_0 y1_1 y1_2 y1_3 y1_4 (y1_5 + 1) ky1_0 _ _ h hP hD hT hS ls (lv_sub hl [1, 2, 3, 4, 5, 0] rfl)
            · replace h := ite_t c9 h
              refine lv_iload hx hb dX13_meanLean_34 (lv_at hl 5 rfl) ?_
              refine lv_iload_n hx hb dX13_meanLean_36 rfl (lv_at hl 2 rfl) ?_
              refine lv_icmp_ne (tgt := 43) hx hb dX13_meanLean_37 rfl (fun c10 => ?_) (fun c10 => ?_)
              · replace h := ite_f c10 h
                refine lv_iload_n hx hb dX13_meanLean_43 rfl (lv_at hl 3 rfl) ?_
                refine lv_aload_n hx hb dX13_meanLean_44 rfl (lv_at hl 0 rfl) ?_
                rcases hN11 : gR M y1_0 3 with _ | b11
                · replace h := oc_n hN11 h
                  refine r_get (T := TX13) (v := .null) hx hb hts in13 hown hK hP ky1_0 (by decide) rfl 3 (by decide) (hts (.fieldLink RX13 431 "StoneWalkModel" "island" "LStoneWalkModel$Island;") (List.mem_of_getElem? (i := 1) (by decide +kernel))) rfl (t := 2) rfl (by show va_rf _ = _; rw [hN11]; rfl) dX13_meanLean_45 ?_
                  exact absurd h (by simp)
                · replace h := oc_s hN11 h
                  have kb11 := hT.f ky1_0 (k := 3) (t := 12) (n := 0) rfl hN11
                  refine r_get (T := TX13) (v := .ref (ad b11)) hx hb hts in13 hown hK hP ky1_0 (by decide) rfl 3 (by decide) (hts (.fieldLink RX13 431 "StoneWalkModel" "island" "LStoneWalkModel$Island;") (List.mem_of_getElem? (i := 1) (by decide +kernel))) rfl (t := 2) rfl (by show va_rf _ = _; rw [hN11]; rfl) dX13_meanLean_45 ?_
                  rcases hN12 : gR M b11 16 with _ | b12
                  · exact absurd (oc_n hN12 h) (by simp)
                  replace h := oc_s hN12 h
                  have kb12 := hT.f kb11 (k := 16) (t := 15) (n := 10) rfl hN12
                  refine r_getN (T := TX12) (v := .ref (ad b12)) hx hb hts in12 hown hK hP kb11 (by decide) rfl 16 (by decide) (hG.2.2.1 ("StoneWalkModel", 303, "StoneWalkModel$Island", "lean", "[I", "StoneWalkModel") (List.mem_of_getElem? (i := 16) rfl)) rfl (t := 2) rfl (by show va_rf _ = _; rw [hN12]; rfl) dX13_meanLean_48 ?_
                  refine lv_iload hx hb dX13_meanLean_51 (lv_at hl 5 rfl) ?_
                  obtain ⟨hn13, h⟩ := chk_some h
                  refine r_iald hx hb hK hP kb12 hn13 dX13_meanLean_53 ?_
                  refine lv_iadd hx hb dX13_meanLean_54 ?_
                  refine lv_istore_n (lv' := [(3, .int (y1_3 + (gI M b12 (ix y1_5)))), (0, .ref (ad y1_0)), (1, .int y1_1), (2, .int y1_2), (4, .int y1_4), (5, .int y1_5)]) hx hb dX13_meanLean_55 rfl hl (by decide) rfl (fun ls hl => ?_)
                  refine lv_iinc (v := y1_4 + 1) (lv' := [(4, .int (y1_4 + 1)), (3, .int (y1_3 + (gI M b12 (ix y1_5)))), (0, .ref (ad y1_0)), (1, .int y1_1), (2, .int y1_2), (5, .int y1_5)]) hx hb dX13_meanLean_56 hl (k := 4) rfl rfl (by decide) rfl (fun ls hl => ?_)
                  refine lv_iinc (v := y1_5 + 1) (lv' := [(5, .int (y1_5 + 1)), (4, .int (y1_4 + 1)), (3, .int (y1_3 + (gI M b12 (ix y1_5)))), (0, .ref (ad y1_0)), (1, .int y1_1), (2, .int y1_2)]) hx hb dX13_meanLean_59 hl (k := 5) rfl rfl (by decide) rfl (fun ls hl => ?_)
                  refine lv_goto (tgt := 8) hx hb dX13_meanLean_62 rfl ?_
                  exact ih1 y1_0 y1_1 y1_2 (y1_3 + (gI M b12 (ix y1_5))) (y1_4 + 1) (y1_5 + 1) ky1_0 _ _ h hP hD hT hS ls (lv_sub hl [3, 4, 5, 2, 1, 0] rfl)
              · replace h := ite_t c10 h
                refine lv_goto (tgt := 59) hx hb dX13_meanLean_40 rfl ?_
                refine lv_iinc (v := y1_5 + 1) (lv' := [(5, .int (y1_5 + 1)), (0, .ref (ad y1_0)), (1, .int y1_1), (2, .int y1_2), (3, .int y1_3), (4, .int y1_4)]) hx hb dX13_meanLean_59 hl (k := 5) rfl rfl (by decide) rfl (fun ls hl => ?_)
                refine lv_goto (tgt := 8) hx hb dX13_meanLean_62 rfl ?_
                exact ih1 y1_0 y1_1 y1_2 y1_3 y1_4 (y1_5 + 1) ky1_0 _ _ h hP hD hT hS ls (lv_sub hl [1, 2, 3, 4, 5, 0] rfl)
  exact L1 FU a0 x1 x2 0 0 0 k0 _ _ h hP hD hT hS ls (lv_sub hl [3, 4, 5, 2, 1, 0] rfl)
set_option maxHeartbeats 4000000 in
set_option maxRecDepth 100000 in
theorem c_X13_shapeOf {l : Launch} {D : va_G} {ad : Nat → Nat} {cy : Nat → ClassId} {A : Nat → Prop} {g : CG} {q : SE} (M : MM) (a0 : Nat) (x1 : Int32) (x2 : Int32) (k0 : ok g a0 13 0) {Z : Int32} (h : f_X13_shapeOf M a0 x1 x2 = some Z) : Met l yX13_shapeOf wsX13_shapeOf ({ frames := 1, cells := 0, slots := 0, locals := 25 }) (va_Pc [.ref (ad a0), .int x1, .int x2] (Wd D ad cy A g q M)) (va_Qi (fun r u => r = Z ∧ u = M) (Wd D ad cy A g q) A) 0 0 A := by
  refine Met.ofW (cc := cX13_shapeOf) (maxL := 6) (ret := (some .int)) (by decide) rfl ?_
  intro p e s m args below meth c s₁ B hml hv
  obtain ⟨rfl, hP, hK, hD, hT, hG⟩ := hv
  have hx := B.exec
  have hb := B.bytes
  have hr := B.returns
  have hts := atoms_spec (ws := wsX13_shapeOf) B.pre
  have hown : s.vm.findClass RX13 = some m.cls := findClass_of_methodNamed B.named
  have hlocks := B.notSynchronized
  have in12 : ∀ w ∈ u_ws RX12 TX12 48, w ∈ wsX13_shapeOf := fun w h => List.mem_cons_of_mem _ (List.mem_append_right _ h)
  have in13 : ∀ w ∈ u_ws RX13 TX13 29, w ∈ wsX13_shapeOf := fun w h => List.mem_cons_of_mem _ (List.mem_append_left _ (List.mem_append_right _ h))
  have hS : va_S A s.heap s.heap [] := va_S.rf
  have hl := lv_entry ([.ref (ad a0), .int x1, .int x2]) (n := 6) (Nat.le_of_ble_eq_true rfl)
  rw [lg_entry_eq]
  generalize (lg_sl ([.ref (ad a0), .int x1, .int x2]) ++ List.replicate (6 - (lg_sl ([.ref (ad a0), .int x1, .int x2])).length) Slot.unset).toArray = ls at hl ⊢
  have hl : lv_has ls 6 [(0, .ref (ad a0)), (1, .int x1), (2, .int x2)] := hl
  unfold f_X13_shapeOf at h
  refine lv_aload_n hx hb dX13_shapeOf_0 rfl (lv_at hl 0 rfl) ?_
  refine lv_iconst (v := 5) hx hb dX13_shapeOf_1 rfl ?_
  refine lv_iload_n hx hb dX13_shapeOf_2 rfl (lv_at hl 2 rfl) ?_
  obtain ⟨z1, h1, h⟩ := ob_some h
  refine k_i (va_runV (As := [.int 5, .int x2]) (rest := []) ⟨hx, hb, hml, hown, hts⟩ (c_X13_meanLean (l := l) M a0 5 x2 k0 h1) (cwV 2 hts gX13_shapeOf_X13_meanLean rfl rfl rfl hdV_X13_meanLean ⟨Nat.le_of_ble_eq_true rfl, Nat.le_of_ble_eq_true rfl⟩) (pV (T := TX13) hP hK hD hT hG hS k0 (by decide) rfl) rfl rfl hl.1 rfl (lv_room (Nat.le_of_ble_eq_true rfl)) dX13_shapeOf_3 ⟨Nat.zero_le _, Nat.zero_le _⟩) hS (fun H locs hP hD hT hS => ?_)
  refine lv_istore_n (lv' := [(3, .int z1), (0, .ref (ad a0)), (1, .int x1), (2, .int x2)]) hx hb dX13_shapeOf_6 rfl hl (by decide) rfl (fun ls hl => ?_)
  refine lv_aload_n hx hb dX13_shapeOf_7 rfl (lv_at hl 1 rfl) ?_
  refine lv_iconst (v := 3) hx hb dX13_shapeOf_8 rfl ?_
  refine lv_iload_n hx hb dX13_shapeOf_9 rfl (lv_at hl 3 rfl) ?_
  obtain ⟨z2, h2, h⟩ := ob_some h
  refine k_i (va_runV (As := [.int 3, .int x2]) (rest := []) ⟨hx, hb, hml, hown, hts⟩ (c_X13_meanLean (l := l) M a0 3 x2 k0 h2) (cwV 2 hts gX13_shapeOf_X13_meanLean rfl rfl rfl hdV_X13_meanLean ⟨Nat.le_of_ble_eq_true rfl, Nat.le_of_ble_eq_true rfl⟩) (pV (T := TX13) hP hK hD hT hG hS k0 (by decide) rfl) rfl rfl hl.1 rfl (lv_room (Nat.le_of_ble_eq_true rfl)) dX13_shapeOf_10 ⟨Nat.zero_le _, Nat.zero_le _⟩) hS (fun H locs hP hD hT hS => ?_)
  refine lv_istore (lv' := [(4, .int z2), (3, .int z1), (0, .ref (ad a0)), (1, .int x1), (2, .int x2)]) hx hb dX13_shapeOf_13 hl (by decide) rfl (fun ls hl => ?_)
  refine lv_iload_n hx hb dX13_shapeOf_15 rfl (lv_at hl 1 rfl) ?_
  refine lv_if_lt (tgt := 24) hx hb dX13_shapeOf_16 rfl (fun c3 => ?_) (fun c3 => ?_)
  · replace h := ite_t c3 h
    refine lv_iconst (v := 1) hx hb dX13_shapeOf_24 rfl ?_
    exact r_iret hx hb hr hlocks hP hK hD hT hG hS (Option.some.inj h) rfl dX13_shapeOf_25
  · replace h := ite_f c3 h
    refine lv_iload hx hb dX13_shapeOf_19 (lv_at hl 0 rfl) ?_
    refine lv_if_ge (tgt := 26) hx hb dX13_shapeOf_21 rfl (fun c4 => ?_) (fun c4 => ?_)
    · replace h := ite_t c4 h
      refine lv_aload_n hx hb dX13_shapeOf_26 rfl (lv_at hl 2 rfl) ?_
      rcases hN5 : gR M a0 3 with _ | b5
      · replace h := oc_n hN5 h
        refine r_get (T := TX13) (v := .null) hx hb hts in13 hown hK hP k0 (by decide) rfl 3 (by decide) (hts (.fieldLink RX13 431 "StoneWalkModel" "island" "LStoneWalkModel$Island;") (List.mem_of_getElem? (i := 1) (by decide +kernel))) rfl (t := 2) rfl (by show va_rf _ = _; rw [hN5]; rfl) dX13_shapeOf_27 ?_
        exact absurd h (by simp)
      · replace h := oc_s hN5 h
        have kb5 := hT.f k0 (k := 3) (t := 12) (n := 0) rfl hN5
        refine r_get (T := TX13) (v := .ref (ad b5)) hx hb hts in13 hown hK hP k0 (by decide) rfl 3 (by decide) (hts (.fieldLink RX13 431 "StoneWalkModel" "island" "LStoneWalkModel$Island;") (List.mem_of_getElem? (i := 1) (by decide +kernel))) rfl (t := 2) rfl (by show va_rf _ = _; rw [hN5]; rfl) dX13_shapeOf_27 ?_
        rcases hN6 : gR M b5 9 with _ | b6
        · exact absurd (oc_n hN6 h) (by simp)
        replace h := oc_s hN6 h
        have kb6 := hT.f kb5 (k := 9) (t := 15) (n := 4) rfl hN6
        refine r_getN (T := TX12) (v := .ref (ad b6)) hx hb hts in12 hown hK hP kb5 (by decide) rfl 9 (by decide) (hG.2.2.1 ("StoneWalkModel", 247, "StoneWalkModel$Island", "kind", "[I", "StoneWalkModel") (List.mem_of_getElem? (i := 8) rfl)) rfl (t := 2) rfl (by show va_rf _ = _; rw [hN6]; rfl) dX13_shapeOf_30 ?_
        refine lv_iload_n hx hb dX13_shapeOf_33 rfl (lv_at hl 3 rfl) ?_
        obtain ⟨hn7, h⟩ := chk_some h
        refine r_iald hx hb hK hP kb6 hn7 dX13_shapeOf_34 ?_
        refine lv_if_ne (tgt := 42) hx hb dX13_shapeOf_35 rfl (fun c8 => ?_) (fun c8 => ?_)
        · replace h := ite_f c8 h
          refine lv_iconst (v := 0) hx hb dX13_shapeOf_42 rfl ?_
          refine lv_istore (lv' := [(5, .int 0), (4, .int z2), (3, .int z1), (0, .ref (ad a0)), (1, .int x1), (2, .int x2)]) hx hb dX13_shapeOf_43 hl (by decide) rfl (fun ls hl => ?_)
          refine lv_iload_n hx hb dX13_shapeOf_45 rfl (lv_at hl 2 rfl) ?_
          refine lv_iload hx hb dX13_shapeOf_46 (lv_at hl 1 rfl) ?_
          refine lv_isub hx hb dX13_shapeOf_48 ?_
          refine lv_iconst (v := 5) hx hb dX13_shapeOf_49 rfl ?_
          refine lv_icmp_lt (tgt := 67) hx hb dX13_shapeOf_50 rfl (fun c9 => ?_) (fun c9 => ?_)
          · replace h := ite_t c9 h
            refine lv_iload hx hb dX13_shapeOf_67 (lv_at hl 0 rfl) ?_
            refine lv_if_eq (tgt := 76) hx hb dX13_shapeOf_69 rfl (fun _ => ?_) (fun c10 => absurd c10 (by decide))
            refine lv_bipush (v := 6) hx hb dX13_shapeOf_76 rfl ?_
            exact r_iret hx hb hr hlocks hP hK hD hT hG hS (Option.some.inj h) rfl dX13_shapeOf_78
          · replace h := ite_f c9 h
            refine lv_iload hx hb dX13_shapeOf_53 (lv_at hl 0 rfl) ?_
            refine lv_if_eq (tgt := 63) hx hb dX13_shapeOf_55 rfl (fun _ => ?_) (fun c11 => absurd c11 (by decide))
            refine lv_iconst (v := 3) hx hb dX13_shapeOf_63 rfl ?_
            refine lv_goto (tgt := 78) hx hb dX13_shapeOf_64 rfl ?_
            exact r_iret hx hb hr hlocks hP hK hD hT hG hS (Option.some.inj h) rfl dX13_shapeOf_78
        · replace h := ite_t c8 h
          refine lv_iconst (v := 1) hx hb dX13_shapeOf_38 rfl ?_
          refine lv_goto (tgt := 43) hx hb dX13_shapeOf_39 rfl ?_
          refine lv_istore (lv' := [(5, .int 1), (4, .int z2), (3, .int z1), (0, .ref (ad a0)), (1, .int x1), (2, .int x2)]) hx hb dX13_shapeOf_43 hl (by decide) rfl (fun ls hl => ?_)
          refine lv_iload_n hx hb dX13_shapeOf_45 rfl (lv_at hl 2 rfl) ?_
          refine lv_iload hx hb dX13_shapeOf_46 (lv_at hl 1 rfl) ?_
          refine lv_isub hx hb dX13_shapeOf_48 ?_
          refine lv_iconst (v := 5) hx hb dX13_shapeOf_49 rfl ?_
          refine lv_icmp_lt (tgt := 67) hx hb dX13_shapeOf_50 rfl (fun c12 => ?_) (fun c12 => ?_)
          · replace h := ite_t c12 h
            refine lv_iload hx hb dX13_shapeOf_67 (lv_at hl 0 rfl) ?_
            refine lv_if_eq (tgt := 76) hx hb dX13_shapeOf_69 rfl (fun c13 => absurd c13 (by decide)) (fun _ => ?_)
            refine lv_iconst (v := 2) hx hb dX13_shapeOf_72 rfl ?_
            refine lv_goto (tgt := 78) hx hb dX13_shapeOf_73 rfl ?_
            exact r_iret hx hb hr hlocks hP hK hD hT hG hS (Option.some.inj h) rfl dX13_shapeOf_78
          · replace h := ite_f c12 h
            refine lv_iload hx hb dX13_shapeOf_53 (lv_at hl 0 rfl) ?_
            refine lv_if_eq (tgt := 63) hx hb dX13_shapeOf_55 rfl (fun c14 => absurd c14 (by decide)) (fun _ => ?_)
            refine lv_bipush (v := 9) hx hb dX13_shapeOf_58 rfl ?_
            refine lv_goto (tgt := 78) hx hb dX13_shapeOf_60 rfl ?_
            exact r_iret hx hb hr hlocks hP hK hD hT hG hS (Option.some.inj h) rfl dX13_shapeOf_78
    · replace h := ite_f c4 h
      refine lv_iconst (v := 1) hx hb dX13_shapeOf_24 rfl ?_
      exact r_iret hx hb hr hlocks hP hK hD hT hG hS (Option.some.inj h) rfl dX13_shapeOf_25
set_option maxHeartbeats 4000000 in
set_option maxRecDepth 100000 in
theorem c_X13_hollowOf {l : Launch} {D : va_G} {ad : Nat → Nat} {cy : Nat → ClassId} {A : Nat → Prop} {g : CG} {q : SE} (M : MM) (a0 : Nat) (x1 : Int32) (x2 : Int32) (k0 : ok g a0 13 0) {Z : Int32} (h : f_X13_hollowOf M a0 x1 x2 = some Z) : Met l yX13_hollowOf wsX13_hollowOf ({ frames := 0, cells := 0, slots := 0, locals := 0 }) (va_Pc [.ref (ad a0), .int x1, .int x2] (Wd D ad cy A g q M)) (va_Qi (fun r u => r = Z ∧ u = M) (Wd D ad cy A g q) A) 0 0 A := by
  refine Met.ofW (cc := cX13_hollowOf) (maxL := 5) (ret := (some .int)) (by decide) rfl ?_
  intro p e s m args below meth c s₁ B hml hv
  obtain ⟨rfl, hP, hK, hD, hT, hG⟩ := hv
  have hx := B.exec
  have hb := B.bytes
  have hr := B.returns
  have hts := atoms_spec (ws := wsX13_hollowOf) B.pre
  have hown : s.vm.findClass RX13 = some m.cls := findClass_of_methodNamed B.named
  have hlocks := B.notSynchronized
  have in12 : ∀ w ∈ u_ws RX12 TX12 48, w ∈ wsX13_hollowOf := fun w h => List.mem_cons_of_mem _ (List.mem_append_right _ h)
  have in13 : ∀ w ∈ u_ws RX13 TX13 29, w ∈ wsX13_hollowOf := fun w h => List.mem_cons_of_mem _ (List.mem_append_left _ (List.mem_append_right _ h))
  have hS : va_S A s.heap s.heap [] := va_S.rf
  have hl := lv_entry ([.ref (ad a0), .int x1, .int x2]) (n := 5) (Nat.le_of_ble_eq_true rfl)
  rw [lg_entry_eq]
  generalize (lg_sl ([.ref (ad a0), .int x1, .int x2]) ++ List.replicate (5 - (lg_sl ([.ref (ad a0), .int x1, .int x2])).length) Slot.unset).toArray = ls at hl ⊢
  have hl : lv_has ls 5 [(0, .ref (ad a0)), (1, .int x1), (2, .int x2)] := hl
  unfold f_X13_hollowOf at h
  refine lv_aload_n hx hb dX13_hollowOf_0 rfl (lv_at hl 0 rfl) ?_
  rcases hN1 : gR M a0 3 with _ | b1
  · replace h := oc_n hN1 h
    refine r_get (T := TX13) (v := .null) hx hb hts in13 hown hK hP k0 (by decide) rfl 3 (by decide) (hts (.fieldLink RX13 431 "StoneWalkModel" "island" "LStoneWalkModel$Island;") (List.mem_of_getElem? (i := 1) (by decide +kernel))) rfl (t := 2) rfl (by show va_rf _ = _; rw [hN1]; rfl) dX13_hollowOf_1 ?_
    exact absurd h (by simp)
  · replace h := oc_s hN1 h
    have kb1 := hT.f k0 (k := 3) (t := 12) (n := 0) rfl hN1
    refine r_get (T := TX13) (v := .ref (ad b1)) hx hb hts in13 hown hK hP k0 (by decide) rfl 3 (by decide) (hts (.fieldLink RX13 431 "StoneWalkModel" "island" "LStoneWalkModel$Island;") (List.mem_of_getElem? (i := 1) (by decide +kernel))) rfl (t := 2) rfl (by show va_rf _ = _; rw [hN1]; rfl) dX13_hollowOf_1 ?_
    rcases hN2 : gR M b1 9 with _ | b2
    · exact absurd (oc_n hN2 h) (by simp)
    replace h := oc_s hN2 h
    have kb2 := hT.f kb1 (k := 9) (t := 15) (n := 4) rfl hN2
    refine r_getN (T := TX12) (v := .ref (ad b2)) hx hb hts in12 hown hK hP kb1 (by decide) rfl 9 (by decide) (hG.2.2.1 ("StoneWalkModel", 247, "StoneWalkModel$Island", "kind", "[I", "StoneWalkModel") (List.mem_of_getElem? (i := 8) rfl)) rfl (t := 2) rfl (by show va_rf _ = _; rw [hN2]; rfl) dX13_hollowOf_4 ?_
    refine lv_iload_n hx hb dX13_hollowOf_7 rfl (lv_at hl 1 rfl) ?_
    obtain ⟨hn3, h⟩ := chk_some h
    refine r_iald hx hb hK hP kb2 hn3 dX13_hollowOf_8 ?_
    refine lv_istore_n (lv' := [(3, .int (gI M b2 (ix x1))), (0, .ref (ad a0)), (1, .int x1), (2, .int x2)]) hx hb dX13_hollowOf_9 rfl hl (by decide) rfl (fun ls hl => ?_)
    refine lv_iload_n hx hb dX13_hollowOf_10 rfl (lv_at hl 0 rfl) ?_
    refine lv_if_ne (tgt := 19) hx hb dX13_hollowOf_11 rfl (fun c4 => ?_) (fun c4 => ?_)
    · replace h := ite_f c4 h
      refine lv_iload_n hx hb dX13_hollowOf_19 rfl (lv_at hl 0 rfl) ?_
      refine lv_iconst (v := 1) hx hb dX13_hollowOf_20 rfl ?_
      refine lv_icmp_ne (tgt := 28) hx hb dX13_hollowOf_21 rfl (fun c5 => ?_) (fun c5 => ?_)
      · replace h := ite_f c5 h
        refine lv_iload_n hx hb dX13_hollowOf_28 rfl (lv_at hl 0 rfl) ?_
        refine lv_iconst (v := 2) hx hb dX13_hollowOf_29 rfl ?_
        refine lv_icmp_ne (tgt := 37) hx hb dX13_hollowOf_30 rfl (fun c6 => ?_) (fun c6 => ?_)
        · replace h := ite_f c6 h
          refine lv_bipush (v := 6) hx hb dX13_hollowOf_37 rfl ?_
          refine lv_istore (lv' := [(4, .int 6), (3, .int (gI M b2 (ix x1))), (0, .ref (ad a0)), (1, .int x1), (2, .int x2)]) hx hb dX13_hollowOf_39 hl (by decide) rfl (fun ls hl => ?_)
          refine lv_aload_n hx hb dX13_hollowOf_41 rfl (lv_at hl 2 rfl) ?_
          rcases hN7 : gR M a0 3 with _ | b7
          · replace h := oc_n hN7 h
            refine r_get (T := TX13) (v := .null) hx hb hts in13 hown hK hP k0 (by decide) rfl 3 (by decide) (hts (.fieldLink RX13 431 "StoneWalkModel" "island" "LStoneWalkModel$Island;") (List.mem_of_getElem? (i := 1) (by decide +kernel))) rfl (t := 2) rfl (by show va_rf _ = _; rw [hN7]; rfl) dX13_hollowOf_42 ?_
            exact absurd h (by simp)
          · replace h := oc_s hN7 h
            have kb7 := hT.f k0 (k := 3) (t := 12) (n := 0) rfl hN7
            refine r_get (T := TX13) (v := .ref (ad b7)) hx hb hts in13 hown hK hP k0 (by decide) rfl 3 (by decide) (hts (.fieldLink RX13 431 "StoneWalkModel" "island" "LStoneWalkModel$Island;") (List.mem_of_getElem? (i := 1) (by decide +kernel))) rfl (t := 2) rfl (by show va_rf _ = _; rw [hN7]; rfl) dX13_hollowOf_42 ?_
            rcases hN8 : gR M b7 12 with _ | b8
            · exact absurd (oc_n hN8 h) (by simp)
            replace h := oc_s hN8 h
            have kb8 := hT.f kb7 (k := 12) (t := 15) (n := 3) rfl hN8
            refine r_getN (T := TX12) (v := .ref (ad b8)) hx hb hts in12 hown hK hP kb7 (by decide) rfl 12 (by decide) (hG.2.2.1 ("StoneWalkModel", 264, "StoneWalkModel$Island", "hollow", "[I", "StoneWalkModel") (List.mem_of_getElem? (i := 12) rfl)) rfl (t := 2) rfl (by show va_rf _ = _; rw [hN8]; rfl) dX13_hollowOf_45 ?_
            refine lv_iload_n hx hb dX13_hollowOf_48 rfl (lv_at hl 4 rfl) ?_
            obtain ⟨hn9, h⟩ := chk_some h
            refine r_iald hx hb hK hP kb8 hn9 dX13_hollowOf_49 ?_
            refine lv_iconst (v := 3) hx hb dX13_hollowOf_50 rfl ?_
            refine lv_icmp_lt (tgt := 59) hx hb dX13_hollowOf_51 rfl (fun c10 => ?_) (fun c10 => ?_)
            · replace h := ite_t c10 h
              refine lv_bipush (v := 10) hx hb dX13_hollowOf_59 rfl ?_
              refine lv_iload hx hb dX13_hollowOf_61 (lv_at hl 0 rfl) ?_
              refine lv_isub hx hb dX13_hollowOf_63 ?_
              exact r_iret hx hb hr hlocks hP hK hD hT hG hS (Option.some.inj h) rfl dX13_hollowOf_64
            · replace h := ite_f c10 h
              refine lv_iload hx hb dX13_hollowOf_54 (lv_at hl 0 rfl) ?_
              refine lv_goto (tgt := 64) hx hb dX13_hollowOf_56 rfl ?_
              exact r_iret hx hb hr hlocks hP hK hD hT hG hS (Option.some.inj h) rfl dX13_hollowOf_64
        · replace h := ite_t c6 h
          refine lv_iconst (v := 3) hx hb dX13_hollowOf_33 rfl ?_
          refine lv_goto (tgt := 39) hx hb dX13_hollowOf_34 rfl ?_
          refine lv_istore (lv' := [(4, .int 3), (3, .int (gI M b2 (ix x1))), (0, .ref (ad a0)), (1, .int x1), (2, .int x2)]) hx hb dX13_hollowOf_39 hl (by decide) rfl (fun ls hl => ?_)
          refine lv_aload_n hx hb dX13_hollowOf_41 rfl (lv_at hl 2 rfl) ?_
          rcases hN11 : gR M a0 3 with _ | b11
          · replace h := oc_n hN11 h
            refine r_get (T := TX13) (v := .null) hx hb hts in13 hown hK hP k0 (by decide) rfl 3 (by decide) (hts (.fieldLink RX13 431 "StoneWalkModel" "island" "LStoneWalkModel$Island;") (List.mem_of_getElem? (i := 1) (by decide +kernel))) rfl (t := 2) rfl (by show va_rf _ = _; rw [hN11]; rfl) dX13_hollowOf_42 ?_
            exact absurd h (by simp)
          · replace h := oc_s hN11 h
            have kb11 := hT.f k0 (k := 3) (t := 12) (n := 0) rfl hN11
            refine r_get (T := TX13) (v := .ref (ad b11)) hx hb hts in13 hown hK hP k0 (by decide) rfl 3 (by decide) (hts (.fieldLink RX13 431 "StoneWalkModel" "island" "LStoneWalkModel$Island;") (List.mem_of_getElem? (i := 1) (by decide +kernel))) rfl (t := 2) rfl (by show va_rf _ = _; rw [hN11]; rfl) dX13_hollowOf_42 ?_
            rcases hN12 : gR M b11 12 with _ | b12
            · exact absurd (oc_n hN12 h) (by simp)
            replace h := oc_s hN12 h
            have kb12 := hT.f kb11 (k := 12) (t := 15) (n := 3) rfl hN12
            refine r_getN (T := TX12) (v := .ref (ad b12)) hx hb hts in12 hown hK hP kb11 (by decide) rfl 12 (by decide) (hG.2.2.1 ("StoneWalkModel", 264, "StoneWalkModel$Island", "hollow", "[I", "StoneWalkModel") (List.mem_of_getElem? (i := 12) rfl)) rfl (t := 2) rfl (by show va_rf _ = _; rw [hN12]; rfl) dX13_hollowOf_45 ?_
            refine lv_iload_n hx hb dX13_hollowOf_48 rfl (lv_at hl 4 rfl) ?_
            obtain ⟨hn13, h⟩ := chk_some h
            refine r_iald hx hb hK hP kb12 hn13 dX13_hollowOf_49 ?_
            refine lv_iconst (v := 3) hx hb dX13_hollowOf_50 rfl ?_
            refine lv_icmp_lt (tgt := 59) hx hb dX13_hollowOf_51 rfl (fun c14 => ?_) (fun c14 => ?_)
            · replace h := ite_t c14 h
              refine lv_bipush (v := 10) hx hb dX13_hollowOf_59 rfl ?_
              refine lv_iload hx hb dX13_hollowOf_61 (lv_at hl 0 rfl) ?_
              refine lv_isub hx hb dX13_hollowOf_63 ?_
              exact r_iret hx hb hr hlocks hP hK hD hT hG hS (Option.some.inj h) rfl dX13_hollowOf_64
            · replace h := ite_f c14 h
              refine lv_iload hx hb dX13_hollowOf_54 (lv_at hl 0 rfl) ?_
              refine lv_goto (tgt := 64) hx hb dX13_hollowOf_56 rfl ?_
              exact r_iret hx hb hr hlocks hP hK hD hT hG hS (Option.some.inj h) rfl dX13_hollowOf_64
      · replace h := ite_t c5 h
        refine lv_iconst (v := 1) hx hb dX13_hollowOf_24 rfl ?_
        refine lv_goto (tgt := 39) hx hb dX13_hollowOf_25 rfl ?_
        refine lv_istore (lv' := [(4, .int 1), (3, .int (gI M b2 (ix x1))), (0, .ref (ad a0)), (1, .int x1), (2, .int x2)]) hx hb dX13_hollowOf_39 hl (by decide) rfl (fun ls hl => ?_)
        refine lv_aload_n hx hb dX13_hollowOf_41 rfl (lv_at hl 2 rfl) ?_
        rcases hN15 : gR M a0 3 with _ | b15
        · replace h := oc_n hN15 h
          refine r_get (T := TX13) (v := .null) hx hb hts in13 hown hK hP k0 (by decide) rfl 3 (by decide) (hts (.fieldLink RX13 431 "StoneWalkModel" "island" "LStoneWalkModel$Island;") (List.mem_of_getElem? (i := 1) (by decide +kernel))) rfl (t := 2) rfl (by show va_rf _ = _; rw [hN15]; rfl) dX13_hollowOf_42 ?_
          exact absurd h (by simp)
        · replace h := oc_s hN15 h
          have kb15 := hT.f k0 (k := 3) (t := 12) (n := 0) rfl hN15
          refine r_get (T := TX13) (v := .ref (ad b15)) hx hb hts in13 hown hK hP k0 (by decide) rfl 3 (by decide) (hts (.fieldLink RX13 431 "StoneWalkModel" "island" "LStoneWalkModel$Island;") (List.mem_of_getElem? (i := 1) (by decide +kernel))) rfl (t := 2) rfl (by show va_rf _ = _; rw [hN15]; rfl) dX13_hollowOf_42 ?_
          rcases hN16 : gR M b15 12 with _ | b16
          · exact absurd (oc_n hN16 h) (by simp)
          replace h := oc_s hN16 h
          have kb16 := hT.f kb15 (k := 12) (t := 15) (n := 3) rfl hN16
          refine r_getN (T := TX12) (v := .ref (ad b16)) hx hb hts in12 hown hK hP kb15 (by decide) rfl 12 (by decide) (hG.2.2.1 ("StoneWalkModel", 264, "StoneWalkModel$Island", "hollow", "[I", "StoneWalkModel") (List.mem_of_getElem? (i := 12) rfl)) rfl (t := 2) rfl (by show va_rf _ = _; rw [hN16]; rfl) dX13_hollowOf_45 ?_
          refine lv_iload_n hx hb dX13_hollowOf_48 rfl (lv_at hl 4 rfl) ?_
          obtain ⟨hn17, h⟩ := chk_some h
          refine r_iald hx hb hK hP kb16 hn17 dX13_hollowOf_49 ?_
          refine lv_iconst (v := 3) hx hb dX13_hollowOf_50 rfl ?_
          refine lv_icmp_lt (tgt := 59) hx hb dX13_hollowOf_51 rfl (fun c18 => ?_) (fun c18 => ?_)
          · replace h := ite_t c18 h
            refine lv_bipush (v := 10) hx hb dX13_hollowOf_59 rfl ?_
            refine lv_iload hx hb dX13_hollowOf_61 (lv_at hl 0 rfl) ?_
            refine lv_isub hx hb dX13_hollowOf_63 ?_
            exact r_iret hx hb hr hlocks hP hK hD hT hG hS (Option.some.inj h) rfl dX13_hollowOf_64
          · replace h := ite_f c18 h
            refine lv_iload hx hb dX13_hollowOf_54 (lv_at hl 0 rfl) ?_
            refine lv_goto (tgt := 64) hx hb dX13_hollowOf_56 rfl ?_
            exact r_iret hx hb hr hlocks hP hK hD hT hG hS (Option.some.inj h) rfl dX13_hollowOf_64
    · replace h := ite_t c4 h
      refine lv_bipush (v := 8) hx hb dX13_hollowOf_14 rfl ?_
      refine lv_goto (tgt := 39) hx hb dX13_hollowOf_16 rfl ?_
      refine lv_istore (lv' := [(4, .int 8), (3, .int (gI M b2 (ix x1))), (0, .ref (ad a0)), (1, .int x1), (2, .int x2)]) hx hb dX13_hollowOf_39 hl (by decide) rfl (fun ls hl => ?_)
      refine lv_aload_n hx hb dX13_hollowOf_41 rfl (lv_at hl 2 rfl) ?_
      rcases hN19 : gR M a0 3 with _ | b19
      · replace h := oc_n hN19 h
        refine r_get (T := TX13) (v := .null) hx hb hts in13 hown hK hP k0 (by decide) rfl 3 (by decide) (hts (.fieldLink RX13 431 "StoneWalkModel" "island" "LStoneWalkModel$Island;") (List.mem_of_getElem? (i := 1) (by decide +kernel))) rfl (t := 2) rfl (by show va_rf _ = _; rw [hN19]; rfl) dX13_hollowOf_42 ?_
        exact absurd h (by simp)
      · replace h := oc_s hN19 h
        have kb19 := hT.f k0 (k := 3) (t := 12) (n := 0) rfl hN19
        refine r_get (T := TX13) (v := .ref (ad b19)) hx hb hts in13 hown hK hP k0 (by decide) rfl 3 (by decide) (hts (.fieldLink RX13 431 "StoneWalkModel" "island" "LStoneWalkModel$Island;") (List.mem_of_getElem? (i := 1) (by decide +kernel))) rfl (t := 2) rfl (by show va_rf _ = _; rw [hN19]; rfl) dX13_hollowOf_42 ?_
        rcases hN20 : gR M b19 12 with _ | b20
        · exact absurd (oc_n hN20 h) (by simp)
        replace h := oc_s hN20 h
        have kb20 := hT.f kb19 (k := 12) (t := 15) (n := 3) rfl hN20
        refine r_getN (T := TX12) (v := .ref (ad b20)) hx hb hts in12 hown hK hP kb19 (by decide) rfl 12 (by decide) (hG.2.2.1 ("StoneWalkModel", 264, "StoneWalkModel$Island", "hollow", "[I", "StoneWalkModel") (List.mem_of_getElem? (i := 12) rfl)) rfl (t := 2) rfl (by show va_rf _ = _; rw [hN20]; rfl) dX13_hollowOf_45 ?_
        refine lv_iload_n hx hb dX13_hollowOf_48 rfl (lv_at hl 4 rfl) ?_
        obtain ⟨hn21, h⟩ := chk_some h
        refine r_iald hx hb hK hP kb20 hn21 dX13_hollowOf_49 ?_
        refine lv_iconst (v := 3) hx hb dX13_hollowOf_50 rfl ?_
        refine lv_icmp_lt (tgt := 59) hx hb dX13_hollowOf_51 rfl (fun c22 => ?_) (fun c22 => ?_)
        · replace h := ite_t c22 h
          refine lv_bipush (v := 10) hx hb dX13_hollowOf_59 rfl ?_
          refine lv_iload hx hb dX13_hollowOf_61 (lv_at hl 0 rfl) ?_
          refine lv_isub hx hb dX13_hollowOf_63 ?_
          exact r_iret hx hb hr hlocks hP hK hD hT hG hS (Option.some.inj h) rfl dX13_hollowOf_64
        · replace h := ite_f c22 h
          refine lv_iload hx hb dX13_hollowOf_54 (lv_at hl 0 rfl) ?_
          refine lv_goto (tgt := 64) hx hb dX13_hollowOf_56 rfl ?_
          exact r_iret hx hb hr hlocks hP hK hD hT hG hS (Option.some.inj h) rfl dX13_hollowOf_64
