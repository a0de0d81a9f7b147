theorem hdV_X13_restore : yX13_restore.cls = RX13 ∧ yX13_restore.cls ≠ "java/lang/invoke/MethodHandle" ∧ yX13_restore.cls ≠ "java/lang/invoke/VarHandle" ∧ (parseMethodDescriptor yX13_restore.desc).map (fun d => d.parameters.length) = some 1 := by decide +kernel
theorem hdV_X13_meanLean : yX13_meanLean.cls = RX13 ∧ yX13_meanLean.cls ≠ "java/lang/invoke/MethodHandle" ∧ yX13_meanLean.cls ≠ "java/lang/invoke/VarHandle" ∧ (parseMethodDescriptor yX13_meanLean.desc).map (fun d => d.parameters.length) = some 2 := by decide +kernel
theorem hdV_X13_shapeOf : yX13_shapeOf.cls = RX13 ∧ yX13_shapeOf.cls ≠ "java/lang/invoke/MethodHandle" ∧ yX13_shapeOf.cls ≠ "java/lang/invoke/VarHandle" ∧ (parseMethodDescriptor yX13_shapeOf.desc).map (fun d => d.parameters.length) = some 2 := by decide +kernel
theorem hdV_X13_hollowOf : yX13_hollowOf.cls = RX13 ∧ yX13_hollowOf.cls ≠ "java/lang/invoke/MethodHandle" ∧ yX13_hollowOf.cls ≠ "java/lang/invoke/VarHandle" ∧ (parseMethodDescriptor yX13_hollowOf.desc).map (fun d => d.parameters.length) = some 2 := by decide +kernel
theorem hdV_X13_toldOf : yX13_toldOf.cls = RX13 ∧ yX13_toldOf.cls ≠ "java/lang/invoke/MethodHandle" ∧ yX13_toldOf.cls ≠ "java/lang/invoke/VarHandle" ∧ (parseMethodDescriptor yX13_toldOf.desc).map (fun d => d.parameters.length) = some 2 := by decide +kernel
theorem hdV_X13_liesBy : yX13_liesBy.cls = RX13 ∧ yX13_liesBy.cls ≠ "java/lang/invoke/MethodHandle" ∧ yX13_liesBy.cls ≠ "java/lang/invoke/VarHandle" ∧ (parseMethodDescriptor yX13_liesBy.desc).map (fun d => d.parameters.length) = some 2 := by decide +kernel
theorem hdV_X13_oddsOf : yX13_oddsOf.cls = RX13 ∧ yX13_oddsOf.cls ≠ "java/lang/invoke/MethodHandle" ∧ yX13_oddsOf.cls ≠ "java/lang/invoke/VarHandle" ∧ (parseMethodDescriptor yX13_oddsOf.desc).map (fun d => d.parameters.length) = some 2 := by decide +kernel
theorem hdV_X13_odds : yX13_odds.cls = RX13 ∧ yX13_odds.cls ≠ "java/lang/invoke/MethodHandle" ∧ yX13_odds.cls ≠ "java/lang/invoke/VarHandle" ∧ (parseMethodDescriptor yX13_odds.desc).map (fun d => d.parameters.length) = some 1 := by decide +kernel
theorem hdV_X13_likeliestOf : yX13_likeliestOf.cls = RX13 ∧ yX13_likeliestOf.cls ≠ "java/lang/invoke/MethodHandle" ∧ yX13_likeliestOf.cls ≠ "java/lang/invoke/VarHandle" ∧ (parseMethodDescriptor yX13_likeliestOf.desc).map (fun d => d.parameters.length) = some 1 := by decide +kernel
theorem hdV_X13_likeliest : yX13_likeliest.cls = RX13 ∧ yX13_likeliest.cls ≠ "java/lang/invoke/MethodHandle" ∧ yX13_likeliest.cls ≠ "java/lang/invoke/VarHandle" ∧ (parseMethodDescriptor yX13_likeliest.desc).map (fun d => d.parameters.length) = some 0 := by decide +kernel
theorem hdV_X13_lies : yX13_lies.cls = RX13 ∧ yX13_lies.cls ≠ "java/lang/invoke/MethodHandle" ∧ yX13_lies.cls ≠ "java/lang/invoke/VarHandle" ∧ (parseMethodDescriptor yX13_lies.desc).map (fun d => d.parameters.length) = some 2 := by decide +kernel
theorem hdV_X13_hollow : yX13_hollow.cls = RX13 ∧ yX13_hollow.cls ≠ "java/lang/invoke/MethodHandle" ∧ yX13_hollow.cls ≠ "java/lang/invoke/VarHandle" ∧ (parseMethodDescriptor yX13_hollow.desc).map (fun d => d.parameters.length) = some 2 := by decide +kernel
theorem hdV_X13_shape : yX13_shape.cls = RX13 ∧ yX13_shape.cls ≠ "java/lang/invoke/MethodHandle" ∧ yX13_shape.cls ≠ "java/lang/invoke/VarHandle" ∧ (parseMethodDescriptor yX13_shape.desc).map (fun d => d.parameters.length) = some 1 := by decide +kernel
theorem hdV_X13_changed : yX13_changed.cls = RX13 ∧ yX13_changed.cls ≠ "java/lang/invoke/MethodHandle" ∧ yX13_changed.cls ≠ "java/lang/invoke/VarHandle" ∧ (parseMethodDescriptor yX13_changed.desc).map (fun d => d.parameters.length) = some 0 := by decide +kernel
theorem hdV_X13_told : yX13_told.cls = RX13 ∧ yX13_told.cls ≠ "java/lang/invoke/MethodHandle" ∧ yX13_told.cls ≠ "java/lang/invoke/VarHandle" ∧ (parseMethodDescriptor yX13_told.desc).map (fun d => d.parameters.length) = some 2 := by decide +kernel
theorem hdV_X13_turn : yX13_turn.cls = RX13 ∧ yX13_turn.cls ≠ "java/lang/invoke/MethodHandle" ∧ yX13_turn.cls ≠ "java/lang/invoke/VarHandle" ∧ (parseMethodDescriptor yX13_turn.desc).map (fun d => d.parameters.length) = some 2 := by decide +kernel
theorem hdV_X13_hangs : yX13_hangs.cls = RX13 ∧ yX13_hangs.cls ≠ "java/lang/invoke/MethodHandle" ∧ yX13_hangs.cls ≠ "java/lang/invoke/VarHandle" ∧ (parseMethodDescriptor yX13_hangs.desc).map (fun d => d.parameters.length) = some 0 := by decide +kernel
theorem hdV_X13_tryout : yX13_tryout.cls = RX13 ∧ yX13_tryout.cls ≠ "java/lang/invoke/MethodHandle" ∧ yX13_tryout.cls ≠ "java/lang/invoke/VarHandle" ∧ (parseMethodDescriptor yX13_tryout.desc).map (fun d => d.parameters.length) = some 0 := by decide +kernel
theorem hdV_X13_people : yX13_people.cls = RX13 ∧ yX13_people.cls ≠ "java/lang/invoke/MethodHandle" ∧ yX13_people.cls ≠ "java/lang/invoke/VarHandle" ∧ (parseMethodDescriptor yX13_people.desc).map (fun d => d.parameters.length) = some 3 := by decide +kernel
theorem hdV_X13_takes : yX13_takes.cls = RX13 ∧ yX13_takes.cls ≠ "java/lang/invoke/MethodHandle" ∧ yX13_takes.cls ≠ "java/lang/invoke/VarHandle" ∧ (parseMethodDescriptor yX13_takes.desc).map (fun d => d.parameters.length) = some 3 := by decide +kernel
theorem hdV_X13_off : yX13_off.cls = RX13 ∧ yX13_off.cls ≠ "java/lang/invoke/MethodHandle" ∧ yX13_off.cls ≠ "java/lang/invoke/VarHandle" ∧ (parseMethodDescriptor yX13_off.desc).map (fun d => d.parameters.length) = some 1 := by decide +kernel
theorem hdV_X13_woodBy : yX13_woodBy.cls = RX13 ∧ yX13_woodBy.cls ≠ "java/lang/invoke/MethodHandle" ∧ yX13_woodBy.cls ≠ "java/lang/invoke/VarHandle" ∧ (parseMethodDescriptor yX13_woodBy.desc).map (fun d => d.parameters.length) = some 1 := by decide +kernel
theorem hdV_X13_wood : yX13_wood.cls = RX13 ∧ yX13_wood.cls ≠ "java/lang/invoke/MethodHandle" ∧ yX13_wood.cls ≠ "java/lang/invoke/VarHandle" ∧ (parseMethodDescriptor yX13_wood.desc).map (fun d => d.parameters.length) = some 1 := by decide +kernel
theorem hdV_X13_enough : yX13_enough.cls = RX13 ∧ yX13_enough.cls ≠ "java/lang/invoke/MethodHandle" ∧ yX13_enough.cls ≠ "java/lang/invoke/VarHandle" ∧ (parseMethodDescriptor yX13_enough.desc).map (fun d => d.parameters.length) = some 1 := by decide +kernel
theorem hdV_X13_treesAfter : yX13_treesAfter.cls = RX13 ∧ yX13_treesAfter.cls ≠ "java/lang/invoke/MethodHandle" ∧ yX13_treesAfter.cls ≠ "java/lang/invoke/VarHandle" ∧ (parseMethodDescriptor yX13_treesAfter.desc).map (fun d => d.parameters.length) = some 3 := by decide +kernel
theorem hdV_X13_treesIn : yX13_treesIn.cls = RX13 ∧ yX13_treesIn.cls ≠ "java/lang/invoke/MethodHandle" ∧ yX13_treesIn.cls ≠ "java/lang/invoke/VarHandle" ∧ (parseMethodDescriptor yX13_treesIn.desc).map (fun d => d.parameters.length) = some 2 := by decide +kernel
theorem hdV_X13_trees : yX13_trees.cls = RX13 ∧ yX13_trees.cls ≠ "java/lang/invoke/MethodHandle" ∧ yX13_trees.cls ≠ "java/lang/invoke/VarHandle" ∧ (parseMethodDescriptor yX13_trees.desc).map (fun d => d.parameters.length) = some 2 := by decide +kernel
theorem hdV_X13_see : yX13_see.cls = RX13 ∧ yX13_see.cls ≠ "java/lang/invoke/MethodHandle" ∧ yX13_see.cls ≠ "java/lang/invoke/VarHandle" ∧ (parseMethodDescriptor yX13_see.desc).map (fun d => d.parameters.length) = some 3 := by decide +kernel
theorem hdV_X13_forget : yX13_forget.cls = RX13 ∧ yX13_forget.cls ≠ "java/lang/invoke/MethodHandle" ∧ yX13_forget.cls ≠ "java/lang/invoke/VarHandle" ∧ (parseMethodDescriptor yX13_forget.desc).map (fun d => d.parameters.length) = some 0 := by decide +kernel
theorem hdV_X13_isFit : yX13_isFit.cls = RX13 ∧ yX13_isFit.cls ≠ "java/lang/invoke/MethodHandle" ∧ yX13_isFit.cls ≠ "java/lang/invoke/VarHandle" ∧ (parseMethodDescriptor yX13_isFit.desc).map (fun d => d.parameters.length) = some 1 := by decide +kernel
theorem hdV_X13_fitting : yX13_fitting.cls = RX13 ∧ yX13_fitting.cls ≠ "java/lang/invoke/MethodHandle" ∧ yX13_fitting.cls ≠ "java/lang/invoke/VarHandle" ∧ (parseMethodDescriptor yX13_fitting.desc).map (fun d => d.parameters.length) = some 0 := by decide +kernel
theorem hdV_X13_fits : yX13_fits.cls = RX13 ∧ yX13_fits.cls ≠ "java/lang/invoke/MethodHandle" ∧ yX13_fits.cls ≠ "java/lang/invoke/VarHandle" ∧ (parseMethodDescriptor yX13_fits.desc).map (fun d => d.parameters.length) = some 0 := by decide +kernel
theorem hdV_X13_weight : yX13_weight.cls = RX13 ∧ yX13_weight.cls ≠ "java/lang/invoke/MethodHandle" ∧ yX13_weight.cls ≠ "java/lang/invoke/VarHandle" ∧ (parseMethodDescriptor yX13_weight.desc).map (fun d => d.parameters.length) = some 0 := by decide +kernel
theorem hdV_X13_gone : yX13_gone.cls = RX13 ∧ yX13_gone.cls ≠ "java/lang/invoke/MethodHandle" ∧ yX13_gone.cls ≠ "java/lang/invoke/VarHandle" ∧ (parseMethodDescriptor yX13_gone.desc).map (fun d => d.parameters.length) = some 1 := by decide +kernel
theorem hdV_X13_dig : yX13_dig.cls = RX13 ∧ yX13_dig.cls ≠ "java/lang/invoke/MethodHandle" ∧ yX13_dig.cls ≠ "java/lang/invoke/VarHandle" ∧ (parseMethodDescriptor yX13_dig.desc).map (fun d => d.parameters.length) = some 0 := by decide +kernel
theorem hdV_X13_lived : yX13_lived.cls = RX13 ∧ yX13_lived.cls ≠ "java/lang/invoke/MethodHandle" ∧ yX13_lived.cls ≠ "java/lang/invoke/VarHandle" ∧ (parseMethodDescriptor yX13_lived.desc).map (fun d => d.parameters.length) = some 1 := by decide +kernel
theorem hdV_X13_led : yX13_led.cls = RX13 ∧ yX13_led.cls ≠ "java/lang/invoke/MethodHandle" ∧ yX13_led.cls ≠ "java/lang/invoke/VarHandle" ∧ (parseMethodDescriptor yX13_led.desc).map (fun d => d.parameters.length) = some 2 := by decide +kernel
theorem hdV_X13_size : yX13_size.cls = RX13 ∧ yX13_size.cls ≠ "java/lang/invoke/MethodHandle" ∧ yX13_size.cls ≠ "java/lang/invoke/VarHandle" ∧ (parseMethodDescriptor yX13_size.desc).map (fun d => d.parameters.length) = some 1 := by decide +kernel
theorem hdV_X13_statue : yX13_statue.cls = RX13 ∧ yX13_statue.cls ≠ "java/lang/invoke/MethodHandle" ∧ yX13_statue.cls ≠ "java/lang/invoke/VarHandle" ∧ (parseMethodDescriptor yX13_statue.desc).map (fun d => d.parameters.length) = some 2 := by decide +kernel
theorem hdV_X13_trouble : yX13_trouble.cls = RX13 ∧ yX13_trouble.cls ≠ "java/lang/invoke/MethodHandle" ∧ yX13_trouble.cls ≠ "java/lang/invoke/VarHandle" ∧ (parseMethodDescriptor yX13_trouble.desc).map (fun d => d.parameters.length) = some 0 := by decide +kernel
set_option maxHeartbeats 4000000 in
set_option maxRecDepth 100000 in
theorem c_X13_restore {l : Launch} {D : va_G} {ad : Nat → Nat} {cy : Nat → ClassId} {A : Nat → Prop} {g : CG} {q : SE} (M : MM) (a0 : Nat) (x1 : Int64) (k0 : ok g a0 13 0) {Z : (Int32 × MM)} (h : f_X13_restore M a0 x1 = some Z) : Met l yX13_restore wsX13_restore ({ frames := 2, cells := 0, slots := 0, locals := 42 }) (va_Pc [.ref (ad a0), .long x1] (Wd D ad cy A g q M)) (va_Qi (fun r u => r = Z.1 ∧ u = Z.2 ∧ zb r) (Wd D ad cy A g q) A) 0 0 A := by
  refine Met.ofW (cc := cX13_restore) (maxL := 14) (ret := (some .boolean)) (by decide) rfl ?_
  intro p e s m args below meth c s₁ B hml hv
  obtain ⟨rfl, hP, hK, hD, hT, hG⟩ := hv
  have hx := B.exec
  have hb := B.bytes
  have hr := B.returns
  have hts := atoms_spec (ws := wsX13_restore) B.pre
  have hown : s.vm.findClass RX13 = some m.cls := findClass_of_methodNamed B.named
  have hlocks := B.notSynchronized
  have in12 : ∀ w ∈ u_ws RX12 TX12 48, w ∈ wsX13_restore := fun w h => List.mem_cons_of_mem _ (List.mem_append_right _ h)
  have in13 : ∀ w ∈ u_ws RX13 TX13 29, w ∈ wsX13_restore := fun w h => List.mem_cons_of_mem _ (List.mem_append_left _ (List.mem_append_right _ h))
  have hS : va_S A s.heap s.heap [] := va_S.rf
  have hl := lv_entry ([.ref (ad a0), .long x1]) (n := 14) (Nat.le_of_ble_eq_true rfl)
  rw [lg_entry_eq]
  generalize (lg_sl ([.ref (ad a0), .long x1]) ++ List.replicate (14 - (lg_sl ([.ref (ad a0), .long x1])).length) Slot.unset).toArray = ls at hl ⊢
  have hl : lv_has ls 14 [(0, .ref (ad a0)), (1, .long x1)] := hl
  unfold f_X13_restore at h
  refine lv_aload_n hx hb dX13_restore_0 rfl (lv_at hl 0 rfl) ?_
  refine lv_iconst (v := 0) hx hb dX13_restore_1 rfl ?_
  refine r_putI (T := TX13) (ty := .int) (v := 0) hx hb hts in13 tyX13 tyX13_ok nmX13 hown hK hP hD hT hS k0 (by decide) rfl 0 (by decide) (hts (.fieldLink RX13 30 "StoneWalkModel" "thrown" "I") (List.mem_of_getElem? (i := 1) (by decide +kernel))) rfl rfl (tyX13_ok 0 (by decide)) rfl rfl rfl dX13_restore_2 (fun H locs hP hD hT hS => ?_)
  refine lv_aload_n hx hb dX13_restore_5 rfl (lv_at hl 0 rfl) ?_
  rcases hN1 : gR (pI M a0 0 0) a0 3 with _ | b1
  · replace h := oc_n hN1 h
    refine r_get (T := TX13) (v := .null) hx hb hts in13 hown hK hP k0 (by decide) rfl 3 (by decide) (hts (.fieldLink RX13 431 "StoneWalkModel" "island" "LStoneWalkModel$Island;") (List.mem_of_getElem? (i := 2) (by decide +kernel))) rfl (t := 2) rfl (by show va_rf _ = _; rw [hN1]; rfl) dX13_restore_6 ?_
    refine lv_ifnonnullN hx hb dX13_restore_9 ?_
    refine lv_aload_n hx hb dX13_restore_12 rfl (lv_at hl 0 rfl) ?_
    refine lv_iconst (v := 1) hx hb dX13_restore_13 rfl ?_
    obtain ⟨z2, h2, h⟩ := ob_some h
    refine k_z (va_runV (As := [.int 1]) (rest := []) ⟨hx, hb, hml, hown, hts⟩ (c_X13_denied (l := l) (pI M a0 0 0) a0 1 k0 h2) (cwV 1 hts gX13_restore_X13_denied rfl rfl rfl hdV_X13_denied ⟨Nat.le_of_ble_eq_true rfl, Nat.le_of_ble_eq_true rfl⟩) (pV (T := TX13) hP hK hD hT hG hS k0 (by decide) rfl) rfl rfl hl.1 rfl (lv_room (Nat.le_of_ble_eq_true rfl)) dX13_restore_14 ⟨Nat.zero_le _, Nat.zero_le _⟩) hS (fun H locs hz2 hP hD hT hS => ?_)
    have hZ := Option.some.inj h
    exact r_zret hx hb hr hlocks hP hK hD hT hG hS hz2 (congrArg Prod.fst hZ) (congrArg Prod.snd hZ) dX13_restore_17
  · replace h := oc_s hN1 h
    have kb1 := hT.f k0 (k := 3) (t := 12) (n := 0) rfl hN1
    refine r_get (T := TX13) (v := .ref (ad b1)) hx hb hts in13 hown hK hP k0 (by decide) rfl 3 (by decide) (hts (.fieldLink RX13 431 "StoneWalkModel" "island" "LStoneWalkModel$Island;") (List.mem_of_getElem? (i := 2) (by decide +kernel))) rfl (t := 2) rfl (by show va_rf _ = _; rw [hN1]; rfl) dX13_restore_6 ?_
    refine lv_ifnonnull (tgt := 18) hx hb dX13_restore_9 rfl ?_
    refine lv_lload_n hx hb dX13_restore_18 rfl (lv_at hl 1 rfl) ?_
    refine lv_lconst (v := 0) hx hb dX13_restore_19 rfl ?_
    refine W.lcmp hx hb dX13_restore_20 ?_
    refine lv_if_ge (tgt := 30) hx hb dX13_restore_21 rfl (fun c3 => ?_) (fun c3 => ?_)
    · replace h := ite_t c3 h
      refine lv_lload_n hx hb dX13_restore_30 rfl (lv_at hl 1 rfl) ?_
      refine lv_lstore_n (lv' := [(3, .long x1), (0, .ref (ad a0)), (1, .long x1)]) hx hb dX13_restore_31 rfl hl (by decide) rfl (fun ls hl => ?_)
      refine lv_lload_n hx hb dX13_restore_32 rfl (lv_at hl 0 rfl) ?_
      refine lv_ldc2 hx hb hown (hts (.constantLong RX13 539 (201)) (List.mem_of_getElem? (i := 3) (by decide +kernel))) dX13_restore_33 ?_
      refine lv_lrem hx hb dX13_restore_36 (by decide) ?_
      refine lv_l2i hx hb dX13_restore_37 rfl ?_
      refine lv_istore (lv' := [(5, .int ((x1 - x1 / 201 * 201).toInt32)), (3, .long x1), (0, .ref (ad a0)), (1, .long x1)]) hx hb dX13_restore_38 hl (by decide) rfl (fun ls hl => ?_)
      refine lv_lload_n hx hb dX13_restore_40 rfl (lv_at hl 1 rfl) ?_
      refine lv_ldc2 hx hb hown (hts (.constantLong RX13 539 (201)) (List.mem_of_getElem? (i := 3) (by decide +kernel))) dX13_restore_41 ?_
      refine lv_ldiv hx hb dX13_restore_44 (by decide) ?_
      refine lv_lstore_n (lv' := [(3, .long (x1 / 201)), (5, .int ((x1 - x1 / 201 * 201).toInt32)), (0, .ref (ad a0)), (1, .long x1)]) hx hb dX13_restore_45 rfl hl (by decide) rfl (fun ls hl => ?_)
      refine lv_lload_n hx hb dX13_restore_46 rfl (lv_at hl 0 rfl) ?_
      refine lv_ldc2 hx hb hown (hts (.constantLong RX13 537 (3)) (List.mem_of_getElem? (i := 4) (by decide +kernel))) dX13_restore_47 ?_
      refine lv_lrem hx hb dX13_restore_50 (by decide) ?_
      refine lv_l2i hx hb dX13_restore_51 rfl ?_
      refine lv_istore (lv' := [(6, .int (((x1 / 201) - (x1 / 201) / 3 * 3).toInt32)), (3, .long (x1 / 201)), (5, .int ((x1 - x1 / 201 * 201).toInt32)), (0, .ref (ad a0)), (1, .long x1)]) hx hb dX13_restore_52 hl (by decide) rfl (fun ls hl => ?_)
      refine lv_lload_n hx hb dX13_restore_54 rfl (lv_at hl 1 rfl) ?_
      refine lv_ldc2 hx hb hown (hts (.constantLong RX13 537 (3)) (List.mem_of_getElem? (i := 4) (by decide +kernel))) dX13_restore_55 ?_
      refine lv_ldiv hx hb dX13_restore_58 (by decide) ?_
      refine lv_lstore_n (lv' := [(3, .long ((x1 / 201) / 3)), (6, .int (((x1 / 201) - (x1 / 201) / 3 * 3).toInt32)), (5, .int ((x1 - x1 / 201 * 201).toInt32)), (0, .ref (ad a0)), (1, .long x1)]) hx hb dX13_restore_59 rfl hl (by decide) rfl (fun ls hl => ?_)
      refine lv_lload_n hx hb dX13_restore_60 rfl (lv_at hl 0 rfl) ?_
      refine lv_ldc2 hx hb hown (hts (.constantLong RX13 533 (4)) (List.mem_of_getElem? (i := 5) (by decide +kernel))) dX13_restore_61 ?_
      refine lv_lrem hx hb dX13_restore_64 (by decide) ?_
      refine lv_l2i hx hb dX13_restore_65 rfl ?_
      refine lv_istore (lv' := [(7, .int ((((x1 / 201) / 3) - ((x1 / 201) / 3) / 4 * 4).toInt32)), (3, .long ((x1 / 201) / 3)), (6, .int (((x1 / 201) - (x1 / 201) / 3 * 3).toInt32)), (5, .int ((x1 - x1 / 201 * 201).toInt32)), (0, .ref (ad a0)), (1, .long x1)]) hx hb dX13_restore_66 hl (by decide) rfl (fun ls hl => ?_)
      refine lv_lload_n hx hb dX13_restore_68 rfl (lv_at hl 1 rfl) ?_
      refine lv_ldc2 hx hb hown (hts (.constantLong RX13 533 (4)) (List.mem_of_getElem? (i := 5) (by decide +kernel))) dX13_restore_69 ?_
      refine lv_ldiv hx hb dX13_restore_72 (by decide) ?_
      refine lv_lstore_n (lv' := [(3, .long (((x1 / 201) / 3) / 4)), (7, .int ((((x1 / 201) / 3) - ((x1 / 201) / 3) / 4 * 4).toInt32)), (6, .int (((x1 / 201) - (x1 / 201) / 3 * 3).toInt32)), (5, .int ((x1 - x1 / 201 * 201).toInt32)), (0, .ref (ad a0)), (1, .long x1)]) hx hb dX13_restore_73 rfl hl (by decide) rfl (fun ls hl => ?_)
      refine lv_lload_n hx hb dX13_restore_74 rfl (lv_at hl 0 rfl) ?_
      refine lv_ldc2 hx hb hown (hts (.constantLong RX13 535 (10)) (List.mem_of_getElem? (i := 6) (by decide +kernel))) dX13_restore_75 ?_
      refine lv_lrem hx hb dX13_restore_78 (by decide) ?_
      refine lv_l2i hx hb dX13_restore_79 rfl ?_
      refine lv_istore (lv' := [(8, .int (((((x1 / 201) / 3) / 4) - (((x1 / 201) / 3) / 4) / 10 * 10).toInt32)), (3, .long (((x1 / 201) / 3) / 4)), (7, .int ((((x1 / 201) / 3) - ((x1 / 201) / 3) / 4 * 4).toInt32)), (6, .int (((x1 / 201) - (x1 / 201) / 3 * 3).toInt32)), (5, .int ((x1 - x1 / 201 * 201).toInt32)), (0, .ref (ad a0)), (1, .long x1)]) hx hb dX13_restore_80 hl (by decide) rfl (fun ls hl => ?_)
      refine lv_lload_n hx hb dX13_restore_82 rfl (lv_at hl 1 rfl) ?_
      refine lv_ldc2 hx hb hown (hts (.constantLong RX13 535 (10)) (List.mem_of_getElem? (i := 6) (by decide +kernel))) dX13_restore_83 ?_
      refine lv_ldiv hx hb dX13_restore_86 (by decide) ?_
      refine lv_lstore_n (lv' := [(3, .long ((((x1 / 201) / 3) / 4) / 10)), (8, .int (((((x1 / 201) / 3) / 4) - (((x1 / 201) / 3) / 4) / 10 * 10).toInt32)), (7, .int ((((x1 / 201) / 3) - ((x1 / 201) / 3) / 4 * 4).toInt32)), (6, .int (((x1 / 201) - (x1 / 201) / 3 * 3).toInt32)), (5, .int ((x1 - x1 / 201 * 201).toInt32)), (0, .ref (ad a0)), (1, .long x1)]) hx hb dX13_restore_87 rfl hl (by decide) rfl (fun ls hl => ?_)
      refine lv_lload_n hx hb dX13_restore_88 rfl (lv_at hl 0 rfl) ?_
      refine lv_ldc2 hx hb hown (hts (.constantLong RX13 533 (4)) (List.mem_of_getElem? (i := 5) (by decide +kernel))) dX13_restore_89 ?_
      refine lv_lrem hx hb dX13_restore_92 (by decide) ?_
      refine lv_l2i hx hb dX13_restore_93 rfl ?_
      refine lv_istore (lv' := [(9, .int ((((((x1 / 201) / 3) / 4) / 10) - ((((x1 / 201) / 3) / 4) / 10) / 4 * 4).toInt32)), (3, .long ((((x1 / 201) / 3) / 4) / 10)), (8, .int (((((x1 / 201) / 3) / 4) - (((x1 / 201) / 3) / 4) / 10 * 10).toInt32)), (7, .int ((((x1 / 201) / 3) - ((x1 / 201) / 3) / 4 * 4).toInt32)), (6, .int (((x1 / 201) - (x1 / 201) / 3 * 3).toInt32)), (5, .int ((x1 - x1 / 201 * 201).toInt32)), (0, .ref (ad a0)), (1, .long x1)]) hx hb dX13_restore_94 hl (by decide) rfl (fun ls hl => ?_)
      refine lv_lload_n hx hb dX13_restore_96 rfl (lv_at hl 1 rfl) ?_
      refine lv_ldc2 hx hb hown (hts (.constantLong RX13 533 (4)) (List.mem_of_getElem? (i := 5) (by decide +kernel))) dX13_restore_97 ?_
      refine lv_ldiv hx hb dX13_restore_100 (by decide) ?_
      refine lv_lstore_n (lv' := [(3, .long (((((x1 / 201) / 3) / 4) / 10) / 4)), (9, .int ((((((x1 / 201) / 3) / 4) / 10) - ((((x1 / 201) / 3) / 4) / 10) / 4 * 4).toInt32)), (8, .int (((((x1 / 201) / 3) / 4) - (((x1 / 201) / 3) / 4) / 10 * 10).toInt32)), (7, .int ((((x1 / 201) / 3) - ((x1 / 201) / 3) / 4 * 4).toInt32)), (6, .int (((x1 / 201) - (x1 / 201) / 3 * 3).toInt32)), (5, .int ((x1 - x1 / 201 * 201).toInt32)), (0, .ref (ad a0)), (1, .long x1)]) hx hb dX13_restore_101 rfl hl (by decide) rfl (fun ls hl => ?_)
      refine lv_lload_n hx hb dX13_restore_102 rfl (lv_at hl 0 rfl) ?_
      refine lv_ldc2 hx hb hown (hts (.constantLong RX13 531 (541)) (List.mem_of_getElem? (i := 7) (by decide +kernel))) dX13_restore_103 ?_
      refine lv_lrem hx hb dX13_restore_106 (by decide) ?_
      refine lv_l2i hx hb dX13_restore_107 rfl ?_
      refine lv_istore (lv' := [(10, .int (((((((x1 / 201) / 3) / 4) / 10) / 4) - (((((x1 / 201) / 3) / 4) / 10) / 4) / 541 * 541).toInt32)), (3, .long (((((x1 / 201) / 3) / 4) / 10) / 4)), (9, .int ((((((x1 / 201) / 3) / 4) / 10) - ((((x1 / 201) / 3) / 4) / 10) / 4 * 4).toInt32)), (8, .int (((((x1 / 201) / 3) / 4) - (((x1 / 201) / 3) / 4) / 10 * 10).toInt32)), (7, .int ((((x1 / 201) / 3) - ((x1 / 201) / 3) / 4 * 4).toInt32)), (6, .int (((x1 / 201) - (x1 / 201) / 3 * 3).toInt32)), (5, .int ((x1 - x1 / 201 * 201).toInt32)), (0, .ref (ad a0)), (1, .long x1)]) hx hb dX13_restore_108 hl (by decide) rfl (fun ls hl => ?_)
      refine lv_lload_n hx hb dX13_restore_110 rfl (lv_at hl 1 rfl) ?_
      refine lv_ldc2 hx hb hown (hts (.constantLong RX13 531 (541)) (List.mem_of_getElem? (i := 7) (by decide +kernel))) dX13_restore_111 ?_
      refine lv_ldiv hx hb dX13_restore_114 (by decide) ?_
      refine lv_lstore_n (lv' := [(3, .long ((((((x1 / 201) / 3) / 4) / 10) / 4) / 541)), (10, .int (((((((x1 / 201) / 3) / 4) / 10) / 4) - (((((x1 / 201) / 3) / 4) / 10) / 4) / 541 * 541).toInt32)), (9, .int ((((((x1 / 201) / 3) / 4) / 10) - ((((x1 / 201) / 3) / 4) / 10) / 4 * 4).toInt32)), (8, .int (((((x1 / 201) / 3) / 4) - (((x1 / 201) / 3) / 4) / 10 * 10).toInt32)), (7, .int ((((x1 / 201) / 3) - ((x1 / 201) / 3) / 4 * 4).toInt32)), (6, .int (((x1 / 201) - (x1 / 201) / 3 * 3).toInt32)), (5, .int ((x1 - x1 / 201 * 201).toInt32)), (0, .ref (ad a0)), (1, .long x1)]) hx hb dX13_restore_115 rfl hl (by decide) rfl (fun ls hl => ?_)
      refine lv_lload_n hx hb dX13_restore_116 rfl (lv_at hl 0 rfl) ?_
      refine lv_ldc2 hx hb hown (hts (.constantLong RX13 529 (7)) (List.mem_of_getElem? (i := 8) (by decide +kernel))) dX13_restore_117 ?_
      refine lv_lrem hx hb dX13_restore_120 (by decide) ?_
      refine lv_l2i hx hb dX13_restore_121 rfl ?_
      refine lv_istore (lv' := [(11, .int ((((((((x1 / 201) / 3) / 4) / 10) / 4) / 541) - ((((((x1 / 201) / 3) / 4) / 10) / 4) / 541) / 7 * 7).toInt32)), (3, .long ((((((x1 / 201) / 3) / 4) / 10) / 4) / 541)), (10, .int (((((((x1 / 201) / 3) / 4) / 10) / 4) - (((((x1 / 201) / 3) / 4) / 10) / 4) / 541 * 541).toInt32)), (9, .int ((((((x1 / 201) / 3) / 4) / 10) - ((((x1 / 201) / 3) / 4) / 10) / 4 * 4).toInt32)), (8, .int (((((x1 / 201) / 3) / 4) - (((x1 / 201) / 3) / 4) / 10 * 10).toInt32)), (7, .int ((((x1 / 201) / 3) - ((x1 / 201) / 3) / 4 * 4).toInt32)), (6, .int (((x1 / 201) - (x1 / 201) / 3 * 3).toInt32)), (5, .int ((x1 - x1 / 201 * 201).toInt32)), (0, .ref (ad a0)), (1, .long x1)]) hx hb dX13_restore_122 hl (by decide) rfl (fun ls hl => ?_)
      refine lv_lload_n hx hb dX13_restore_124 rfl (lv_at hl 1 rfl) ?_
      refine lv_ldc2 hx hb hown (hts (.constantLong RX13 529 (7)) (List.mem_of_getElem? (i := 8) (by decide +kernel))) dX13_restore_125 ?_
      refine lv_ldiv hx hb dX13_restore_128 (by decide) ?_
      refine lv_lstore_n (lv' := [(3, .long (((((((x1 / 201) / 3) / 4) / 10) / 4) / 541) / 7)), (11, .int ((((((((x1 / 201) / 3) / 4) / 10) / 4) / 541) - ((((((x1 / 201) / 3) / 4) / 10) / 4) / 541) / 7 * 7).toInt32)), (10, .int (((((((x1 / 201) / 3) / 4) / 10) / 4) - (((((x1 / 201) / 3) / 4) / 10) / 4) / 541 * 541).toInt32)), (9, .int ((((((x1 / 201) / 3) / 4) / 10) - ((((x1 / 201) / 3) / 4) / 10) / 4 * 4).toInt32)), (8, .int (((((x1 / 201) / 3) / 4) - (((x1 / 201) / 3) / 4) / 10 * 10).toInt32)), (7, .int ((((x1 / 201) / 3) - ((x1 / 201) / 3) / 4 * 4).toInt32)), (6, .int (((x1 / 201) - (x1 / 201) / 3 * 3).toInt32)), (5, .int ((x1 - x1 / 201 * 201).toInt32)), (0, .ref (ad a0)), (1, .long x1)]) hx hb dX13_restore_129 rfl hl (by decide) rfl (fun ls hl => ?_)
      refine lv_lload_n hx hb dX13_restore_130 rfl (lv_at hl 0 rfl) ?_
      refine lv_ldc2 hx hb hown (hts (.constantLong RX13 527 (6)) (List.mem_of_getElem? (i := 9) (by decide +kernel))) dX13_restore_131 ?_
      refine lv_lrem hx hb dX13_restore_134 (by decide) ?_
      refine lv_l2i hx hb dX13_restore_135 rfl ?_
      refine lv_istore (lv' := [(12, .int (((((((((x1 / 201) / 3) / 4) / 10) / 4) / 541) / 7) - (((((((x1 / 201) / 3) / 4) / 10) / 4) / 541) / 7) / 6 * 6).toInt32)), (3, .long (((((((x1 / 201) / 3) / 4) / 10) / 4) / 541) / 7)), (11, .int ((((((((x1 / 201) / 3) / 4) / 10) / 4) / 541) - ((((((x1 / 201) / 3) / 4) / 10) / 4) / 541) / 7 * 7).toInt32)), (10, .int (((((((x1 / 201) / 3) / 4) / 10) / 4) - (((((x1 / 201) / 3) / 4) / 10) / 4) / 541 * 541).toInt32)), (9, .int ((((((x1 / 201) / 3) / 4) / 10) - ((((x1 / 201) / 3) / 4) / 10) / 4 * 4).toInt32)), (8, .int (((((x1 / 201) / 3) / 4) - (((x1 / 201) / 3) / 4) / 10 * 10).toInt32)), (7, .int ((((x1 / 201) / 3) - ((x1 / 201) / 3) / 4 * 4).toInt32)), (6, .int (((x1 / 201) - (x1 / 201) / 3 * 3).toInt32)), (5, .int ((x1 - x1 / 201 * 201).toInt32)), (0, .ref (ad a0)), (1, .long x1)]) hx hb dX13_restore_136 hl (by decide) rfl (fun ls hl => ?_)
      refine lv_lload_n hx hb dX13_restore_138 rfl (lv_at hl 1 rfl) ?_
      refine lv_ldc2 hx hb hown (hts (.constantLong RX13 527 (6)) (List.mem_of_getElem? (i := 9) (by decide +kernel))) dX13_restore_139 ?_
      refine lv_ldiv hx hb dX13_restore_142 (by decide) ?_
      refine lv_lstore_n (lv' := [(3, .long ((((((((x1 / 201) / 3) / 4) / 10) / 4) / 541) / 7) / 6)), (12, .int (((((((((x1 / 201) / 3) / 4) / 10) / 4) / 541) / 7) - (((((((x1 / 201) / 3) / 4) / 10) / 4) / 541) / 7) / 6 * 6).toInt32)), (11, .int ((((((((x1 / 201) / 3) / 4) / 10) / 4) / 541) - ((((((x1 / 201) / 3) / 4) / 10) / 4) / 541) / 7 * 7).toInt32)), (10, .int (((((((x1 / 201) / 3) / 4) / 10) / 4) - (((((x1 / 201) / 3) / 4) / 10) / 4) / 541 * 541).toInt32)), (9, .int ((((((x1 / 201) / 3) / 4) / 10) - ((((x1 / 201) / 3) / 4) / 10) / 4 * 4).toInt32)), (8, .int (((((x1 / 201) / 3) / 4) - (((x1 / 201) / 3) / 4) / 10 * 10).toInt32)), (7, .int ((((x1 / 201) / 3) - ((x1 / 201) / 3) / 4 * 4).toInt32)), (6, .int (((x1 / 201) - (x1 / 201) / 3 * 3).toInt32)), (5, .int ((x1 - x1 / 201 * 201).toInt32)), (0, .ref (ad a0)), (1, .long x1)]) hx hb dX13_restore_143 rfl hl (by decide) rfl (fun ls hl => ?_)
      refine lv_lload_n hx hb dX13_restore_144 rfl (lv_at hl 0 rfl) ?_
      refine lv_ldc2 hx hb hown (hts (.constantLong RX13 516 (65537)) (List.mem_of_getElem? (i := 10) (by decide +kernel))) dX13_restore_145 ?_
      refine W.lcmp hx hb dX13_restore_148 ?_
      refine lv_if_ge (tgt := 214) hx hb dX13_restore_149 rfl (fun c4 => ?_) (fun c4 => ?_)
      · replace h := ite_t c4 h
        refine lv_aload_n hx hb dX13_restore_214 rfl (lv_at hl 9 rfl) ?_
        refine lv_iconst (v := 2) hx hb dX13_restore_215 rfl ?_
        obtain ⟨z5, h5, h⟩ := ob_some h
        refine k_z (va_runV (As := [.int 2]) (rest := []) ⟨hx, hb, hml, hown, hts⟩ (c_X13_denied (l := l) (pI M a0 0 0) a0 2 k0 h5) (cwV 1 hts gX13_restore_X13_denied rfl rfl rfl hdV_X13_denied ⟨Nat.le_of_ble_eq_true rfl, Nat.le_of_ble_eq_true rfl⟩) (pV (T := TX13) hP hK hD hT hG hS k0 (by decide) rfl) rfl rfl hl.1 rfl (lv_room (Nat.le_of_ble_eq_true rfl)) dX13_restore_216 ⟨Nat.zero_le _, Nat.zero_le _⟩) hS (fun H locs hz5 hP hD hT hS => ?_)
        have hZ := Option.some.inj h
        exact r_zret hx hb hr hlocks hP hK hD hT hG hS hz5 (congrArg Prod.fst hZ) (congrArg Prod.snd hZ) dX13_restore_219
      · replace h := ite_f c4 h
        refine lv_iload hx hb dX13_restore_152 (lv_at hl 1 rfl) ?_
        refine lv_if_eq (tgt := 214) hx hb dX13_restore_154 rfl (fun c6 => ?_) (fun c6 => ?_)
        · replace h := ite_t c6 h
          refine lv_aload_n hx hb dX13_restore_214 rfl (lv_at hl 9 rfl) ?_
          refine lv_iconst (v := 2) hx hb dX13_restore_215 rfl ?_
          obtain ⟨z7, h7, h⟩ := ob_some h
          refine k_z (va_runV (As := [.int 2]) (rest := []) ⟨hx, hb, hml, hown, hts⟩ (c_X13_denied (l := l) (pI M a0 0 0) a0 2 k0 h7) (cwV 1 hts gX13_restore_X13_denied rfl rfl rfl hdV_X13_denied ⟨Nat.le_of_ble_eq_true rfl, Nat.le_of_ble_eq_true rfl⟩) (pV (T := TX13) hP hK hD hT hG hS k0 (by decide) rfl) rfl rfl hl.1 rfl (lv_room (Nat.le_of_ble_eq_true rfl)) dX13_restore_216 ⟨Nat.zero_le _, Nat.zero_le _⟩) hS (fun H locs hz7 hP hD hT hS => ?_)
          have hZ := Option.some.inj h
          exact r_zret hx hb hr hlocks hP hK hD hT hG hS hz7 (congrArg Prod.fst hZ) (congrArg Prod.snd hZ) dX13_restore_219
        · replace h := ite_f c6 h
          refine lv_aload_n hx hb dX13_restore_157 rfl (lv_at hl 9 rfl) ?_
          refine lv_iload hx hb dX13_restore_158 (lv_at hl 5 rfl) ?_
          obtain ⟨z8, h8, h⟩ := ob_some h
          refine k_z (va_runV (As := [.int (((((x1 / 201) / 3) / 4) - (((x1 / 201) / 3) / 4) / 10 * 10).toInt32)]) (rest := []) ⟨hx, hb, hml, hown, hts⟩ (c_X13_isStatue (l := l) (pI M a0 0 0) a0 (((((x1 / 201) / 3) / 4) - (((x1 / 201) / 3) / 4) / 10 * 10).toInt32) k0 h8) (cwV 1 hts gX13_restore_X13_isStatue rfl rfl rfl hdV_X13_isStatue ⟨Nat.le_of_ble_eq_true rfl, Nat.le_of_ble_eq_true rfl⟩) (pV (T := TX13) hP hK hD hT hG hS k0 (by decide) rfl) rfl rfl hl.1 rfl (lv_room (Nat.le_of_ble_eq_true rfl)) dX13_restore_160 ⟨Nat.zero_le _, Nat.zero_le _⟩) hS (fun H locs hz8 hP hD hT hS => ?_)
          refine lv_if_eq (tgt := 214) hx hb dX13_restore_163 rfl (fun c9 => ?_) (fun c9 => ?_)
          · replace h := ite_t c9 h
            refine lv_aload_n hx hb dX13_restore_214 rfl (lv_at hl 9 rfl) ?_
            refine lv_iconst (v := 2) hx hb dX13_restore_215 rfl ?_
            obtain ⟨z10, h10, h⟩ := ob_some h
            refine k_z (va_runV (As := [.int 2]) (rest := []) ⟨hx, hb, hml, hown, hts⟩ (c_X13_denied (l := l) (pI M a0 0 0) a0 2 k0 h10) (cwV 1 hts gX13_restore_X13_denied rfl rfl rfl hdV_X13_denied ⟨Nat.le_of_ble_eq_true rfl, Nat.le_of_ble_eq_true rfl⟩) (pV (T := TX13) hP hK hD hT hG hS k0 (by decide) rfl) rfl rfl hl.1 rfl (lv_room (Nat.le_of_ble_eq_true rfl)) dX13_restore_216 ⟨Nat.zero_le _, Nat.zero_le _⟩) hS (fun H locs hz10 hP hD hT hS => ?_)
            have hZ := Option.some.inj h
            exact r_zret hx hb hr hlocks hP hK hD hT hG hS hz10 (congrArg Prod.fst hZ) (congrArg Prod.snd hZ) dX13_restore_219
          · replace h := ite_f c9 h
            refine lv_aload_n hx hb dX13_restore_166 rfl (lv_at hl 9 rfl) ?_
            refine lv_iload hx hb dX13_restore_167 (lv_at hl 6 rfl) ?_
            obtain ⟨z11, h11, h⟩ := ob_some h
            refine k_z (va_runV (As := [.int ((((x1 / 201) / 3) - ((x1 / 201) / 3) / 4 * 4).toInt32)]) (rest := []) ⟨hx, hb, hml, hown, hts⟩ (c_X13_isWay (l := l) (pI M a0 0 0) a0 ((((x1 / 201) / 3) - ((x1 / 201) / 3) / 4 * 4).toInt32) k0 h11) (cwV 1 hts gX13_restore_X13_isWay rfl rfl rfl hdV_X13_isWay ⟨Nat.le_of_ble_eq_true rfl, Nat.le_of_ble_eq_true rfl⟩) (pV (T := TX13) hP hK hD hT hG hS k0 (by decide) rfl) rfl rfl hl.1 rfl (lv_room (Nat.le_of_ble_eq_true rfl)) dX13_restore_169 ⟨Nat.zero_le _, Nat.zero_le _⟩) hS (fun H locs hz11 hP hD hT hS => ?_)
            refine lv_if_eq (tgt := 214) hx hb dX13_restore_172 rfl (fun c12 => ?_) (fun c12 => ?_)
            · replace h := ite_t c12 h
              refine lv_aload_n hx hb dX13_restore_214 rfl (lv_at hl 9 rfl) ?_
              refine lv_iconst (v := 2) hx hb dX13_restore_215 rfl ?_
              obtain ⟨z13, h13, h⟩ := ob_some h
              refine k_z (va_runV (As := [.int 2]) (rest := []) ⟨hx, hb, hml, hown, hts⟩ (c_X13_denied (l := l) (pI M a0 0 0) a0 2 k0 h13) (cwV 1 hts gX13_restore_X13_denied rfl rfl rfl hdV_X13_denied ⟨Nat.le_of_ble_eq_true rfl, Nat.le_of_ble_eq_true rfl⟩) (pV (T := TX13) hP hK hD hT hG hS k0 (by decide) rfl) rfl rfl hl.1 rfl (lv_room (Nat.le_of_ble_eq_true rfl)) dX13_restore_216 ⟨Nat.zero_le _, Nat.zero_le _⟩) hS (fun H locs hz13 hP hD hT hS => ?_)
              have hZ := Option.some.inj h
              exact r_zret hx hb hr hlocks hP hK hD hT hG hS hz13 (congrArg Prod.fst hZ) (congrArg Prod.snd hZ) dX13_restore_219
            · replace h := ite_f c12 h
              refine lv_aload_n hx hb dX13_restore_175 rfl (lv_at hl 9 rfl) ?_
              refine lv_iload hx hb dX13_restore_176 (lv_at hl 7 rfl) ?_
              obtain ⟨z14, h14, h⟩ := ob_some h
              refine k_z (va_runV (As := [.int (((x1 / 201) - (x1 / 201) / 3 * 3).toInt32)]) (rest := []) ⟨hx, hb, hml, hown, hts⟩ (c_X13_isRoad (l := l) (pI M a0 0 0) a0 (((x1 / 201) - (x1 / 201) / 3 * 3).toInt32) k0 h14) (cwV 1 hts gX13_restore_X13_isRoad rfl rfl rfl hdV_X13_isRoad ⟨Nat.le_of_ble_eq_true rfl, Nat.le_of_ble_eq_true rfl⟩) (pV (T := TX13) hP hK hD hT hG hS k0 (by decide) rfl) rfl rfl hl.1 rfl (lv_room (Nat.le_of_ble_eq_true rfl)) dX13_restore_178 ⟨Nat.zero_le _, Nat.zero_le _⟩) hS (fun H locs hz14 hP hD hT hS => ?_)
              refine lv_if_eq (tgt := 214) hx hb dX13_restore_181 rfl (fun c15 => ?_) (fun c15 => ?_)
              · replace h := ite_t c15 h
                refine lv_aload_n hx hb dX13_restore_214 rfl (lv_at hl 9 rfl) ?_
                refine lv_iconst (v := 2) hx hb dX13_restore_215 rfl ?_
                obtain ⟨z16, h16, h⟩ := ob_some h
                refine k_z (va_runV (As := [.int 2]) (rest := []) ⟨hx, hb, hml, hown, hts⟩ (c_X13_denied (l := l) (pI M a0 0 0) a0 2 k0 h16) (cwV 1 hts gX13_restore_X13_denied rfl rfl rfl hdV_X13_denied ⟨Nat.le_of_ble_eq_true rfl, Nat.le_of_ble_eq_true rfl⟩) (pV (T := TX13) hP hK hD hT hG hS k0 (by decide) rfl) rfl rfl hl.1 rfl (lv_room (Nat.le_of_ble_eq_true rfl)) dX13_restore_216 ⟨Nat.zero_le _, Nat.zero_le _⟩) hS (fun H locs hz16 hP hD hT hS => ?_)
                have hZ := Option.some.inj h
                exact r_zret hx hb hr hlocks hP hK hD hT hG hS hz16 (congrArg Prod.fst hZ) (congrArg Prod.snd hZ) dX13_restore_219
              · replace h := ite_f c15 h
                refine lv_iload hx hb dX13_restore_184 (lv_at hl 8 rfl) ?_
                refine lv_if_eq (tgt := 214) hx hb dX13_restore_186 rfl (fun c17 => ?_) (fun c17 => ?_)
                · replace h := ite_t c17 h
                  refine lv_aload_n hx hb dX13_restore_214 rfl (lv_at hl 9 rfl) ?_
                  refine lv_iconst (v := 2) hx hb dX13_restore_215 rfl ?_
                  obtain ⟨z18, h18, h⟩ := ob_some h
                  refine k_z (va_runV (As := [.int 2]) (rest := []) ⟨hx, hb, hml, hown, hts⟩ (c_X13_denied (l := l) (pI M a0 0 0) a0 2 k0 h18) (cwV 1 hts gX13_restore_X13_denied rfl rfl rfl hdV_X13_denied ⟨Nat.le_of_ble_eq_true rfl, Nat.le_of_ble_eq_true rfl⟩) (pV (T := TX13) hP hK hD hT hG hS k0 (by decide) rfl) rfl rfl hl.1 rfl (lv_room (Nat.le_of_ble_eq_true rfl)) dX13_restore_216 ⟨Nat.zero_le _, Nat.zero_le _⟩) hS (fun H locs hz18 hP hD hT hS => ?_)
                  have hZ := Option.some.inj h
                  exact r_zret hx hb hr hlocks hP hK hD hT hG hS hz18 (congrArg Prod.fst hZ) (congrArg Prod.snd hZ) dX13_restore_219
                · replace h := ite_f c17 h
                  refine lv_iload hx hb dX13_restore_189 (lv_at hl 4 rfl) ?_
                  refine lv_iconst (v := 3) hx hb dX13_restore_191 rfl ?_
                  refine lv_icmp_ne (tgt := 199) hx hb dX13_restore_192 rfl (fun c19 => ?_) (fun c19 => ?_)
                  · replace h := ite_f c19 h
                    refine lv_iconst (v := 0) hx hb dX13_restore_199 rfl ?_
                    refine lv_iload hx hb dX13_restore_200 (lv_at hl 1 rfl) ?_
                    refine lv_iconst (v := 3) hx hb dX13_restore_202 rfl ?_
                    refine lv_icmp_ne (tgt := 210) hx hb dX13_restore_203 rfl (fun c20 => ?_) (fun c20 => ?_)
                    · replace h := ite_f c20 h
                      refine lv_iconst (v := 0) hx hb dX13_restore_210 rfl ?_
                      refine lv_icmp_ne (tgt := 220) hx hb dX13_restore_211 rfl (fun c21 => absurd c21 (by decide)) (fun _ => ?_)
                      refine lv_aload_n hx hb dX13_restore_214 rfl (lv_at hl 9 rfl) ?_
                      refine lv_iconst (v := 2) hx hb dX13_restore_215 rfl ?_
                      obtain ⟨z22, h22, h⟩ := ob_some h
                      refine k_z (va_runV (As := [.int 2]) (rest := []) ⟨hx, hb, hml, hown, hts⟩ (c_X13_denied (l := l) (pI M a0 0 0) a0 2 k0 h22) (cwV 1 hts gX13_restore_X13_denied rfl rfl rfl hdV_X13_denied ⟨Nat.le_of_ble_eq_true rfl, Nat.le_of_ble_eq_true rfl⟩) (pV (T := TX13) hP hK hD hT hG hS k0 (by decide) rfl) rfl rfl hl.1 rfl (lv_room (Nat.le_of_ble_eq_true rfl)) dX13_restore_216 ⟨Nat.zero_le _, Nat.zero_le _⟩) hS (fun H locs hz22 hP hD hT hS => ?_)
                      have hZ := Option.some.inj h
                      exact r_zret hx hb hr hlocks hP hK hD hT hG hS hz22 (congrArg Prod.fst hZ) (congrArg Prod.snd hZ) dX13_restore_219
                    · replace h := ite_t c20 h
                      refine lv_iconst (v := 1) hx hb dX13_restore_206 rfl ?_
                      refine lv_goto (tgt := 211) hx hb dX13_restore_207 rfl ?_
                      refine lv_icmp_ne (tgt := 220) hx hb dX13_restore_211 rfl (fun _ => ?_) (fun c23 => absurd c23 (by decide))
                      refine lv_aload_n hx hb dX13_restore_220 rfl (lv_at hl 9 rfl) ?_
                      rcases hN24 : gR (pI M a0 0 0) a0 3 with _ | b24
                      · replace h := oc_n hN24 h
                        refine r_get (T := TX13) (v := .null) hx hb hts in13 hown hK hP k0 (by decide) rfl 3 (by decide) (hts (.fieldLink RX13 431 "StoneWalkModel" "island" "LStoneWalkModel$Island;") (List.mem_of_getElem? (i := 2) (by decide +kernel))) rfl (t := 2) rfl (by show va_rf _ = _; rw [hN24]; rfl) dX13_restore_221 ?_
                        exact absurd h (by simp)
                      · replace h := oc_s hN24 h
                        have kb24 := hT.f k0 (k := 3) (t := 12) (n := 0) rfl hN24
                        refine r_get (T := TX13) (v := .ref (ad b24)) hx hb hts in13 hown hK hP k0 (by decide) rfl 3 (by decide) (hts (.fieldLink RX13 431 "StoneWalkModel" "island" "LStoneWalkModel$Island;") (List.mem_of_getElem? (i := 2) (by decide +kernel))) rfl (t := 2) rfl (by show va_rf _ = _; rw [hN24]; rfl) dX13_restore_221 ?_
                        rcases hN25 : gR (pI M a0 0 0) b24 13 with _ | b25
                        · exact absurd (oc_n hN25 h) (by simp)
                        replace h := oc_s hN25 h
                        have kb25 := hT.f kb24 (k := 13) (t := 15) (n := 3) rfl hN25
                        refine r_getN (T := TX12) (v := .ref (ad b25)) hx hb hts in12 hown hK hP kb24 (by decide) rfl 13 (by decide) (hG.2.2.1 _ (List.mem_of_getElem? (i := 13) rfl)) rfl (t := 2) rfl (by show va_rf _ = _; rw [hN25]; rfl) dX13_restore_224 ?_
                        refine lv_iload hx hb dX13_restore_227 (lv_at hl 7 rfl) ?_
                        obtain ⟨hn26, h⟩ := chk_some h
                        refine r_iald hx hb hK hP kb25 hn26 dX13_restore_229 ?_
                        refine lv_istore (lv' := [(13, .int (gI (pI M a0 0 0) b25 (ix (((x1 / 201) - (x1 / 201) / 3 * 3).toInt32)))), (3, .long ((((((((x1 / 201) / 3) / 4) / 10) / 4) / 541) / 7) / 6)), (12, .int (((((((((x1 / 201) / 3) / 4) / 10) / 4) / 541) / 7) - (((((((x1 / 201) / 3) / 4) / 10) / 4) / 541) / 7) / 6 * 6).toInt32)), (11, .int ((((((((x1 / 201) / 3) / 4) / 10) / 4) / 541) - ((((((x1 / 201) / 3) / 4) / 10) / 4) / 541) / 7 * 7).toInt32)), (10, .int (((((((x1 / 201) / 3) / 4) / 10) / 4) - (((((x1 / 201) / 3) / 4) / 10) / 4) / 541 * 541).toInt32)), (9, .int ((((((x1 / 201) / 3) / 4) / 10) - ((((x1 / 201) / 3) / 4) / 10) / 4 * 4).toInt32)), (8, .int (((((x1 / 201) / 3) / 4) - (((x1 / 201) / 3) / 4) / 10 * 10).toInt32)), (7, .int ((((x1 / 201) / 3) - ((x1 / 201) / 3) / 4 * 4).toInt32)), (6, .int (((x1 / 201) - (x1 / 201) / 3 * 3).toInt32)), (5, .int ((x1 - x1 / 201 * 201).toInt32)), (0, .ref (ad a0)), (1, .long x1)]) hx hb dX13_restore_230 hl (by decide) rfl (fun ls hl => ?_)
                        refine lv_iload hx hb dX13_restore_232 (lv_at hl 2 rfl) ?_
                        refine lv_iconst (v := 2) hx hb dX13_restore_234 rfl ?_
                        refine lv_icmp_ne (tgt := 248) hx hb dX13_restore_235 rfl (fun c27 => ?_) (fun c27 => ?_)
                        · replace h := ite_f c27 h
                          refine lv_iload hx hb dX13_restore_248 (lv_at hl 3 rfl) ?_
                          refine lv_iload hx hb dX13_restore_250 (lv_at hl 0 rfl) ?_
                          refine lv_icmp_lt (tgt := 261) hx hb dX13_restore_252 rfl (fun c28 => ?_) (fun c28 => ?_)
                          · replace h := ite_t c28 h
                            refine lv_aload_n hx hb dX13_restore_261 rfl (lv_at hl 10 rfl) ?_
                            refine lv_lload_n hx hb dX13_restore_262 rfl (lv_at hl 1 rfl) ?_
                            refine lv_l2i hx hb dX13_restore_263 rfl ?_
                            refine r_putI (T := TX13) (ty := .int) (v := ((((((((x1 / 201) / 3) / 4) / 10) / 4) / 541) / 7) / 6).toInt32) hx hb hts in13 tyX13 tyX13_ok nmX13 hown hK hP hD hT hS k0 (by decide) rfl 16 (by decide) (hts (.fieldLink RX13 437 "StoneWalkModel" "seed" "I") (List.mem_of_getElem? (i := 11) (by decide +kernel))) rfl rfl (tyX13_ok 16 (by decide)) rfl rfl rfl dX13_restore_264 (fun H locs hP hD hT hS => ?_)
                            refine lv_aload_n hx hb dX13_restore_267 rfl (lv_at hl 10 rfl) ?_
                            refine lv_iload hx hb dX13_restore_268 (lv_at hl 6 rfl) ?_
                            refine r_putI (T := TX13) (ty := .int) (v := ((((x1 / 201) / 3) / 4) - (((x1 / 201) / 3) / 4) / 10 * 10).toInt32) hx hb hts in13 tyX13 tyX13_ok nmX13 hown hK hP hD hT hS k0 (by decide) rfl 17 (by decide) (hts (.fieldLink RX13 17 "StoneWalkModel" "moved" "I") (List.mem_of_getElem? (i := 12) (by decide +kernel))) rfl rfl (tyX13_ok 17 (by decide)) rfl rfl rfl dX13_restore_270 (fun H locs hP hD hT hS => ?_)
                            refine lv_aload_n hx hb dX13_restore_273 rfl (lv_at hl 10 rfl) ?_
                            refine lv_iload hx hb dX13_restore_274 (lv_at hl 7 rfl) ?_
                            refine r_putI (T := TX13) (ty := .int) (v := (((x1 / 201) / 3) - ((x1 / 201) / 3) / 4 * 4).toInt32) hx hb hts in13 tyX13 tyX13_ok nmX13 hown hK hP hD hT hS k0 (by decide) rfl 18 (by decide) (hts (.fieldLink RX13 490 "StoneWalkModel" "movedBy" "I") (List.mem_of_getElem? (i := 13) (by decide +kernel))) rfl rfl (tyX13_ok 18 (by decide)) rfl rfl rfl dX13_restore_276 (fun H locs hP hD hT hS => ?_)
                            refine lv_aload_n hx hb dX13_restore_279 rfl (lv_at hl 10 rfl) ?_
                            refine lv_iload hx hb dX13_restore_280 (lv_at hl 8 rfl) ?_
                            refine r_putI (T := TX13) (ty := .int) (v := ((x1 / 201) - (x1 / 201) / 3 * 3).toInt32) hx hb hts in13 tyX13 tyX13_ok nmX13 hown hK hP hD hT hS k0 (by decide) rfl 19 (by decide) (hts (.fieldLink RX13 493 "StoneWalkModel" "movedOn" "I") (List.mem_of_getElem? (i := 14) (by decide +kernel))) rfl rfl (tyX13_ok 19 (by decide)) rfl rfl rfl dX13_restore_282 (fun H locs hP hD hT hS => ?_)
                            refine lv_aload_n hx hb dX13_restore_285 rfl (lv_at hl 10 rfl) ?_
                            refine lv_iload hx hb dX13_restore_286 (lv_at hl 9 rfl) ?_
                            refine r_putI (T := TX13) (ty := .int) (v := (x1 - x1 / 201 * 201).toInt32) hx hb hts in13 tyX13 tyX13_ok nmX13 hown hK hP hD hT hS k0 (by decide) rfl 20 (by decide) (hts (.fieldLink RX13 496 "StoneWalkModel" "people" "I") (List.mem_of_getElem? (i := 15) (by decide +kernel))) rfl rfl (tyX13_ok 20 (by decide)) rfl rfl rfl dX13_restore_288 (fun H locs hP hD hT hS => ?_)
                            refine lv_aload_n hx hb dX13_restore_291 rfl (lv_at hl 10 rfl) ?_
                            refine lv_iload hx hb dX13_restore_292 (lv_at hl 2 rfl) ?_
                            refine r_putI (T := TX13) (ty := .int) (v := ((((((((x1 / 201) / 3) / 4) / 10) / 4) / 541) / 7) - (((((((x1 / 201) / 3) / 4) / 10) / 4) / 541) / 7) / 6 * 6).toInt32) hx hb hts in13 tyX13 tyX13_ok nmX13 hown hK hP hD hT hS k0 (by decide) rfl 21 (by decide) (hts (.fieldLink RX13 500 "StoneWalkModel" "told" "I") (List.mem_of_getElem? (i := 16) (by decide +kernel))) rfl rfl (tyX13_ok 21 (by decide)) rfl rfl rfl dX13_restore_294 (fun H locs hP hD hT hS => ?_)
                            refine lv_aload_n hx hb dX13_restore_297 rfl (lv_at hl 10 rfl) ?_
                            refine lv_iload hx hb dX13_restore_298 (lv_at hl 3 rfl) ?_
                            refine r_putI (T := TX13) (ty := .int) (v := (((((((x1 / 201) / 3) / 4) / 10) / 4) / 541) - ((((((x1 / 201) / 3) / 4) / 10) / 4) / 541) / 7 * 7).toInt32) hx hb hts in13 tyX13 tyX13_ok nmX13 hown hK hP hD hT hS k0 (by decide) rfl 22 (by decide) (hts (.fieldLink RX13 503 "StoneWalkModel" "slopesGone" "I") (List.mem_of_getElem? (i := 17) (by decide +kernel))) rfl rfl (tyX13_ok 22 (by decide)) rfl rfl rfl dX13_restore_300 (fun H locs hP hD hT hS => ?_)
                            refine lv_aload_n hx hb dX13_restore_303 rfl (lv_at hl 10 rfl) ?_
                            refine lv_iload hx hb dX13_restore_304 (lv_at hl 4 rfl) ?_
                            refine r_putI (T := TX13) (ty := .int) (v := ((((((x1 / 201) / 3) / 4) / 10) / 4) - (((((x1 / 201) / 3) / 4) / 10) / 4) / 541 * 541).toInt32) hx hb hts in13 tyX13 tyX13_ok nmX13 hown hK hP hD hT hS k0 (by decide) rfl 23 (by decide) (hts (.fieldLink RX13 506 "StoneWalkModel" "minutesGone" "I") (List.mem_of_getElem? (i := 18) (by decide +kernel))) rfl rfl (tyX13_ok 23 (by decide)) rfl rfl rfl dX13_restore_306 (fun H locs hP hD hT hS => ?_)
                            refine lv_aload_n hx hb dX13_restore_309 rfl (lv_at hl 10 rfl) ?_
                            refine lv_iload hx hb dX13_restore_310 (lv_at hl 5 rfl) ?_
                            refine lv_iconst (v := 3) hx hb dX13_restore_312 rfl ?_
                            refine lv_icmp_ne (tgt := 321) hx hb dX13_restore_313 rfl (fun c29 => ?_) (fun c29 => ?_)
                            · replace h := ite_f c29 h
                              refine lv_iload hx hb dX13_restore_321 (lv_at hl 5 rfl) ?_
                              refine r_putI (T := TX13) (ty := .int) (v := (((((x1 / 201) / 3) / 4) / 10) - ((((x1 / 201) / 3) / 4) / 10) / 4 * 4).toInt32) hx hb hts in13 tyX13 tyX13_ok nmX13 hown hK hP hD hT hS k0 (by decide) rfl 24 (by decide) (hts (.fieldLink RX13 509 "StoneWalkModel" "liesNow" "I") (List.mem_of_getElem? (i := 19) (by decide +kernel))) rfl rfl (tyX13_ok 24 (by decide)) rfl rfl rfl dX13_restore_323 (fun H locs hP hD hT hS => ?_)
                              refine lv_aload_n hx hb dX13_restore_326 rfl (lv_at hl 10 rfl) ?_
                              obtain ⟨z30, h30, h⟩ := ob_some h
                              refine k_z (va_runV (As := []) (rest := []) ⟨hx, hb, hml, hown, hts⟩ (c_X13_granted (l := l) (pI (pI (pI (pI (pI (pI (pI (pI (pI (pI M a0 0 0) a0 16 (((((((((x1 / 201) / 3) / 4) / 10) / 4) / 541) / 7) / 6).toInt32)) a0 17 (((((x1 / 201) / 3) / 4) - (((x1 / 201) / 3) / 4) / 10 * 10).toInt32)) a0 18 ((((x1 / 201) / 3) - ((x1 / 201) / 3) / 4 * 4).toInt32)) a0 19 (((x1 / 201) - (x1 / 201) / 3 * 3).toInt32)) a0 20 ((x1 - x1 / 201 * 201).toInt32)) a0 21 (((((((((x1 / 201) / 3) / 4) / 10) / 4) / 541) / 7) - (((((((x1 / 201) / 3) / 4) / 10) / 4) / 541) / 7) / 6 * 6).toInt32)) a0 22 ((((((((x1 / 201) / 3) / 4) / 10) / 4) / 541) - ((((((x1 / 201) / 3) / 4) / 10) / 4) / 541) / 7 * 7).toInt32)) a0 23 (((((((x1 / 201) / 3) / 4) / 10) / 4) - (((((x1 / 201) / 3) / 4) / 10) / 4) / 541 * 541).toInt32)) a0 24 ((((((x1 / 201) / 3) / 4) / 10) - ((((x1 / 201) / 3) / 4) / 10) / 4 * 4).toInt32)) a0 k0 h30) (cwV 0 hts gX13_restore_X13_granted rfl rfl rfl hdV_X13_granted ⟨Nat.le_of_ble_eq_true rfl, Nat.le_of_ble_eq_true rfl⟩) (pV (T := TX13) hP hK hD hT hG hS k0 (by decide) rfl) rfl rfl hl.1 rfl (lv_room (Nat.le_of_ble_eq_true rfl)) dX13_restore_327 ⟨Nat.zero_le _, Nat.zero_le _⟩) hS (fun H locs hz30 hP hD hT hS => ?_)
                              have hZ := Option.some.inj h
                              exact r_zret hx hb hr hlocks hP hK hD hT hG hS hz30 (congrArg Prod.fst hZ) (congrArg Prod.snd hZ) dX13_restore_330
                            · replace h := ite_t c29 h
                              refine lv_bipush (v := (-2)) hx hb dX13_restore_316 rfl ?_
                              refine lv_goto (tgt := 323) hx hb dX13_restore_318 rfl ?_
                              refine r_putI (T := TX13) (ty := .int) (v := (-2)) hx hb hts in13 tyX13 tyX13_ok nmX13 hown hK hP hD hT hS k0 (by decide) rfl 24 (by decide) (hts (.fieldLink RX13 509 "StoneWalkModel" "liesNow" "I") (List.mem_of_getElem? (i := 19) (by decide +kernel))) rfl rfl (tyX13_ok 24 (by decide)) rfl rfl rfl dX13_restore_323 (fun H locs hP hD hT hS => ?_)
                              refine lv_aload_n hx hb dX13_restore_326 rfl (lv_at hl 10 rfl) ?_
                              obtain ⟨z31, h31, h⟩ := ob_some h
                              refine k_z (va_runV (As := []) (rest := []) ⟨hx, hb, hml, hown, hts⟩ (c_X13_granted (l := l) (pI (pI (pI (pI (pI (pI (pI (pI (pI (pI M a0 0 0) a0 16 (((((((((x1 / 201) / 3) / 4) / 10) / 4) / 541) / 7) / 6).toInt32)) a0 17 (((((x1 / 201) / 3) / 4) - (((x1 / 201) / 3) / 4) / 10 * 10).toInt32)) a0 18 ((((x1 / 201) / 3) - ((x1 / 201) / 3) / 4 * 4).toInt32)) a0 19 (((x1 / 201) - (x1 / 201) / 3 * 3).toInt32)) a0 20 ((x1 - x1 / 201 * 201).toInt32)) a0 21 (((((((((x1 / 201) / 3) / 4) / 10) / 4) / 541) / 7) - (((((((x1 / 201) / 3) / 4) / 10) / 4) / 541) / 7) / 6 * 6).toInt32)) a0 22 ((((((((x1 / 201) / 3) / 4) / 10) / 4) / 541) - ((((((x1 / 201) / 3) / 4) / 10) / 4) / 541) / 7 * 7).toInt32)) a0 23 (((((((x1 / 201) / 3) / 4) / 10) / 4) - (((((x1 / 201) / 3) / 4) / 10) / 4) / 541 * 541).toInt32)) a0 24 (-2)) a0 k0 h31) (cwV 0 hts gX13_restore_X13_granted rfl rfl rfl hdV_X13_granted ⟨Nat.le_of_ble_eq_true rfl, Nat.le_of_ble_eq_true rfl⟩) (pV (T := TX13) hP hK hD hT hG hS k0 (by decide) rfl) rfl rfl hl.1 rfl (lv_room (Nat.le_of_ble_eq_true rfl)) dX13_restore_327 ⟨Nat.zero_le _, Nat.zero_le _⟩) hS (fun H locs hz31 hP hD hT hS => ?_)
                              have hZ := Option.some.inj h
                              exact r_zret hx hb hr hlocks hP hK hD hT hG hS hz31 (congrArg Prod.fst hZ) (congrArg Prod.snd hZ) dX13_restore_330
                          · replace h := ite_f c28 h
                            refine lv_aload_n hx hb dX13_restore_255 rfl (lv_at hl 10 rfl) ?_
                            refine lv_iconst (v := 2) hx hb dX13_restore_256 rfl ?_
                            obtain ⟨z32, h32, h⟩ := ob_some h
                            refine k_z (va_runV (As := [.int 2]) (rest := []) ⟨hx, hb, hml, hown, hts⟩ (c_X13_denied (l := l) (pI M a0 0 0) a0 2 k0 h32) (cwV 1 hts gX13_restore_X13_denied rfl rfl rfl hdV_X13_denied ⟨Nat.le_of_ble_eq_true rfl, Nat.le_of_ble_eq_true rfl⟩) (pV (T := TX13) hP hK hD hT hG hS k0 (by decide) rfl) rfl rfl hl.1 rfl (lv_room (Nat.le_of_ble_eq_true rfl)) dX13_restore_257 ⟨Nat.zero_le _, Nat.zero_le _⟩) hS (fun H locs hz32 hP hD hT hS => ?_)
                            have hZ := Option.some.inj h
                            exact r_zret hx hb hr hlocks hP hK hD hT hG hS hz32 (congrArg Prod.fst hZ) (congrArg Prod.snd hZ) dX13_restore_260
                        · replace h := ite_t c27 h
                          refine lv_iload hx hb dX13_restore_238 (lv_at hl 3 rfl) ?_
                          refine lv_iload hx hb dX13_restore_240 (lv_at hl 0 rfl) ?_
                          refine lv_icmp_eq (tgt := 261) hx hb dX13_restore_242 rfl (fun c33 => ?_) (fun c33 => ?_)
                          · replace h := ite_t c33 h
                            refine lv_aload_n hx hb dX13_restore_261 rfl (lv_at hl 10 rfl) ?_
                            refine lv_lload_n hx hb dX13_restore_262 rfl (lv_at hl 1 rfl) ?_
                            refine lv_l2i hx hb dX13_restore_263 rfl ?_
                            refine r_putI (T := TX13) (ty := .int) (v := ((((((((x1 / 201) / 3) / 4) / 10) / 4) / 541) / 7) / 6).toInt32) hx hb hts in13 tyX13 tyX13_ok nmX13 hown hK hP hD hT hS k0 (by decide) rfl 16 (by decide) (hts (.fieldLink RX13 437 "StoneWalkModel" "seed" "I") (List.mem_of_getElem? (i := 11) (by decide +kernel))) rfl rfl (tyX13_ok 16 (by decide)) rfl rfl rfl dX13_restore_264 (fun H locs hP hD hT hS => ?_)
                            refine lv_aload_n hx hb dX13_restore_267 rfl (lv_at hl 10 rfl) ?_
                            refine lv_iload hx hb dX13_restore_268 (lv_at hl 6 rfl) ?_
                            refine r_putI (T := TX13) (ty := .int) (v := ((((x1 / 201) / 3) / 4) - (((x1 / 201) / 3) / 4) / 10 * 10).toInt32) hx hb hts in13 tyX13 tyX13_ok nmX13 hown hK hP hD hT hS k0 (by decide) rfl 17 (by decide) (hts (.fieldLink RX13 17 "StoneWalkModel" "moved" "I") (List.mem_of_getElem? (i := 12) (by decide +kernel))) rfl rfl (tyX13_ok 17 (by decide)) rfl rfl rfl dX13_restore_270 (fun H locs hP hD hT hS => ?_)
                            refine lv_aload_n hx hb dX13_restore_273 rfl (lv_at hl 10 rfl) ?_
                            refine lv_iload hx hb dX13_restore_274 (lv_at hl 7 rfl) ?_
                            refine r_putI (T := TX13) (ty := .int) (v := (((x1 / 201) / 3) - ((x1 / 201) / 3) / 4 * 4).toInt32) hx hb hts in13 tyX13 tyX13_ok nmX13 hown hK hP hD hT hS k0 (by decide) rfl 18 (by decide) (hts (.fieldLink RX13 490 "StoneWalkModel" "movedBy" "I") (List.mem_of_getElem? (i := 13) (by decide +kernel))) rfl rfl (tyX13_ok 18 (by decide)) rfl rfl rfl dX13_restore_276 (fun H locs hP hD hT hS => ?_)
                            refine lv_aload_n hx hb dX13_restore_279 rfl (lv_at hl 10 rfl) ?_
                            refine lv_iload hx hb dX13_restore_280 (lv_at hl 8 rfl) ?_
                            refine r_putI (T := TX13) (ty := .int) (v := ((x1 / 201) - (x1 / 201) / 3 * 3).toInt32) hx hb hts in13 tyX13 tyX13_ok nmX13 hown hK hP hD hT hS k0 (by decide) rfl 19 (by decide) (hts (.fieldLink RX13 493 "StoneWalkModel" "movedOn" "I") (List.mem_of_getElem? (i := 14) (by decide +kernel))) rfl rfl (tyX13_ok 19 (by decide)) rfl rfl rfl dX13_restore_282 (fun H locs hP hD hT hS => ?_)
                            refine lv_aload_n hx hb dX13_restore_285 rfl (lv_at hl 10 rfl) ?_
                            refine lv_iload hx hb dX13_restore_286 (lv_at hl 9 rfl) ?_
                            refine r_putI (T := TX13) (ty := .int) (v := (x1 - x1 / 201 * 201).toInt32) hx hb hts in13 tyX13 tyX13_ok nmX13 hown hK hP hD hT hS k0 (by decide) rfl 20 (by decide) (hts (.fieldLink RX13 496 "StoneWalkModel" "people" "I") (List.mem_of_getElem? (i := 15) (by decide +kernel))) rfl rfl (tyX13_ok 20 (by decide)) rfl rfl rfl dX13_restore_288 (fun H locs hP hD hT hS => ?_)
                            refine lv_aload_n hx hb dX13_restore_291 rfl (lv_at hl 10 rfl) ?_
                            refine lv_iload hx hb dX13_restore_292 (lv_at hl 2 rfl) ?_
                            refine r_putI (T := TX13) (ty := .int) (v := ((((((((x1 / 201) / 3) / 4) / 10) / 4) / 541) / 7) - (((((((x1 / 201) / 3) / 4) / 10) / 4) / 541) / 7) / 6 * 6).toInt32) hx hb hts in13 tyX13 tyX13_ok nmX13 hown hK hP hD hT hS k0 (by decide) rfl 21 (by decide) (hts (.fieldLink RX13 500 "StoneWalkModel" "told" "I") (List.mem_of_getElem? (i := 16) (by decide +kernel))) rfl rfl (tyX13_ok 21 (by decide)) rfl rfl rfl dX13_restore_294 (fun H locs hP hD hT hS => ?_)
                            refine lv_aload_n hx hb dX13_restore_297 rfl (lv_at hl 10 rfl) ?_
                            refine lv_iload hx hb dX13_restore_298 (lv_at hl 3 rfl) ?_
                            refine r_putI (T := TX13) (ty := .int) (v := (((((((x1 / 201) / 3) / 4) / 10) / 4) / 541) - ((((((x1 / 201) / 3) / 4) / 10) / 4) / 541) / 7 * 7).toInt32) hx hb hts in13 tyX13 tyX13_ok nmX13 hown hK hP hD hT hS k0 (by decide) rfl 22 (by decide) (hts (.fieldLink RX13 503 "StoneWalkModel" "slopesGone" "I") (List.mem_of_getElem? (i := 17) (by decide +kernel))) rfl rfl (tyX13_ok 22 (by decide)) rfl rfl rfl dX13_restore_300 (fun H locs hP hD hT hS => ?_)
                            refine lv_aload_n hx hb dX13_restore_303 rfl (lv_at hl 10 rfl) ?_
                            refine lv_iload hx hb dX13_restore_304 (lv_at hl 4 rfl) ?_
                            refine r_putI (T := TX13) (ty := .int) (v := ((((((x1 / 201) / 3) / 4) / 10) / 4) - (((((x1 / 201) / 3) / 4) / 10) / 4) / 541 * 541).toInt32) hx hb hts in13 tyX13 tyX13_ok nmX13 hown hK hP hD hT hS k0 (by decide) rfl 23 (by decide) (hts (.fieldLink RX13 506 "StoneWalkModel" "minutesGone" "I") (List.mem_of_getElem? (i := 18) (by decide +kernel))) rfl rfl (tyX13_ok 23 (by decide)) rfl rfl rfl dX13_restore_306 (fun H locs hP hD hT hS => ?_)
                            refine lv_aload_n hx hb dX13_restore_309 rfl (lv_at hl 10 rfl) ?_
                            refine lv_iload hx hb dX13_restore_310 (lv_at hl 5 rfl) ?_
                            refine lv_iconst (v := 3) hx hb dX13_restore_312 rfl ?_
                            refine lv_icmp_ne (tgt := 321) hx hb dX13_restore_313 rfl (fun c34 => ?_) (fun c34 => ?_)
                            · replace h := ite_f c34 h
                              refine lv_iload hx hb dX13_restore_321 (lv_at hl 5 rfl) ?_
                              refine r_putI (T := TX13) (ty := .int) (v := (((((x1 / 201) / 3) / 4) / 10) - ((((x1 / 201) / 3) / 4) / 10) / 4 * 4).toInt32) hx hb hts in13 tyX13 tyX13_ok nmX13 hown hK hP hD hT hS k0 (by decide) rfl 24 (by decide) (hts (.fieldLink RX13 509 "StoneWalkModel" "liesNow" "I") (List.mem_of_getElem? (i := 19) (by decide +kernel))) rfl rfl (tyX13_ok 24 (by decide)) rfl rfl rfl dX13_restore_323 (fun H locs hP hD hT hS => ?_)
                              refine lv_aload_n hx hb dX13_restore_326 rfl (lv_at hl 10 rfl) ?_
                              obtain ⟨z35, h35, h⟩ := ob_some h
                              refine k_z (va_runV (As := []) (rest := []) ⟨hx, hb, hml, hown, hts⟩ (c_X13_granted (l := l) (pI (pI (pI (pI (pI (pI (pI (pI (pI (pI M a0 0 0) a0 16 (((((((((x1 / 201) / 3) / 4) / 10) / 4) / 541) / 7) / 6).toInt32)) a0 17 (((((x1 / 201) / 3) / 4) - (((x1 / 201) / 3) / 4) / 10 * 10).toInt32)) a0 18 ((((x1 / 201) / 3) - ((x1 / 201) / 3) / 4 * 4).toInt32)) a0 19 (((x1 / 201) - (x1 / 201) / 3 * 3).toInt32)) a0 20 ((x1 - x1 / 201 * 201).toInt32)) a0 21 (((((((((x1 / 201) / 3) / 4) / 10) / 4) / 541) / 7) - (((((((x1 / 201) / 3) / 4) / 10) / 4) / 541) / 7) / 6 * 6).toInt32)) a0 22 ((((((((x1 / 201) / 3) / 4) / 10) / 4) / 541) - ((((((x1 / 201) / 3) / 4) / 10) / 4) / 541) / 7 * 7).toInt32)) a0 23 (((((((x1 / 201) / 3) / 4) / 10) / 4) - (((((x1 / 201) / 3) / 4) / 10) / 4) / 541 * 541).toInt32)) a0 24 ((((((x1 / 201) / 3) / 4) / 10) - ((((x1 / 201) / 3) / 4) / 10) / 4 * 4).toInt32)) a0 k0 h35) (cwV 0 hts gX13_restore_X13_granted rfl rfl rfl hdV_X13_granted ⟨Nat.le_of_ble_eq_true rfl, Nat.le_of_ble_eq_true rfl⟩) (pV (T := TX13) hP hK hD hT hG hS k0 (by decide) rfl) rfl rfl hl.1 rfl (lv_room (Nat.le_of_ble_eq_true rfl)) dX13_restore_327 ⟨Nat.zero_le _, Nat.zero_le _⟩) hS (fun H locs hz35 hP hD hT hS => ?_)
                              have hZ := Option.some.inj h
                              exact r_zret hx hb hr hlocks hP hK hD hT hG hS hz35 (congrArg Prod.fst hZ) (congrArg Prod.snd hZ) dX13_restore_330
                            · replace h := ite_t c34 h
                              refine lv_bipush (v := (-2)) hx hb dX13_restore_316 rfl ?_
                              refine lv_goto (tgt := 323) hx hb dX13_restore_318 rfl ?_
                              refine r_putI (T := TX13) (ty := .int) (v := (-2)) hx hb hts in13 tyX13 tyX13_ok nmX13 hown hK hP hD hT hS k0 (by decide) rfl 24 (by decide) (hts (.fieldLink RX13 509 "StoneWalkModel" "liesNow" "I") (List.mem_of_getElem? (i := 19) (by decide +kernel))) rfl rfl (tyX13_ok 24 (by decide)) rfl rfl rfl dX13_restore_323 (fun H locs hP hD hT hS => ?_)
                              refine lv_aload_n hx hb dX13_restore_326 rfl (lv_at hl 10 rfl) ?_
                              obtain ⟨z36, h36, h⟩ := ob_some h
                              refine k_z (va_runV (As := []) (rest := []) ⟨hx, hb, hml, hown, hts⟩ (c_X13_granted (l := l) (pI (pI (pI (pI (pI (pI (pI (pI (pI (pI M a0 0 0) a0 16 (((((((((x1 / 201) / 3) / 4) / 10) / 4) / 541) / 7) / 6).toInt32)) a0 17 (((((x1 / 201) / 3) / 4) - (((x1 / 201) / 3) / 4) / 10 * 10).toInt32)) a0 18 ((((x1 / 201) / 3) - ((x1 / 201) / 3) / 4 * 4).toInt32)) a0 19 (((x1 / 201) - (x1 / 201) / 3 * 3).toInt32)) a0 20 ((x1 - x1 / 201 * 201).toInt32)) a0 21 (((((((((x1 / 201) / 3) / 4) / 10) / 4) / 541) / 7) - (((((((x1 / 201) / 3) / 4) / 10) / 4) / 541) / 7) / 6 * 6).toInt32)) a0 22 ((((((((x1 / 201) / 3) / 4) / 10) / 4) / 541) - ((((((x1 / 201) / 3) / 4) / 10) / 4) / 541) / 7 * 7).toInt32)) a0 23 (((((((x1 / 201) / 3) / 4) / 10) / 4) - (((((x1 / 201) / 3) / 4) / 10) / 4) / 541 * 541).toInt32)) a0 24 (-2)) a0 k0 h36) (cwV 0 hts gX13_restore_X13_granted rfl rfl rfl hdV_X13_granted ⟨Nat.le_of_ble_eq_true rfl, Nat.le_of_ble_eq_true rfl⟩) (pV (T := TX13) hP hK hD hT hG hS k0 (by decide) rfl) rfl rfl hl.1 rfl (lv_room (Nat.le_of_ble_eq_true rfl)) dX13_restore_327 ⟨Nat.zero_le _, Nat.zero_le _⟩) hS (fun H locs hz36 hP hD hT hS => ?_)
                              have hZ := Option.some.inj h
                              exact r_zret hx hb hr hlocks hP hK hD hT hG hS hz36 (congrArg Prod.fst hZ) (congrArg Prod.snd hZ) dX13_restore_330
                          · replace h := ite_f c33 h
                            refine lv_goto (tgt := 255) hx hb dX13_restore_245 rfl ?_
                            refine lv_aload_n hx hb dX13_restore_255 rfl (lv_at hl 10 rfl) ?_
                            refine lv_iconst (v := 2) hx hb dX13_restore_256 rfl ?_
                            obtain ⟨z37, h37, h⟩ := ob_some h
                            refine k_z (va_runV (As := [.int 2]) (rest := []) ⟨hx, hb, hml, hown, hts⟩ (c_X13_denied (l := l) (pI M a0 0 0) a0 2 k0 h37) (cwV 1 hts gX13_restore_X13_denied rfl rfl rfl hdV_X13_denied ⟨Nat.le_of_ble_eq_true rfl, Nat.le_of_ble_eq_true rfl⟩) (pV (T := TX13) hP hK hD hT hG hS k0 (by decide) rfl) rfl rfl hl.1 rfl (lv_room (Nat.le_of_ble_eq_true rfl)) dX13_restore_257 ⟨Nat.zero_le _, Nat.zero_le _⟩) hS (fun H locs hz37 hP hD hT hS => ?_)
                            have hZ := Option.some.inj h
                            exact r_zret hx hb hr hlocks hP hK hD hT hG hS hz37 (congrArg Prod.fst hZ) (congrArg Prod.snd hZ) dX13_restore_260
                  · replace h := ite_t c19 h
                    refine lv_iconst (v := 1) hx hb dX13_restore_195 rfl ?_
                    refine lv_goto (tgt := 200) hx hb dX13_restore_196 rfl ?_
                    refine lv_iload hx hb dX13_restore_200 (lv_at hl 1 rfl) ?_
                    refine lv_iconst (v := 3) hx hb dX13_restore_202 rfl ?_
                    refine lv_icmp_ne (tgt := 210) hx hb dX13_restore_203 rfl (fun c38 => ?_) (fun c38 => ?_)
                    · replace h := ite_f c38 h
                      refine lv_iconst (v := 0) hx hb dX13_restore_210 rfl ?_
                      refine lv_icmp_ne (tgt := 220) hx hb dX13_restore_211 rfl (fun _ => ?_) (fun c39 => absurd c39 (by decide))
                      refine lv_aload_n hx hb dX13_restore_220 rfl (lv_at hl 9 rfl) ?_
                      rcases hN40 : gR (pI M a0 0 0) a0 3 with _ | b40
                      · replace h := oc_n hN40 h
                        refine r_get (T := TX13) (v := .null) hx hb hts in13 hown hK hP k0 (by decide) rfl 3 (by decide) (hts (.fieldLink RX13 431 "StoneWalkModel" "island" "LStoneWalkModel$Island;") (List.mem_of_getElem? (i := 2) (by decide +kernel))) rfl (t := 2) rfl (by show va_rf _ = _; rw [hN40]; rfl) dX13_restore_221 ?_
                        exact absurd h (by simp)
                      · replace h := oc_s hN40 h
                        have kb40 := hT.f k0 (k := 3) (t := 12) (n := 0) rfl hN40
                        refine r_get (T := TX13) (v := .ref (ad b40)) hx hb hts in13 hown hK hP k0 (by decide) rfl 3 (by decide) (hts (.fieldLink RX13 431 "StoneWalkModel" "island" "LStoneWalkModel$Island;") (List.mem_of_getElem? (i := 2) (by decide +kernel))) rfl (t := 2) rfl (by show va_rf _ = _; rw [hN40]; rfl) dX13_restore_221 ?_
                        rcases hN41 : gR (pI M a0 0 0) b40 13 with _ | b41
                        · exact absurd (oc_n hN41 h) (by simp)
                        replace h := oc_s hN41 h
                        have kb41 := hT.f kb40 (k := 13) (t := 15) (n := 3) rfl hN41
                        refine r_getN (T := TX12) (v := .ref (ad b41)) hx hb hts in12 hown hK hP kb40 (by decide) rfl 13 (by decide) (hG.2.2.1 _ (List.mem_of_getElem? (i := 13) rfl)) rfl (t := 2) rfl (by show va_rf _ = _; rw [hN41]; rfl) dX13_restore_224 ?_
                        refine lv_iload hx hb dX13_restore_227 (lv_at hl 7 rfl) ?_
                        obtain ⟨hn42, h⟩ := chk_some h
                        refine r_iald hx hb hK hP kb41 hn42 dX13_restore_229 ?_
                        refine lv_istore (lv' := [(13, .int (gI (pI M a0 0 0) b41 (ix (((x1 / 201) - (x1 / 201) / 3 * 3).toInt32)))), (3, .long ((((((((x1 / 201) / 3) / 4) / 10) / 4) / 541) / 7) / 6)), (12, .int (((((((((x1 / 201) / 3) / 4) / 10) / 4) / 541) / 7) - (((((((x1 / 201) / 3) / 4) / 10) / 4) / 541) / 7) / 6 * 6).toInt32)), (11, .int ((((((((x1 / 201) / 3) / 4) / 10) / 4) / 541) - ((((((x1 / 201) / 3) / 4) / 10) / 4) / 541) / 7 * 7).toInt32)), (10, .int (((((((x1 / 201) / 3) / 4) / 10) / 4) - (((((x1 / 201) / 3) / 4) / 10) / 4) / 541 * 541).toInt32)), (9, .int ((((((x1 / 201) / 3) / 4) / 10) - ((((x1 / 201) / 3) / 4) / 10) / 4 * 4).toInt32)), (8, .int (((((x1 / 201) / 3) / 4) - (((x1 / 201) / 3) / 4) / 10 * 10).toInt32)), (7, .int ((((x1 / 201) / 3) - ((x1 / 201) / 3) / 4 * 4).toInt32)), (6, .int (((x1 / 201) - (x1 / 201) / 3 * 3).toInt32)), (5, .int ((x1 - x1 / 201 * 201).toInt32)), (0, .ref (ad a0)), (1, .long x1)]) hx hb dX13_restore_230 hl (by decide) rfl (fun ls hl => ?_)
                        refine lv_iload hx hb dX13_restore_232 (lv_at hl 2 rfl) ?_
                        refine lv_iconst (v := 2) hx hb dX13_restore_234 rfl ?_
                        refine lv_icmp_ne (tgt := 248) hx hb dX13_restore_235 rfl (fun c43 => ?_) (fun c43 => ?_)
                        · replace h := ite_f c43 h
                          refine lv_iload hx hb dX13_restore_248 (lv_at hl 3 rfl) ?_
                          refine lv_iload hx hb dX13_restore_250 (lv_at hl 0 rfl) ?_
                          refine lv_icmp_lt (tgt := 261) hx hb dX13_restore_252 rfl (fun c44 => ?_) (fun c44 => ?_)
                          · replace h := ite_t c44 h
                            refine lv_aload_n hx hb dX13_restore_261 rfl (lv_at hl 10 rfl) ?_
                            refine lv_lload_n hx hb dX13_restore_262 rfl (lv_at hl 1 rfl) ?_
                            refine lv_l2i hx hb dX13_restore_263 rfl ?_
                            refine r_putI (T := TX13) (ty := .int) (v := ((((((((x1 / 201) / 3) / 4) / 10) / 4) / 541) / 7) / 6).toInt32) hx hb hts in13 tyX13 tyX13_ok nmX13 hown hK hP hD hT hS k0 (by decide) rfl 16 (by decide) (hts (.fieldLink RX13 437 "StoneWalkModel" "seed" "I") (List.mem_of_getElem? (i := 11) (by decide +kernel))) rfl rfl (tyX13_ok 16 (by decide)) rfl rfl rfl dX13_restore_264 (fun H locs hP hD hT hS => ?_)
                            refine lv_aload_n hx hb dX13_restore_267 rfl (lv_at hl 10 rfl) ?_
                            refine lv_iload hx hb dX13_restore_268 (lv_at hl 6 rfl) ?_
                            refine r_putI (T := TX13) (ty := .int) (v := ((((x1 / 201) / 3) / 4) - (((x1 / 201) / 3) / 4) / 10 * 10).toInt32) hx hb hts in13 tyX13 tyX13_ok nmX13 hown hK hP hD hT hS k0 (by decide) rfl 17 (by decide) (hts (.fieldLink RX13 17 "StoneWalkModel" "moved" "I") (List.mem_of_getElem? (i := 12) (by decide +kernel))) rfl rfl (tyX13_ok 17 (by decide)) rfl rfl rfl dX13_restore_270 (fun H locs hP hD hT hS => ?_)
                            refine lv_aload_n hx hb dX13_restore_273 rfl (lv_at hl 10 rfl) ?_
                            refine lv_iload hx hb dX13_restore_274 (lv_at hl 7 rfl) ?_
                            refine r_putI (T := TX13) (ty := .int) (v := (((x1 / 201) / 3) - ((x1 / 201) / 3) / 4 * 4).toInt32) hx hb hts in13 tyX13 tyX13_ok nmX13 hown hK hP hD hT hS k0 (by decide) rfl 18 (by decide) (hts (.fieldLink RX13 490 "StoneWalkModel" "movedBy" "I") (List.mem_of_getElem? (i := 13) (by decide +kernel))) rfl rfl (tyX13_ok 18 (by decide)) rfl rfl rfl dX13_restore_276 (fun H locs hP hD hT hS => ?_)
                            refine lv_aload_n hx hb dX13_restore_279 rfl (lv_at hl 10 rfl) ?_
                            refine lv_iload hx hb dX13_restore_280 (lv_at hl 8 rfl) ?_
                            refine r_putI (T := TX13) (ty := .int) (v := ((x1 / 201) - (x1 / 201) / 3 * 3).toInt32) hx hb hts in13 tyX13 tyX13_ok nmX13 hown hK hP hD hT hS k0 (by decide) rfl 19 (by decide) (hts (.fieldLink RX13 493 "StoneWalkModel" "movedOn" "I") (List.mem_of_getElem? (i := 14) (by decide +kernel))) rfl rfl (tyX13_ok 19 (by decide)) rfl rfl rfl dX13_restore_282 (fun H locs hP hD hT hS => ?_)
                            refine lv_aload_n hx hb dX13_restore_285 rfl (lv_at hl 10 rfl) ?_
                            refine lv_iload hx hb dX13_restore_286 (lv_at hl 9 rfl) ?_
                            refine r_putI (T := TX13) (ty := .int) (v := (x1 - x1 / 201 * 201).toInt32) hx hb hts in13 tyX13 tyX13_ok nmX13 hown hK hP hD hT hS k0 (by decide) rfl 20 (by decide) (hts (.fieldLink RX13 496 "StoneWalkModel" "people" "I") (List.mem_of_getElem? (i := 15) (by decide +kernel))) rfl rfl (tyX13_ok 20 (by decide)) rfl rfl rfl dX13_restore_288 (fun H locs hP hD hT hS => ?_)
                            refine lv_aload_n hx hb dX13_restore_291 rfl (lv_at hl 10 rfl) ?_
                            refine lv_iload hx hb dX13_restore_292 (lv_at hl 2 rfl) ?_
                            refine r_putI (T := TX13) (ty := .int) (v := ((((((((x1 / 201) / 3) / 4) / 10) / 4) / 541) / 7) - (((((((x1 / 201) / 3) / 4) / 10) / 4) / 541) / 7) / 6 * 6).toInt32) hx hb hts in13 tyX13 tyX13_ok nmX13 hown hK hP hD hT hS k0 (by decide) rfl 21 (by decide) (hts (.fieldLink RX13 500 "StoneWalkModel" "told" "I") (List.mem_of_getElem? (i := 16) (by decide +kernel))) rfl rfl (tyX13_ok 21 (by decide)) rfl rfl rfl dX13_restore_294 (fun H locs hP hD hT hS => ?_)
                            refine lv_aload_n hx hb dX13_restore_297 rfl (lv_at hl 10 rfl) ?_
                            refine lv_iload hx hb dX13_restore_298 (lv_at hl 3 rfl) ?_
                            refine r_putI (T := TX13) (ty := .int) (v := (((((((x1 / 201) / 3) / 4) / 10) / 4) / 541) - ((((((x1 / 201) / 3) / 4) / 10) / 4) / 541) / 7 * 7).toInt32) hx hb hts in13 tyX13 tyX13_ok nmX13 hown hK hP hD hT hS k0 (by decide) rfl 22 (by decide) (hts (.fieldLink RX13 503 "StoneWalkModel" "slopesGone" "I") (List.mem_of_getElem? (i := 17) (by decide +kernel))) rfl rfl (tyX13_ok 22 (by decide)) rfl rfl rfl dX13_restore_300 (fun H locs hP hD hT hS => ?_)
                            refine lv_aload_n hx hb dX13_restore_303 rfl (lv_at hl 10 rfl) ?_
                            refine lv_iload hx hb dX13_restore_304 (lv_at hl 4 rfl) ?_
                            refine r_putI (T := TX13) (ty := .int) (v := ((((((x1 / 201) / 3) / 4) / 10) / 4) - (((((x1 / 201) / 3) / 4) / 10) / 4) / 541 * 541).toInt32) hx hb hts in13 tyX13 tyX13_ok nmX13 hown hK hP hD hT hS k0 (by decide) rfl 23 (by decide) (hts (.fieldLink RX13 506 "StoneWalkModel" "minutesGone" "I") (List.mem_of_getElem? (i := 18) (by decide +kernel))) rfl rfl (tyX13_ok 23 (by decide)) rfl rfl rfl dX13_restore_306 (fun H locs hP hD hT hS => ?_)
                            refine lv_aload_n hx hb dX13_restore_309 rfl (lv_at hl 10 rfl) ?_
                            refine lv_iload hx hb dX13_restore_310 (lv_at hl 5 rfl) ?_
                            refine lv_iconst (v := 3) hx hb dX13_restore_312 rfl ?_
                            refine lv_icmp_ne (tgt := 321) hx hb dX13_restore_313 rfl (fun c45 => ?_) (fun c45 => ?_)
                            · replace h := ite_f c45 h
                              refine lv_iload hx hb dX13_restore_321 (lv_at hl 5 rfl) ?_
                              refine r_putI (T := TX13) (ty := .int) (v := (((((x1 / 201) / 3) / 4) / 10) - ((((x1 / 201) / 3) / 4) / 10) / 4 * 4).toInt32) hx hb hts in13 tyX13 tyX13_ok nmX13 hown hK hP hD hT hS k0 (by decide) rfl 24 (by decide) (hts (.fieldLink RX13 509 "StoneWalkModel" "liesNow" "I") (List.mem_of_getElem? (i := 19) (by decide +kernel))) rfl rfl (tyX13_ok 24 (by decide)) rfl rfl rfl dX13_restore_323 (fun H locs hP hD hT hS => ?_)
                              refine lv_aload_n hx hb dX13_restore_326 rfl (lv_at hl 10 rfl) ?_
                              obtain ⟨z46, h46, h⟩ := ob_some h
                              refine k_z (va_runV (As := []) (rest := []) ⟨hx, hb, hml, hown, hts⟩ (c_X13_granted (l := l) (pI (pI (pI (pI (pI (pI (pI (pI (pI (pI M a0 0 0) a0 16 (((((((((x1 / 201) / 3) / 4) / 10) / 4) / 541) / 7) / 6).toInt32)) a0 17 (((((x1 / 201) / 3) / 4) - (((x1 / 201) / 3) / 4) / 10 * 10).toInt32)) a0 18 ((((x1 / 201) / 3) - ((x1 / 201) / 3) / 4 * 4).toInt32)) a0 19 (((x1 / 201) - (x1 / 201) / 3 * 3).toInt32)) a0 20 ((x1 - x1 / 201 * 201).toInt32)) a0 21 (((((((((x1 / 201) / 3) / 4) / 10) / 4) / 541) / 7) - (((((((x1 / 201) / 3) / 4) / 10) / 4) / 541) / 7) / 6 * 6).toInt32)) a0 22 ((((((((x1 / 201) / 3) / 4) / 10) / 4) / 541) - ((((((x1 / 201) / 3) / 4) / 10) / 4) / 541) / 7 * 7).toInt32)) a0 23 (((((((x1 / 201) / 3) / 4) / 10) / 4) - (((((x1 / 201) / 3) / 4) / 10) / 4) / 541 * 541).toInt32)) a0 24 ((((((x1 / 201) / 3) / 4) / 10) - ((((x1 / 201) / 3) / 4) / 10) / 4 * 4).toInt32)) a0 k0 h46) (cwV 0 hts gX13_restore_X13_granted rfl rfl rfl hdV_X13_granted ⟨Nat.le_of_ble_eq_true rfl, Nat.le_of_ble_eq_true rfl⟩) (pV (T := TX13) hP hK hD hT hG hS k0 (by decide) rfl) rfl rfl hl.1 rfl (lv_room (Nat.le_of_ble_eq_true rfl)) dX13_restore_327 ⟨Nat.zero_le _, Nat.zero_le _⟩) hS (fun H locs hz46 hP hD hT hS => ?_)
                              have hZ := Option.some.inj h
                              exact r_zret hx hb hr hlocks hP hK hD hT hG hS hz46 (congrArg Prod.fst hZ) (congrArg Prod.snd hZ) dX13_restore_330
                            · replace h := ite_t c45 h
                              refine lv_bipush (v := (-2)) hx hb dX13_restore_316 rfl ?_
                              refine lv_goto (tgt := 323) hx hb dX13_restore_318 rfl ?_
                              refine r_putI (T := TX13) (ty := .int) (v := (-2)) hx hb hts in13 tyX13 tyX13_ok nmX13 hown hK hP hD hT hS k0 (by decide) rfl 24 (by decide) (hts (.fieldLink RX13 509 "StoneWalkModel" "liesNow" "I") (List.mem_of_getElem? (i := 19) (by decide +kernel))) rfl rfl (tyX13_ok 24 (by decide)) rfl rfl rfl dX13_restore_323 (fun H locs hP hD hT hS => ?_)
                              refine lv_aload_n hx hb dX13_restore_326 rfl (lv_at hl 10 rfl) ?_
                              obtain ⟨z47, h47, h⟩ := ob_some h
                              refine k_z (va_runV (As := []) (rest := []) ⟨hx, hb, hml, hown, hts⟩ (c_X13_granted (l := l) (pI (pI (pI (pI (pI (pI (pI (pI (pI (pI M a0 0 0) a0 16 (((((((((x1 / 201) / 3) / 4) / 10) / 4) / 541) / 7) / 6).toInt32)) a0 17 (((((x1 / 201) / 3) / 4) - (((x1 / 201) / 3) / 4) / 10 * 10).toInt32)) a0 18 ((((x1 / 201) / 3) - ((x1 / 201) / 3) / 4 * 4).toInt32)) a0 19 (((x1 / 201) - (x1 / 201) / 3 * 3).toInt32)) a0 20 ((x1 - x1 / 201 * 201).toInt32)) a0 21 (((((((((x1 / 201) / 3) / 4) / 10) / 4) / 541) / 7) - (((((((x1 / 201) / 3) / 4) / 10) / 4) / 541) / 7) / 6 * 6).toInt32)) a0 22 ((((((((x1 / 201) / 3) / 4) / 10) / 4) / 541) - ((((((x1 / 201) / 3) / 4) / 10) / 4) / 541) / 7 * 7).toInt32)) a0 23 (((((((x1 / 201) / 3) / 4) / 10) / 4) - (((((x1 / 201) / 3) / 4) / 10) / 4) / 541 * 541).toInt32)) a0 24 (-2)) a0 k0 h47) (cwV 0 hts gX13_restore_X13_granted rfl rfl rfl hdV_X13_granted ⟨Nat.le_of_ble_eq_true rfl, Nat.le_of_ble_eq_true rfl⟩) (pV (T := TX13) hP hK hD hT hG hS k0 (by decide) rfl) rfl rfl hl.1 rfl (lv_room (Nat.le_of_ble_eq_true rfl)) dX13_restore_327 ⟨Nat.zero_le _, Nat.zero_le _⟩) hS (fun H locs hz47 hP hD hT hS => ?_)
                              have hZ := Option.some.inj h
                              exact r_zret hx hb hr hlocks hP hK hD hT hG hS hz47 (congrArg Prod.fst hZ) (congrArg Prod.snd hZ) dX13_restore_330
                          · replace h := ite_f c44 h
                            refine lv_aload_n hx hb dX13_restore_255 rfl (lv_at hl 10 rfl) ?_
                            refine lv_iconst (v := 2) hx hb dX13_restore_256 rfl ?_
                            obtain ⟨z48, h48, h⟩ := ob_some h
                            refine k_z (va_runV (As := [.int 2]) (rest := []) ⟨hx, hb, hml, hown, hts⟩ (c_X13_denied (l := l) (pI M a0 0 0) a0 2 k0 h48) (cwV 1 hts gX13_restore_X13_denied rfl rfl rfl hdV_X13_denied ⟨Nat.le_of_ble_eq_true rfl, Nat.le_of_ble_eq_true rfl⟩) (pV (T := TX13) hP hK hD hT hG hS k0 (by decide) rfl) rfl rfl hl.1 rfl (lv_room (Nat.le_of_ble_eq_true rfl)) dX13_restore_257 ⟨Nat.zero_le _, Nat.zero_le _⟩) hS (fun H locs hz48 hP hD hT hS => ?_)
                            have hZ := Option.some.inj h
                            exact r_zret hx hb hr hlocks hP hK hD hT hG hS hz48 (congrArg Prod.fst hZ) (congrArg Prod.snd hZ) dX13_restore_260
                        · replace h := ite_t c43 h
                          refine lv_iload hx hb dX13_restore_238 (lv_at hl 3 rfl) ?_
                          refine lv_iload hx hb dX13_restore_240 (lv_at hl 0 rfl) ?_
                          refine lv_icmp_eq (tgt := 261) hx hb dX13_restore_242 rfl (fun c49 => ?_) (fun c49 => ?_)
                          · replace h := ite_t c49 h
                            refine lv_aload_n hx hb dX13_restore_261 rfl (lv_at hl 10 rfl) ?_
                            refine lv_lload_n hx hb dX13_restore_262 rfl (lv_at hl 1 rfl) ?_
                            refine lv_l2i hx hb dX13_restore_263 rfl ?_
                            refine r_putI (T := TX13) (ty := .int) (v := ((((((((x1 / 201) / 3) / 4) / 10) / 4) / 541) / 7) / 6).toInt32) hx hb hts in13 tyX13 tyX13_ok nmX13 hown hK hP hD hT hS k0 (by decide) rfl 16 (by decide) (hts (.fieldLink RX13 437 "StoneWalkModel" "seed" "I") (List.mem_of_getElem? (i := 11) (by decide +kernel))) rfl rfl (tyX13_ok 16 (by decide)) rfl rfl rfl dX13_restore_264 (fun H locs hP hD hT hS => ?_)
                            refine lv_aload_n hx hb dX13_restore_267 rfl (lv_at hl 10 rfl) ?_
                            refine lv_iload hx hb dX13_restore_268 (lv_at hl 6 rfl) ?_
                            refine r_putI (T := TX13) (ty := .int) (v := ((((x1 / 201) / 3) / 4) - (((x1 / 201) / 3) / 4) / 10 * 10).toInt32) hx hb hts in13 tyX13 tyX13_ok nmX13 hown hK hP hD hT hS k0 (by decide) rfl 17 (by decide) (hts (.fieldLink RX13 17 "StoneWalkModel" "moved" "I") (List.mem_of_getElem? (i := 12) (by decide +kernel))) rfl rfl (tyX13_ok 17 (by decide)) rfl rfl rfl dX13_restore_270 (fun H locs hP hD hT hS => ?_)
                            refine lv_aload_n hx hb dX13_restore_273 rfl (lv_at hl 10 rfl) ?_
                            refine lv_iload hx hb dX13_restore_274 (lv_at hl 7 rfl) ?_
                            refine r_putI (T := TX13) (ty := .int) (v := (((x1 / 201) / 3) - ((x1 / 201) / 3) / 4 * 4).toInt32) hx hb hts in13 tyX13 tyX13_ok nmX13 hown hK hP hD hT hS k0 (by decide) rfl 18 (by decide) (hts (.fieldLink RX13 490 "StoneWalkModel" "movedBy" "I") (List.mem_of_getElem? (i := 13) (by decide +kernel))) rfl rfl (tyX13_ok 18 (by decide)) rfl rfl rfl dX13_restore_276 (fun H locs hP hD hT hS => ?_)
                            refine lv_aload_n hx hb dX13_restore_279 rfl (lv_at hl 10 rfl) ?_
                            refine lv_iload hx hb dX13_restore_280 (lv_at hl 8 rfl) ?_
                            refine r_putI (T := TX13) (ty := .int) (v := ((x1 / 201) - (x1 / 201) / 3 * 3).toInt32) hx hb hts in13 tyX13 tyX13_ok nmX13 hown hK hP hD hT hS k0 (by decide) rfl 19 (by decide) (hts (.fieldLink RX13 493 "StoneWalkModel" "movedOn" "I") (List.mem_of_getElem? (i := 14) (by decide +kernel))) rfl rfl (tyX13_ok 19 (by decide)) rfl rfl rfl dX13_restore_282 (fun H locs hP hD hT hS => ?_)
                            refine lv_aload_n hx hb dX13_restore_285 rfl (lv_at hl 10 rfl) ?_
                            refine lv_iload hx hb dX13_restore_286 (lv_at hl 9 rfl) ?_
                            refine r_putI (T := TX13) (ty := .int) (v := (x1 - x1 / 201 * 201).toInt32) hx hb hts in13 tyX13 tyX13_ok nmX13 hown hK hP hD hT hS k0 (by decide) rfl 20 (by decide) (hts (.fieldLink RX13 496 "StoneWalkModel" "people" "I") (List.mem_of_getElem? (i := 15) (by decide +kernel))) rfl rfl (tyX13_ok 20 (by decide)) rfl rfl rfl dX13_restore_288 (fun H locs hP hD hT hS => ?_)
                            refine lv_aload_n hx hb dX13_restore_291 rfl (lv_at hl 10 rfl) ?_
                            refine lv_iload hx hb dX13_restore_292 (lv_at hl 2 rfl) ?_
                            refine r_putI (T := TX13) (ty := .int) (v := ((((((((x1 / 201) / 3) / 4) / 10) / 4) / 541) / 7) - (((((((x1 / 201) / 3) / 4) / 10) / 4) / 541) / 7) / 6 * 6).toInt32) hx hb hts in13 tyX13 tyX13_ok nmX13 hown hK hP hD hT hS k0 (by decide) rfl 21 (by decide) (hts (.fieldLink RX13 500 "StoneWalkModel" "told" "I") (List.mem_of_getElem? (i := 16) (by decide +kernel))) rfl rfl (tyX13_ok 21 (by decide)) rfl rfl rfl dX13_restore_294 (fun H locs hP hD hT hS => ?_)
                            refine lv_aload_n hx hb dX13_restore_297 rfl (lv_at hl 10 rfl) ?_
                            refine lv_iload hx hb dX13_restore_298 (lv_at hl 3 rfl) ?_
                            refine r_putI (T := TX13) (ty := .int) (v := (((((((x1 / 201) / 3) / 4) / 10) / 4) / 541) - ((((((x1 / 201) / 3) / 4) / 10) / 4) / 541) / 7 * 7).toInt32) hx hb hts in13 tyX13 tyX13_ok nmX13 hown hK hP hD hT hS k0 (by decide) rfl 22 (by decide) (hts (.fieldLink RX13 503 "StoneWalkModel" "slopesGone" "I") (List.mem_of_getElem? (i := 17) (by decide +kernel))) rfl rfl (tyX13_ok 22 (by decide)) rfl rfl rfl dX13_restore_300 (fun H locs hP hD hT hS => ?_)
                            refine lv_aload_n hx hb dX13_restore_303 rfl (lv_at hl 10 rfl) ?_
                            refine lv_iload hx hb dX13_restore_304 (lv_at hl 4 rfl) ?_
                            refine r_putI (T := TX13) (ty := .int) (v := ((((((x1 / 201) / 3) / 4) / 10) / 4) - (((((x1 / 201) / 3) / 4) / 10) / 4) / 541 * 541).toInt32) hx hb hts in13 tyX13 tyX13_ok nmX13 hown hK hP hD hT hS k0 (by decide) rfl 23 (by decide) (hts (.fieldLink RX13 506 "StoneWalkModel" "minutesGone" "I") (List.mem_of_getElem? (i := 18) (by decide +kernel))) rfl rfl (tyX13_ok 23 (by decide)) rfl rfl rfl dX13_restore_306 (fun H locs hP hD hT hS => ?_)
                            refine lv_aload_n hx hb dX13_restore_309 rfl (lv_at hl 10 rfl) ?_
                            refine lv_iload hx hb dX13_restore_310 (lv_at hl 5 rfl) ?_
                            refine lv_iconst (v := 3) hx hb dX13_restore_312 rfl ?_
                            refine lv_icmp_ne (tgt := 321) hx hb dX13_restore_313 rfl (fun c50 => ?_) (fun c50 => ?_)
                            · replace h := ite_f c50 h
                              refine lv_iload hx hb dX13_restore_321 (lv_at hl 5 rfl) ?_
                              refine r_putI (T := TX13) (ty := .int) (v := (((((x1 / 201) / 3) / 4) / 10) - ((((x1 / 201) / 3) / 4) / 10) / 4 * 4).toInt32) hx hb hts in13 tyX13 tyX13_ok nmX13 hown hK hP hD hT hS k0 (by decide) rfl 24 (by decide) (hts (.fieldLink RX13 509 "StoneWalkModel" "liesNow" "I") (List.mem_of_getElem? (i := 19) (by decide +kernel))) rfl rfl (tyX13_ok 24 (by decide)) rfl rfl rfl dX13_restore_323 (fun H locs hP hD hT hS => ?_)
                              refine lv_aload_n hx hb dX13_restore_326 rfl (lv_at hl 10 rfl) ?_
                              obtain ⟨z51, h51, h⟩ := ob_some h
                              refine k_z (va_runV (As := []) (rest := []) ⟨hx, hb, hml, hown, hts⟩ (c_X13_granted (l := l) (pI (pI (pI (pI (pI (pI (pI (pI (pI (pI M a0 0 0) a0 16 (((((((((x1 / 201) / 3) / 4) / 10) / 4) / 541) / 7) / 6).toInt32)) a0 17 (((((x1 / 201) / 3) / 4) - (((x1 / 201) / 3) / 4) / 10 * 10).toInt32)) a0 18 ((((x1 / 201) / 3) - ((x1 / 201) / 3) / 4 * 4).toInt32)) a0 19 (((x1 / 201) - (x1 / 201) / 3 * 3).toInt32)) a0 20 ((x1 - x1 / 201 * 201).toInt32)) a0 21 (((((((((x1 / 201) / 3) / 4) / 10) / 4) / 541) / 7) - (((((((x1 / 201) / 3) / 4) / 10) / 4) / 541) / 7) / 6 * 6).toInt32)) a0 22 ((((((((x1 / 201) / 3) / 4) / 10) / 4) / 541) - ((((((x1 / 201) / 3) / 4) / 10) / 4) / 541) / 7 * 7).toInt32)) a0 23 (((((((x1 / 201) / 3) / 4) / 10) / 4) - (((((x1 / 201) / 3) / 4) / 10) / 4) / 541 * 541).toInt32)) a0 24 ((((((x1 / 201) / 3) / 4) / 10) - ((((x1 / 201) / 3) / 4) / 10) / 4 * 4).toInt32)) a0 k0 h51) (cwV 0 hts gX13_restore_X13_granted rfl rfl rfl hdV_X13_granted ⟨Nat.le_of_ble_eq_true rfl, Nat.le_of_ble_eq_true rfl⟩) (pV (T := TX13) hP hK hD hT hG hS k0 (by decide) rfl) rfl rfl hl.1 rfl (lv_room (Nat.le_of_ble_eq_true rfl)) dX13_restore_327 ⟨Nat.zero_le _, Nat.zero_le _⟩) hS (fun H locs hz51 hP hD hT hS => ?_)
                              have hZ := Option.some.inj h
                              exact r_zret hx hb hr hlocks hP hK hD hT hG hS hz51 (congrArg Prod.fst hZ) (congrArg Prod.snd hZ) dX13_restore_330
                            · replace h := ite_t c50 h
                              refine lv_bipush (v := (-2)) hx hb dX13_restore_316 rfl ?_
                              refine lv_goto (tgt := 323) hx hb dX13_restore_318 rfl ?_
                              refine r_putI (T := TX13) (ty := .int) (v := (-2)) hx hb hts in13 tyX13 tyX13_ok nmX13 hown hK hP hD hT hS k0 (by decide) rfl 24 (by decide) (hts (.fieldLink RX13 509 "StoneWalkModel" "liesNow" "I") (List.mem_of_getElem? (i := 19) (by decide +kernel))) rfl rfl (tyX13_ok 24 (by decide)) rfl rfl rfl dX13_restore_323 (fun H locs hP hD hT hS => ?_)
                              refine lv_aload_n hx hb dX13_restore_326 rfl (lv_at hl 10 rfl) ?_
                              obtain ⟨z52, h52, h⟩ := ob_some h
                              refine k_z (va_runV (As := []) (rest := []) ⟨hx, hb, hml, hown, hts⟩ (c_X13_granted (l := l) (pI (pI (pI (pI (pI (pI (pI (pI (pI (pI M a0 0 0) a0 16 (((((((((x1 / 201) / 3) / 4) / 10) / 4) / 541) / 7) / 6).toInt32)) a0 17 (((((x1 / 201) / 3) / 4) - (((x1 / 201) / 3) / 4) / 10 * 10).toInt32)) a0 18 ((((x1 / 201) / 3) - ((x1 / 201) / 3) / 4 * 4).toInt32)) a0 19 (((x1 / 201) - (x1 / 201) / 3 * 3).toInt32)) a0 20 ((x1 - x1 / 201 * 201).toInt32)) a0 21 (((((((((x1 / 201) / 3) / 4) / 10) / 4) / 541) / 7) - (((((((x1 / 201) / 3) / 4) / 10) / 4) / 541) / 7) / 6 * 6).toInt32)) a0 22 ((((((((x1 / 201) / 3) / 4) / 10) / 4) / 541) - ((((((x1 / 201) / 3) / 4) / 10) / 4) / 541) / 7 * 7).toInt32)) a0 23 (((((((x1 / 201) / 3) / 4) / 10) / 4) - (((((x1 / 201) / 3) / 4) / 10) / 4) / 541 * 541).toInt32)) a0 24 (-2)) a0 k0 h52) (cwV 0 hts gX13_restore_X13_granted rfl rfl rfl hdV_X13_granted ⟨Nat.le_of_ble_eq_true rfl, Nat.le_of_ble_eq_true rfl⟩) (pV (T := TX13) hP hK hD hT hG hS k0 (by decide) rfl) rfl rfl hl.1 rfl (lv_room (Nat.le_of_ble_eq_true rfl)) dX13_restore_327 ⟨Nat.zero_le _, Nat.zero_le _⟩) hS (fun H locs hz52 hP hD hT hS => ?_)
                              have hZ := Option.some.inj h
                              exact r_zret hx hb hr hlocks hP hK hD hT hG hS hz52 (congrArg Prod.fst hZ) (congrArg Prod.snd hZ) dX13_restore_330
                          · replace h := ite_f c49 h
                            refine lv_goto (tgt := 255) hx hb dX13_restore_245 rfl ?_
                            refine lv_aload_n hx hb dX13_restore_255 rfl (lv_at hl 10 rfl) ?_
                            refine lv_iconst (v := 2) hx hb dX13_restore_256 rfl ?_
                            obtain ⟨z53, h53, h⟩ := ob_some h
                            refine k_z (va_runV (As := [.int 2]) (rest := []) ⟨hx, hb, hml, hown, hts⟩ (c_X13_denied (l := l) (pI M a0 0 0) a0 2 k0 h53) (cwV 1 hts gX13_restore_X13_denied rfl rfl rfl hdV_X13_denied ⟨Nat.le_of_ble_eq_true rfl, Nat.le_of_ble_eq_true rfl⟩) (pV (T := TX13) hP hK hD hT hG hS k0 (by decide) rfl) rfl rfl hl.1 rfl (lv_room (Nat.le_of_ble_eq_true rfl)) dX13_restore_257 ⟨Nat.zero_le _, Nat.zero_le _⟩) hS (fun H locs hz53 hP hD hT hS => ?_)
                            have hZ := Option.some.inj h
                            exact r_zret hx hb hr hlocks hP hK hD hT hG hS hz53 (congrArg Prod.fst hZ) (congrArg Prod.snd hZ) dX13_restore_260
                    · replace h := ite_t c38 h
                      refine lv_iconst (v := 1) hx hb dX13_restore_206 rfl ?_
                      refine lv_goto (tgt := 211) hx hb dX13_restore_207 rfl ?_
                      refine lv_icmp_ne (tgt := 220) hx hb dX13_restore_211 rfl (fun c54 => absurd c54 (by decide)) (fun _ => ?_)
                      refine lv_aload_n hx hb dX13_restore_214 rfl (lv_at hl 9 rfl) ?_
                      refine lv_iconst (v := 2) hx hb dX13_restore_215 rfl ?_
                      obtain ⟨z55, h55, h⟩ := ob_some h
                      refine k_z (va_runV (As := [.int 2]) (rest := []) ⟨hx, hb, hml, hown, hts⟩ (c_X13_denied (l := l) (pI M a0 0 0) a0 2 k0 h55) (cwV 1 hts gX13_restore_X13_denied rfl rfl rfl hdV_X13_denied ⟨Nat.le_of_ble_eq_true rfl, Nat.le_of_ble_eq_true rfl⟩) (pV (T := TX13) hP hK hD hT hG hS k0 (by decide) rfl) rfl rfl hl.1 rfl (lv_room (Nat.le_of_ble_eq_true rfl)) dX13_restore_216 ⟨Nat.zero_le _, Nat.zero_le _⟩) hS (fun H locs hz55 hP hD hT hS => ?_)
                      have hZ := Option.some.inj h
                      exact r_zret hx hb hr hlocks hP hK hD hT hG hS hz55 (congrArg Prod.fst hZ) (congrArg Prod.snd hZ) dX13_restore_219
    · replace h := ite_f c3 h
      refine lv_aload_n hx hb dX13_restore_24 rfl (lv_at hl 0 rfl) ?_
      refine lv_iconst (v := 2) hx hb dX13_restore_25 rfl ?_
      obtain ⟨z56, h56, h⟩ := ob_some h
      refine k_z (va_runV (As := [.int 2]) (rest := []) ⟨hx, hb, hml, hown, hts⟩ (c_X13_denied (l := l) (pI M a0 0 0) a0 2 k0 h56) (cwV 1 hts gX13_restore_X13_denied rfl rfl rfl hdV_X13_denied ⟨Nat.le_of_ble_eq_true rfl, Nat.le_of_ble_eq_true rfl⟩) (pV (T := TX13) hP hK hD hT hG hS k0 (by decide) rfl) rfl rfl hl.1 rfl (lv_room (Nat.le_of_ble_eq_true rfl)) dX13_restore_26 ⟨Nat.zero_le _, Nat.zero_le _⟩) hS (fun H locs hz56 hP hD hT hS => ?_)
      have hZ := Option.some.inj h
      exact r_zret hx hb hr hlocks hP hK hD hT hG hS hz56 (congrArg Prod.fst hZ) (congrArg Prod.snd hZ) dX13_restore_29
set_option maxHeartbeats 4000000 in
set_option maxRecDepth 100000 in
theorem c_X13_meanLean {l : Launch} {D : va_G} {ad : Nat → Nat} {cy : Nat → ClassId} {A : Nat → Prop} {g : CG} {q : SE} (M : MM) (a0 : Nat) (x1 : Int32) (x2 : Int32) (k0 : ok g a0 13 0) {Z : Int32} (h : f_X13_meanLean M a0 x1 x2 = some Z) : Met l yX13_meanLean wsX13_meanLean ({ frames := 0, cells := 0, slots := 0, locals := 0 }) (va_Pc [.ref (ad a0), .int x1, .int x2] (Wd D ad cy A g q M)) (va_Qi (fun r u => r = Z ∧ u = M) (Wd D ad cy A g q) A) 0 0 A := by
  refine Met.ofW (cc := cX13_meanLean) (maxL := 6) (ret := (some .int)) (by decide) rfl ?_
  intro p e s m args below meth c s₁ B hml hv
  obtain ⟨rfl, hP, hK, hD, hT, hG⟩ := hv
  have hx := B.exec
  have hb := B.bytes
  have hr := B.returns
  have hts := atoms_spec (ws := wsX13_meanLean) B.pre
  have hown : s.vm.findClass RX13 = some m.cls := findClass_of_methodNamed B.named
  have hlocks := B.notSynchronized
  have in12 : ∀ w ∈ u_ws RX12 TX12 48, w ∈ wsX13_meanLean := fun w h => List.mem_cons_of_mem _ (List.mem_append_right _ h)
  have in13 : ∀ w ∈ u_ws RX13 TX13 29, w ∈ wsX13_meanLean := fun w h => List.mem_cons_of_mem _ (List.mem_append_left _ (List.mem_append_right _ h))
  have hS : va_S A s.heap s.heap [] := va_S.rf
  have hl := lv_entry ([.ref (ad a0), .int x1, .int x2]) (n := 6) (Nat.le_of_ble_eq_true rfl)
  rw [lg_entry_eq]
  generalize (lg_sl ([.ref (ad a0), .int x1, .int x2]) ++ List.replicate (6 - (lg_sl ([.ref (ad a0), .int x1, .int x2])).length) Slot.unset).toArray = ls at hl ⊢
  have hl : lv_has ls 6 [(0, .ref (ad a0)), (1, .int x1), (2, .int x2)] := hl
  unfold f_X13_meanLean at h
  refine lv_iconst (v := 0) hx hb dX13_meanLean_0 rfl ?_
  refine lv_istore_n (lv' := [(3, .int 0), (0, .ref (ad a0)), (1, .int x1), (2, .int x2)]) hx hb dX13_meanLean_1 rfl hl (by decide) rfl (fun ls hl => ?_)
  refine lv_iconst (v := 0) hx hb dX13_meanLean_2 rfl ?_
  refine lv_istore (lv' := [(4, .int 0), (3, .int 0), (0, .ref (ad a0)), (1, .int x1), (2, .int x2)]) hx hb dX13_meanLean_3 hl (by decide) rfl (fun ls hl => ?_)
  refine lv_iconst (v := 0) hx hb dX13_meanLean_5 rfl ?_
  refine lv_istore (lv' := [(5, .int 0), (4, .int 0), (3, .int 0), (0, .ref (ad a0)), (1, .int x1), (2, .int x2)]) hx hb dX13_meanLean_6 hl (by decide) rfl (fun ls hl => ?_)
  have L1 : ∀ n1 : Nat, ∀ (y1_0 : Nat) (y1_1 : Int32) (y1_2 : Int32) (y1_3 : Int32) (y1_4 : Int32) (y1_5 : Int32) (ky1_0 : ok g y1_0 13 0) (H : Heap) (locs : List Loc), f_X13_meanLean_L8 n1 M y1_0 y1_1 y1_2 y1_3 y1_4 y1_5 = some Z → va_P D vwCl (wd ad cy g M) H → va_D A (wd ad cy g M) → WT g M → va_S A s.heap H locs → ∀ (ls : Array Slot), lv_has ls 6 [(0, .ref (ad y1_0)), (1, .int y1_1), (2, .int y1_2), (3, .int y1_3), (4, .int y1_4), (5, .int y1_5)] → W p l e ((headSpec wsX13_meanLean ({ frames := 0, cells := 0, slots := 0, locals := 0 })).room) s m (([.ref (ad a0), .int x1, .int x2] : List Value).toArray) below meth c H locs 0 0 (MQ below (va_Qi (fun r u => r = Z ∧ u = M) (Wd D ad cy A g q) A) ([.ref (ad a0), .int x1, .int x2]).toArray s 0 0 A) (F0 m 8 ls []) := by
    intro n1
    induction n1 with
    | zero => intro y1_0 y1_1 y1_2 y1_3 y1_4 y1_5 ky1_0 H locs h; exact absurd h (by simp [f_X13_meanLean_L8])
    | succ n1 ih1 =>
      intro y1_0 y1_1 y1_2 y1_3 y1_4 y1_5 ky1_0 H locs h hP hD hT hS ls hl
      rw [f_X13_meanLean_L8] at h
      refine lv_iload hx hb dX13_meanLean_8 (lv_at hl 5 rfl) ?_
      refine lv_aload_n hx hb dX13_meanLean_10 rfl (lv_at hl 0 rfl) ?_
      rcases hN2 : gR M y1_0 3 with _ | b2
      · replace h := oc_n hN2 h
        refine r_get (T := TX13) (v := .null) hx hb hts in13 hown hK hP ky1_0 (by decide) rfl 3 (by decide) (hts (.fieldLink RX13 431 "StoneWalkModel" "island" "LStoneWalkModel$Island;") (List.mem_of_getElem? (i := 1) (by decide +kernel))) rfl (t := 2) rfl (by show va_rf _ = _; rw [hN2]; rfl) dX13_meanLean_11 ?_
        exact absurd h (by simp)
      · replace h := oc_s hN2 h
        have kb2 := hT.f ky1_0 (k := 3) (t := 12) (n := 0) rfl hN2
        refine r_get (T := TX13) (v := .ref (ad b2)) hx hb hts in13 hown hK hP ky1_0 (by decide) rfl 3 (by decide) (hts (.fieldLink RX13 431 "StoneWalkModel" "island" "LStoneWalkModel$Island;") (List.mem_of_getElem? (i := 1) (by decide +kernel))) rfl (t := 2) rfl (by show va_rf _ = _; rw [hN2]; rfl) dX13_meanLean_11 ?_
        refine r_getN (T := TX12) (v := .int (gI M b2 2)) hx hb hts in12 hown hK hP kb2 (by decide) rfl 2 (by decide) (hG.2.2.1 _ (List.mem_of_getElem? (i := 7) rfl)) rfl (t := 0) rfl rfl dX13_meanLean_14 ?_
        refine lv_icmp_ge (tgt := 65) hx hb dX13_meanLean_17 rfl (fun c3 => ?_) (fun c3 => ?_)
        · replace h := ite_t c3 h
          refine lv_iload hx hb dX13_meanLean_65 (lv_at hl 4 rfl) ?_
          refine lv_if_ne (tgt := 74) hx hb dX13_meanLean_67 rfl (fun c4 => ?_) (fun c4 => ?_)
          · replace h := ite_f c4 h
            refine lv_iload_n hx hb dX13_meanLean_74 rfl (lv_at hl 3 rfl) ?_
            refine lv_iload hx hb dX13_meanLean_75 (lv_at hl 4 rfl) ?_
            obtain ⟨hn5, h⟩ := chk_some h
            refine lv_idiv hx hb dX13_meanLean_77 hn5 ?_
            exact r_iret hx hb hr hlocks hP hK hD hT hG hS (Option.some.inj h) rfl dX13_meanLean_78
          · replace h := ite_t c4 h
            refine lv_iconst (v := (-1)) hx hb dX13_meanLean_70 rfl ?_
            refine lv_goto (tgt := 78) hx hb dX13_meanLean_71 rfl ?_
            exact r_iret hx hb hr hlocks hP hK hD hT hG hS (Option.some.inj h) rfl dX13_meanLean_78
        · replace h := ite_f c3 h
          refine lv_aload_n hx hb dX13_meanLean_20 rfl (lv_at hl 0 rfl) ?_
          rcases hN6 : gR M y1_0 3 with _ | b6
          · replace h := oc_n hN6 h
            refine r_get (T := TX13) (v := .null) hx hb hts in13 hown hK hP ky1_0 (by decide) rfl 3 (by decide) (hts (.fieldLink RX13 431 "StoneWalkModel" "island" "LStoneWalkModel$Island;") (List.mem_of_getElem? (i := 1) (by decide +kernel))) rfl (t := 2) rfl (by show va_rf _ = _; rw [hN6]; rfl) dX13_meanLean_21 ?_
            exact absurd h (by simp)
          · replace h := oc_s hN6 h
            have kb6 := hT.f ky1_0 (k := 3) (t := 12) (n := 0) rfl hN6
            refine r_get (T := TX13) (v := .ref (ad b6)) hx hb hts in13 hown hK hP ky1_0 (by decide) rfl 3 (by decide) (hts (.fieldLink RX13 431 "StoneWalkModel" "island" "LStoneWalkModel$Island;") (List.mem_of_getElem? (i := 1) (by decide +kernel))) rfl (t := 2) rfl (by show va_rf _ = _; rw [hN6]; rfl) dX13_meanLean_21 ?_
            rcases hN7 : gR M b6 18 with _ | b7
            · exact absurd (oc_n hN7 h) (by simp)
            replace h := oc_s hN7 h
            have kb7 := hT.f kb6 (k := 18) (t := 15) (n := 10) rfl hN7
            refine r_getN (T := TX12) (v := .ref (ad b7)) hx hb hts in12 hown hK hP kb6 (by decide) rfl 18 (by decide) (hG.2.2.1 _ (List.mem_of_getElem? (i := 18) rfl)) rfl (t := 2) rfl (by show va_rf _ = _; rw [hN7]; rfl) dX13_meanLean_24 ?_
            refine lv_iload hx hb dX13_meanLean_27 (lv_at hl 5 rfl) ?_
            obtain ⟨hn8, h⟩ := chk_some h
            refine r_iald hx hb hK hP kb7 hn8 dX13_meanLean_29 ?_
            refine lv_iload_n hx hb dX13_meanLean_30 rfl (lv_at hl 1 rfl) ?_
            refine lv_icmp_ne (tgt := 59) hx hb dX13_meanLean_31 rfl (fun c9 => ?_) (fun c9 => ?_)
            · replace h := ite_f c9 h
              refine lv_iinc (v := y1_5 + 1) (lv' := [(5, .int (y1_5 + 1)), (0, .ref (ad y1_0)), (1, .int y1_1), (2, .int y1_2), (3, .int y1_3), (4, .int y1_4)]) hx hb dX13_meanLean_59 hl (k := 5) rfl rfl (by decide) rfl (fun ls hl => ?_)
              refine lv_goto (tgt := 8) hx hb dX13_meanLean_62 rfl ?_
              exact ih1 y1_0 y1_1 y1_2 y1_3 y1_4 (y1_5 + 1) ky1_0 _ _ h hP hD hT hS ls (lv_sub hl [1, 2, 3, 4, 5, 0] rfl)
            · replace h := ite_t c9 h
              refine lv_iload hx hb dX13_meanLean_34 (lv_at hl 5 rfl) ?_
              refine lv_iload_n hx hb dX13_meanLean_36 rfl (lv_at hl 2 rfl) ?_
              refine lv_icmp_ne (tgt := 43) hx hb dX13_meanLean_37 rfl (fun c10 => ?_) (fun c10 => ?_)
              · replace h := ite_f c10 h
                refine lv_iload_n hx hb dX13_meanLean_43 rfl (lv_at hl 3 rfl) ?_
                refine lv_aload_n hx hb dX13_meanLean_44 rfl (lv_at hl 0 rfl) ?_
                rcases hN11 : gR M y1_0 3 with _ | b11
                · replace h := oc_n hN11 h
                  refine r_get (T := TX13) (v := .null) hx hb hts in13 hown hK hP ky1_0 (by decide) rfl 3 (by decide) (hts (.fieldLink RX13 431 "StoneWalkModel" "island" "LStoneWalkModel$Island;") (List.mem_of_getElem? (i := 1) (by decide +kernel))) rfl (t := 2) rfl (by show va_rf _ = _; rw [hN11]; rfl) dX13_meanLean_45 ?_
                  exact absurd h (by simp)
                · replace h := oc_s hN11 h
                  have kb11 := hT.f ky1_0 (k := 3) (t := 12) (n := 0) rfl hN11
                  refine r_get (T := TX13) (v := .ref (ad b11)) hx hb hts in13 hown hK hP ky1_0 (by decide) rfl 3 (by decide) (hts (.fieldLink RX13 431 "StoneWalkModel" "island" "LStoneWalkModel$Island;") (List.mem_of_getElem? (i := 1) (by decide +kernel))) rfl (t := 2) rfl (by show va_rf _ = _; rw [hN11]; rfl) dX13_meanLean_45 ?_
                  rcases hN12 : gR M b11 16 with _ | b12
                  · exact absurd (oc_n hN12 h) (by simp)
                  replace h := oc_s hN12 h
                  have kb12 := hT.f kb11 (k := 16) (t := 15) (n := 10) rfl hN12
                  refine r_getN (T := TX12) (v := .ref (ad b12)) hx hb hts in12 hown hK hP kb11 (by decide) rfl 16 (by decide) (hG.2.2.1 _ (List.mem_of_getElem? (i := 16) rfl)) rfl (t := 2) rfl (by show va_rf _ = _; rw [hN12]; rfl) dX13_meanLean_48 ?_
                  refine lv_iload hx hb dX13_meanLean_51 (lv_at hl 5 rfl) ?_
                  obtain ⟨hn13, h⟩ := chk_some h
                  refine r_iald hx hb hK hP kb12 hn13 dX13_meanLean_53 ?_
                  refine lv_iadd hx hb dX13_meanLean_54 ?_
                  refine lv_istore_n (lv' := [(3, .int (y1_3 + (gI M b12 (ix y1_5)))), (0, .ref (ad y1_0)), (1, .int y1_1), (2, .int y1_2), (4, .int y1_4), (5, .int y1_5)]) hx hb dX13_meanLean_55 rfl hl (by decide) rfl (fun ls hl => ?_)
                  refine lv_iinc (v := y1_4 + 1) (lv' := [(4, .int (y1_4 + 1)), (3, .int (y1_3 + (gI M b12 (ix y1_5)))), (0, .ref (ad y1_0)), (1, .int y1_1), (2, .int y1_2), (5, .int y1_5)]) hx hb dX13_meanLean_56 hl (k := 4) rfl rfl (by decide) rfl (fun ls hl => ?_)
                  refine lv_iinc (v := y1_5 + 1) (lv' := [(5, .int (y1_5 + 1)), (4, .int (y1_4 + 1)), (3, .int (y1_3 + (gI M b12 (ix y1_5)))), (0, .ref (ad y1_0)), (1, .int y1_1), (2, .int y1_2)]) hx hb dX13_meanLean_59 hl (k := 5) rfl rfl (by decide) rfl (fun ls hl => ?_)
                  refine lv_goto (tgt := 8) hx hb dX13_meanLean_62 rfl ?_
                  exact ih1 y1_0 y1_1 y1_2 (y1_3 + (gI M b12 (ix y1_5))) (y1_4 + 1) (y1_5 + 1) ky1_0 _ _ h hP hD hT hS ls (lv_sub hl [3, 4, 5, 2, 1, 0] rfl)
              · replace h := ite_t c10 h
                refine lv_goto (tgt := 59) hx hb dX13_meanLean_40 rfl ?_
                refine lv_iinc (v := y1_5 + 1) (lv' := [(5, .int (y1_5 + 1)), (0, .ref (ad y1_0)), (1, .int y1_1), (2, .int y1_2), (3, .int y1_3), (4, .int y1_4)]) hx hb dX13_meanLean_59 hl (k := 5) rfl rfl (by decide) rfl (fun ls hl => ?_)
                refine lv_goto (tgt := 8) hx hb dX13_meanLean_62 rfl ?_
                exact ih1 y1_0 y1_1 y1_2 y1_3 y1_4 (y1_5 + 1) ky1_0 _ _ h hP hD hT hS ls (lv_sub hl [1, 2, 3, 4, 5, 0] rfl)
  exact L1 FU a0 x1 x2 0 0 0 k0 _ _ h hP hD hT hS ls (lv_sub hl [3, 4, 5, 2, 1, 0] rfl)
set_option maxHeartbeats 4000000 in
set_option maxRecDepth 100000 in
theorem c_X13_shapeOf {l : Launch} {D : va_G} {ad : Nat → Nat} {cy : Nat → ClassId} {A : Nat → Prop} {g : CG} {q : SE} (M : MM) (a0 : Nat) (x1 : Int32) (x2 : Int32) (k0 : ok g a0 13 0) {Z : Int32} (h : f_X13_shapeOf M a0 x1 x2 = some Z) : Met l yX13_shapeOf wsX13_shapeOf ({ frames := 1, cells := 0, slots := 0, locals := 25 }) (va_Pc [.ref (ad a0), .int x1, .int x2] (Wd D ad cy A g q M)) (va_Qi (fun r u => r = Z ∧ u = M) (Wd D ad cy A g q) A) 0 0 A := by
  refine Met.ofW (cc := cX13_shapeOf) (maxL := 6) (ret := (some .int)) (by decide) rfl ?_
  intro p e s m args below meth c s₁ B hml hv
  obtain ⟨rfl, hP, hK, hD, hT, hG⟩ := hv
  have hx := B.exec
  have hb := B.bytes
  have hr := B.returns
  have hts := atoms_spec (ws := wsX13_shapeOf) B.pre
  have hown : s.vm.findClass RX13 = some m.cls := findClass_of_methodNamed B.named
  have hlocks := B.notSynchronized
  have in12 : ∀ w ∈ u_ws RX12 TX12 48, w ∈ wsX13_shapeOf := fun w h => List.mem_cons_of_mem _ (List.mem_append_right _ h)
  have in13 : ∀ w ∈ u_ws RX13 TX13 29, w ∈ wsX13_shapeOf := fun w h => List.mem_cons_of_mem _ (List.mem_append_left _ (List.mem_append_right _ h))
  have hS : va_S A s.heap s.heap [] := va_S.rf
  have hl := lv_entry ([.ref (ad a0), .int x1, .int x2]) (n := 6) (Nat.le_of_ble_eq_true rfl)
  rw [lg_entry_eq]
  generalize (lg_sl ([.ref (ad a0), .int x1, .int x2]) ++ List.replicate (6 - (lg_sl ([.ref (ad a0), .int x1, .int x2])).length) Slot.unset).toArray = ls at hl ⊢
  have hl : lv_has ls 6 [(0, .ref (ad a0)), (1, .int x1), (2, .int x2)] := hl
  unfold f_X13_shapeOf at h
  refine lv_aload_n hx hb dX13_shapeOf_0 rfl (lv_at hl 0 rfl) ?_
  refine lv_iconst (v := 5) hx hb dX13_shapeOf_1 rfl ?_
  refine lv_iload_n hx hb dX13_shapeOf_2 rfl (lv_at hl 2 rfl) ?_
  obtain ⟨z1, h1, h⟩ := ob_some h
  refine k_i (va_runV (As := [.int 5, .int x2]) (rest := []) ⟨hx, hb, hml, hown, hts⟩ (c_X13_meanLean (l := l) M a0 5 x2 k0 h1) (cwV 2 hts gX13_shapeOf_X13_meanLean rfl rfl rfl hdV_X13_meanLean ⟨Nat.le_of_ble_eq_true rfl, Nat.le_of_ble_eq_true rfl⟩) (pV (T := TX13) hP hK hD hT hG hS k0 (by decide) rfl) rfl rfl hl.1 rfl (lv_room (Nat.le_of_ble_eq_true rfl)) dX13_shapeOf_3 ⟨Nat.zero_le _, Nat.zero_le _⟩) hS (fun H locs hP hD hT hS => ?_)
  refine lv_istore_n (lv' := [(3, .int z1), (0, .ref (ad a0)), (1, .int x1), (2, .int x2)]) hx hb dX13_shapeOf_6 rfl hl (by decide) rfl (fun ls hl => ?_)
  refine lv_aload_n hx hb dX13_shapeOf_7 rfl (lv_at hl 1 rfl) ?_
  refine lv_iconst (v := 3) hx hb dX13_shapeOf_8 rfl ?_
  refine lv_iload_n hx hb dX13_shapeOf_9 rfl (lv_at hl 3 rfl) ?_
  obtain ⟨z2, h2, h⟩ := ob_some h
  refine k_i (va_runV (As := [.int 3, .int x2]) (rest := []) ⟨hx, hb, hml, hown, hts⟩ (c_X13_meanLean (l := l) M a0 3 x2 k0 h2) (cwV 2 hts gX13_shapeOf_X13_meanLean rfl rfl rfl hdV_X13_meanLean ⟨Nat.le_of_ble_eq_true rfl, Nat.le_of_ble_eq_true rfl⟩) (pV (T := TX13) hP hK hD hT hG hS k0 (by decide) rfl) rfl rfl hl.1 rfl (lv_room (Nat.le_of_ble_eq_true rfl)) dX13_shapeOf_10 ⟨Nat.zero_le _, Nat.zero_le _⟩) hS (fun H locs hP hD hT hS => ?_)
  refine lv_istore (lv' := [(4, .int z2), (3, .int z1), (0, .ref (ad a0)), (1, .int x1), (2, .int x2)]) hx hb dX13_shapeOf_13 hl (by decide) rfl (fun ls hl => ?_)
  refine lv_iload_n hx hb dX13_shapeOf_15 rfl (lv_at hl 1 rfl) ?_
  refine lv_if_lt (tgt := 24) hx hb dX13_shapeOf_16 rfl (fun c3 => ?_) (fun c3 => ?_)
  · replace h := ite_t c3 h
    refine lv_iconst (v := 1) hx hb dX13_shapeOf_24 rfl ?_
    exact r_iret hx hb hr hlocks hP hK hD hT hG hS (Option.some.inj h) rfl dX13_shapeOf_25
  · replace h := ite_f c3 h
    refine lv_iload hx hb dX13_shapeOf_19 (lv_at hl 0 rfl) ?_
    refine lv_if_ge (tgt := 26) hx hb dX13_shapeOf_21 rfl (fun c4 => ?_) (fun c4 => ?_)
    · replace h := ite_t c4 h
      refine lv_aload_n hx hb dX13_shapeOf_26 rfl (lv_at hl 2 rfl) ?_
      rcases hN5 : gR M a0 3 with _ | b5
      · replace h := oc_n hN5 h
        refine r_get (T := TX13) (v := .null) hx hb hts in13 hown hK hP k0 (by decide) rfl 3 (by decide) (hts (.fieldLink RX13 431 "StoneWalkModel" "island" "LStoneWalkModel$Island;") (List.mem_of_getElem? (i := 1) (by decide +kernel))) rfl (t := 2) rfl (by show va_rf _ = _; rw [hN5]; rfl) dX13_shapeOf_27 ?_
        exact absurd h (by simp)
      · replace h := oc_s hN5 h
        have kb5 := hT.f k0 (k := 3) (t := 12) (n := 0) rfl hN5
        refine r_get (T := TX13) (v := .ref (ad b5)) hx hb hts in13 hown hK hP k0 (by decide) rfl 3 (by decide) (hts (.fieldLink RX13 431 "StoneWalkModel" "island" "LStoneWalkModel$Island;") (List.mem_of_getElem? (i := 1) (by decide +kernel))) rfl (t := 2) rfl (by show va_rf _ = _; rw [hN5]; rfl) dX13_shapeOf_27 ?_
        rcases hN6 : gR M b5 9 with _ | b6
        · exact absurd (oc_n hN6 h) (by simp)
        replace h := oc_s hN6 h
        have kb6 := hT.f kb5 (k := 9) (t := 15) (n := 4) rfl hN6
        refine r_getN (T := TX12) (v := .ref (ad b6)) hx hb hts in12 hown hK hP kb5 (by decide) rfl 9 (by decide) (hG.2.2.1 _ (List.mem_of_getElem? (i := 8) rfl)) rfl (t := 2) rfl (by show va_rf _ = _; rw [hN6]; rfl) dX13_shapeOf_30 ?_
        refine lv_iload_n hx hb dX13_shapeOf_33 rfl (lv_at hl 3 rfl) ?_
        obtain ⟨hn7, h⟩ := chk_some h
        refine r_iald hx hb hK hP kb6 hn7 dX13_shapeOf_34 ?_
        refine lv_if_ne (tgt := 42) hx hb dX13_shapeOf_35 rfl (fun c8 => ?_) (fun c8 => ?_)
        · replace h := ite_f c8 h
          refine lv_iconst (v := 0) hx hb dX13_shapeOf_42 rfl ?_
          refine lv_istore (lv' := [(5, .int 0), (4, .int z2), (3, .int z1), (0, .ref (ad a0)), (1, .int x1), (2, .int x2)]) hx hb dX13_shapeOf_43 hl (by decide) rfl (fun ls hl => ?_)
          refine lv_iload_n hx hb dX13_shapeOf_45 rfl (lv_at hl 2 rfl) ?_
          refine lv_iload hx hb dX13_shapeOf_46 (lv_at hl 1 rfl) ?_
          refine lv_isub hx hb dX13_shapeOf_48 ?_
          refine lv_iconst (v := 5) hx hb dX13_shapeOf_49 rfl ?_
          refine lv_icmp_lt (tgt := 67) hx hb dX13_shapeOf_50 rfl (fun c9 => ?_) (fun c9 => ?_)
          · replace h := ite_t c9 h
            refine lv_iload hx hb dX13_shapeOf_67 (lv_at hl 0 rfl) ?_
            refine lv_if_eq (tgt := 76) hx hb dX13_shapeOf_69 rfl (fun _ => ?_) (fun c10 => absurd c10 (by decide))
            refine lv_bipush (v := 6) hx hb dX13_shapeOf_76 rfl ?_
            exact r_iret hx hb hr hlocks hP hK hD hT hG hS (Option.some.inj h) rfl dX13_shapeOf_78
          · replace h := ite_f c9 h
            refine lv_iload hx hb dX13_shapeOf_53 (lv_at hl 0 rfl) ?_
            refine lv_if_eq (tgt := 63) hx hb dX13_shapeOf_55 rfl (fun _ => ?_) (fun c11 => absurd c11 (by decide))
            refine lv_iconst (v := 3) hx hb dX13_shapeOf_63 rfl ?_
            refine lv_goto (tgt := 78) hx hb dX13_shapeOf_64 rfl ?_
            exact r_iret hx hb hr hlocks hP hK hD hT hG hS (Option.some.inj h) rfl dX13_shapeOf_78
        · replace h := ite_t c8 h
          refine lv_iconst (v := 1) hx hb dX13_shapeOf_38 rfl ?_
          refine lv_goto (tgt := 43) hx hb dX13_shapeOf_39 rfl ?_
          refine lv_istore (lv' := [(5, .int 1), (4, .int z2), (3, .int z1), (0, .ref (ad a0)), (1, .int x1), (2, .int x2)]) hx hb dX13_shapeOf_43 hl (by decide) rfl (fun ls hl => ?_)
          refine lv_iload_n hx hb dX13_shapeOf_45 rfl (lv_at hl 2 rfl) ?_
          refine lv_iload hx hb dX13_shapeOf_46 (lv_at hl 1 rfl) ?_
          refine lv_isub hx hb dX13_shapeOf_48 ?_
          refine lv_iconst (v := 5) hx hb dX13_shapeOf_49 rfl ?_
          refine lv_icmp_lt (tgt := 67) hx hb dX13_shapeOf_50 rfl (fun c12 => ?_) (fun c12 => ?_)
          · replace h := ite_t c12 h
            refine lv_iload hx hb dX13_shapeOf_67 (lv_at hl 0 rfl) ?_
            refine lv_if_eq (tgt := 76) hx hb dX13_shapeOf_69 rfl (fun c13 => absurd c13 (by decide)) (fun _ => ?_)
            refine lv_iconst (v := 2) hx hb dX13_shapeOf_72 rfl ?_
            refine lv_goto (tgt := 78) hx hb dX13_shapeOf_73 rfl ?_
            exact r_iret hx hb hr hlocks hP hK hD hT hG hS (Option.some.inj h) rfl dX13_shapeOf_78
          · replace h := ite_f c12 h
            refine lv_iload hx hb dX13_shapeOf_53 (lv_at hl 0 rfl) ?_
            refine lv_if_eq (tgt := 63) hx hb dX13_shapeOf_55 rfl (fun c14 => absurd c14 (by decide)) (fun _ => ?_)
            refine lv_bipush (v := 9) hx hb dX13_shapeOf_58 rfl ?_
            refine lv_goto (tgt := 78) hx hb dX13_shapeOf_60 rfl ?_
            exact r_iret hx hb hr hlocks hP hK hD hT hG hS (Option.some.inj h) rfl dX13_shapeOf_78
    · replace h := ite_f c4 h
      refine lv_iconst (v := 1) hx hb dX13_shapeOf_24 rfl ?_
      exact r_iret hx hb hr hlocks hP hK hD hT hG hS (Option.some.inj h) rfl dX13_shapeOf_25
set_option maxHeartbeats 4000000 in
set_option maxRecDepth 100000 in
theorem c_X13_hollowOf {l : Launch} {D : va_G} {ad : Nat → Nat} {cy : Nat → ClassId} {A : Nat → Prop} {g : CG} {q : SE} (M : MM) (a0 : Nat) (x1 : Int32) (x2 : Int32) (k0 : ok g a0 13 0) {Z : Int32} (h : f_X13_hollowOf M a0 x1 x2 = some Z) : Met l yX13_hollowOf wsX13_hollowOf ({ frames := 0, cells := 0, slots := 0, locals := 0 }) (va_Pc [.ref (ad a0), .int x1, .int x2] (Wd D ad cy A g q M)) (va_Qi (fun r u => r = Z ∧ u = M) (Wd D ad cy A g q) A) 0 0 A := by
  refine Met.ofW (cc := cX13_hollowOf) (maxL := 5) (ret := (some .int)) (by decide) rfl ?_
  intro p e s m args below meth c s₁ B hml hv
  obtain ⟨rfl, hP, hK, hD, hT, hG⟩ := hv
  have hx := B.exec
  have hb := B.bytes
  have hr := B.returns
  have hts := atoms_spec (ws := wsX13_hollowOf) B.pre
  have hown : s.vm.findClass RX13 = some m.cls := findClass_of_methodNamed B.named
  have hlocks := B.notSynchronized
  have in12 : ∀ w ∈ u_ws RX12 TX12 48, w ∈ wsX13_hollowOf := fun w h => List.mem_cons_of_mem _ (List.mem_append_right _ h)
  have in13 : ∀ w ∈ u_ws RX13 TX13 29, w ∈ wsX13_hollowOf := fun w h => List.mem_cons_of_mem _ (List.mem_append_left _ (List.mem_append_right _ h))
  have hS : va_S A s.heap s.heap [] := va_S.rf
  have hl := lv_entry ([.ref (ad a0), .int x1, .int x2]) (n := 5) (Nat.le_of_ble_eq_true rfl)
  rw [lg_entry_eq]
  generalize (lg_sl ([.ref (ad a0), .int x1, .int x2]) ++ List.replicate (5 - (lg_sl ([.ref (ad a0), .int x1, .int x2])).length) Slot.unset).toArray = ls at hl ⊢
  have hl : lv_has ls 5 [(0, .ref (ad a0)), (1, .int x1), (2, .int x2)] := hl
  unfold f_X13_hollowOf at h
  refine lv_aload_n hx hb dX13_hollowOf_0 rfl (lv_at hl 0 rfl) ?_
  rcases hN1 : gR M a0 3 with _ | b1
  · replace h := oc_n hN1 h
    refine r_get (T := TX13) (v := .null) hx hb hts in13 hown hK hP k0 (by decide) rfl 3 (by decide) (hts (.fieldLink RX13 431 "StoneWalkModel" "island" "LStoneWalkModel$Island;") (List.mem_of_getElem? (i := 1) (by decide +kernel))) rfl (t := 2) rfl (by show va_rf _ = _; rw [hN1]; rfl) dX13_hollowOf_1 ?_
    exact absurd h (by simp)
  · replace h := oc_s hN1 h
    have kb1 := hT.f k0 (k := 3) (t := 12) (n := 0) rfl hN1
    refine r_get (T := TX13) (v := .ref (ad b1)) hx hb hts in13 hown hK hP k0 (by decide) rfl 3 (by decide) (hts (.fieldLink RX13 431 "StoneWalkModel" "island" "LStoneWalkModel$Island;") (List.mem_of_getElem? (i := 1) (by decide +kernel))) rfl (t := 2) rfl (by show va_rf _ = _; rw [hN1]; rfl) dX13_hollowOf_1 ?_
    rcases hN2 : gR M b1 9 with _ | b2
    · exact absurd (oc_n hN2 h) (by simp)
    replace h := oc_s hN2 h
    have kb2 := hT.f kb1 (k := 9) (t := 15) (n := 4) rfl hN2
    refine r_getN (T := TX12) (v := .ref (ad b2)) hx hb hts in12 hown hK hP kb1 (by decide) rfl 9 (by decide) (hG.2.2.1 _ (List.mem_of_getElem? (i := 8) rfl)) rfl (t := 2) rfl (by show va_rf _ = _; rw [hN2]; rfl) dX13_hollowOf_4 ?_
    refine lv_iload_n hx hb dX13_hollowOf_7 rfl (lv_at hl 1 rfl) ?_
    obtain ⟨hn3, h⟩ := chk_some h
    refine r_iald hx hb hK hP kb2 hn3 dX13_hollowOf_8 ?_
    refine lv_istore_n (lv' := [(3, .int (gI M b2 (ix x1))), (0, .ref (ad a0)), (1, .int x1), (2, .int x2)]) hx hb dX13_hollowOf_9 rfl hl (by decide) rfl (fun ls hl => ?_)
    refine lv_iload_n hx hb dX13_hollowOf_10 rfl (lv_at hl 0 rfl) ?_
    refine lv_if_ne (tgt := 19) hx hb dX13_hollowOf_11 rfl (fun c4 => ?_) (fun c4 => ?_)
    · replace h := ite_f c4 h
      refine lv_iload_n hx hb dX13_hollowOf_19 rfl (lv_at hl 0 rfl) ?_
      refine lv_iconst (v := 1) hx hb dX13_hollowOf_20 rfl ?_
      refine lv_icmp_ne (tgt := 28) hx hb dX13_hollowOf_21 rfl (fun c5 => ?_) (fun c5 => ?_)
      · replace h := ite_f c5 h
        refine lv_iload_n hx hb dX13_hollowOf_28 rfl (lv_at hl 0 rfl) ?_
        refine lv_iconst (v := 2) hx hb dX13_hollowOf_29 rfl ?_
        refine lv_icmp_ne (tgt := 37) hx hb dX13_hollowOf_30 rfl (fun c6 => ?_) (fun c6 => ?_)
        · replace h := ite_f c6 h
          refine lv_bipush (v := 6) hx hb dX13_hollowOf_37 rfl ?_
          refine lv_istore (lv' := [(4, .int 6), (3, .int (gI M b2 (ix x1))), (0, .ref (ad a0)), (1, .int x1), (2, .int x2)]) hx hb dX13_hollowOf_39 hl (by decide) rfl (fun ls hl => ?_)
          refine lv_aload_n hx hb dX13_hollowOf_41 rfl (lv_at hl 2 rfl) ?_
          rcases hN7 : gR M a0 3 with _ | b7
          · replace h := oc_n hN7 h
            refine r_get (T := TX13) (v := .null) hx hb hts in13 hown hK hP k0 (by decide) rfl 3 (by decide) (hts (.fieldLink RX13 431 "StoneWalkModel" "island" "LStoneWalkModel$Island;") (List.mem_of_getElem? (i := 1) (by decide +kernel))) rfl (t := 2) rfl (by show va_rf _ = _; rw [hN7]; rfl) dX13_hollowOf_42 ?_
            exact absurd h (by simp)
          · replace h := oc_s hN7 h
            have kb7 := hT.f k0 (k := 3) (t := 12) (n := 0) rfl hN7
            refine r_get (T := TX13) (v := .ref (ad b7)) hx hb hts in13 hown hK hP k0 (by decide) rfl 3 (by decide) (hts (.fieldLink RX13 431 "StoneWalkModel" "island" "LStoneWalkModel$Island;") (List.mem_of_getElem? (i := 1) (by decide +kernel))) rfl (t := 2) rfl (by show va_rf _ = _; rw [hN7]; rfl) dX13_hollowOf_42 ?_
            rcases hN8 : gR M b7 12 with _ | b8
            · exact absurd (oc_n hN8 h) (by simp)
            replace h := oc_s hN8 h
            have kb8 := hT.f kb7 (k := 12) (t := 15) (n := 3) rfl hN8
            refine r_getN (T := TX12) (v := .ref (ad b8)) hx hb hts in12 hown hK hP kb7 (by decide) rfl 12 (by decide) (hG.2.2.1 _ (List.mem_of_getElem? (i := 12) rfl)) rfl (t := 2) rfl (by show va_rf _ = _; rw [hN8]; rfl) dX13_hollowOf_45 ?_
            refine lv_iload_n hx hb dX13_hollowOf_48 rfl (lv_at hl 4 rfl) ?_
            obtain ⟨hn9, h⟩ := chk_some h
            refine r_iald hx hb hK hP kb8 hn9 dX13_hollowOf_49 ?_
            refine lv_iconst (v := 3) hx hb dX13_hollowOf_50 rfl ?_
            refine lv_icmp_lt (tgt := 59) hx hb dX13_hollowOf_51 rfl (fun c10 => ?_) (fun c10 => ?_)
            · replace h := ite_t c10 h
              refine lv_bipush (v := 10) hx hb dX13_hollowOf_59 rfl ?_
              refine lv_iload hx hb dX13_hollowOf_61 (lv_at hl 0 rfl) ?_
              refine lv_isub hx hb dX13_hollowOf_63 ?_
              exact r_iret hx hb hr hlocks hP hK hD hT hG hS (Option.some.inj h) rfl dX13_hollowOf_64
            · replace h := ite_f c10 h
              refine lv_iload hx hb dX13_hollowOf_54 (lv_at hl 0 rfl) ?_
              refine lv_goto (tgt := 64) hx hb dX13_hollowOf_56 rfl ?_
              exact r_iret hx hb hr hlocks hP hK hD hT hG hS (Option.some.inj h) rfl dX13_hollowOf_64
        · replace h := ite_t c6 h
          refine lv_iconst (v := 3) hx hb dX13_hollowOf_33 rfl ?_
          refine lv_goto (tgt := 39) hx hb dX13_hollowOf_34 rfl ?_
          refine lv_istore (lv' := [(4, .int 3), (3, .int (gI M b2 (ix x1))), (0, .ref (ad a0)), (1, .int x1), (2, .int x2)]) hx hb dX13_hollowOf_39 hl (by decide) rfl (fun ls hl => ?_)
          refine lv_aload_n hx hb dX13_hollowOf_41 rfl (lv_at hl 2 rfl) ?_
          rcases hN11 : gR M a0 3 with _ | b11
          · replace h := oc_n hN11 h
            refine r_get (T := TX13) (v := .null) hx hb hts in13 hown hK hP k0 (by decide) rfl 3 (by decide) (hts (.fieldLink RX13 431 "StoneWalkModel" "island" "LStoneWalkModel$Island;") (List.mem_of_getElem? (i := 1) (by decide +kernel))) rfl (t := 2) rfl (by show va_rf _ = _; rw [hN11]; rfl) dX13_hollowOf_42 ?_
            exact absurd h (by simp)
          · replace h := oc_s hN11 h
            have kb11 := hT.f k0 (k := 3) (t := 12) (n := 0) rfl hN11
            refine r_get (T := TX13) (v := .ref (ad b11)) hx hb hts in13 hown hK hP k0 (by decide) rfl 3 (by decide) (hts (.fieldLink RX13 431 "StoneWalkModel" "island" "LStoneWalkModel$Island;") (List.mem_of_getElem? (i := 1) (by decide +kernel))) rfl (t := 2) rfl (by show va_rf _ = _; rw [hN11]; rfl) dX13_hollowOf_42 ?_
            rcases hN12 : gR M b11 12 with _ | b12
            · exact absurd (oc_n hN12 h) (by simp)
            replace h := oc_s hN12 h
            have kb12 := hT.f kb11 (k := 12) (t := 15) (n := 3) rfl hN12
            refine r_getN (T := TX12) (v := .ref (ad b12)) hx hb hts in12 hown hK hP kb11 (by decide) rfl 12 (by decide) (hG.2.2.1 _ (List.mem_of_getElem? (i := 12) rfl)) rfl (t := 2) rfl (by show va_rf _ = _; rw [hN12]; rfl) dX13_hollowOf_45 ?_
            refine lv_iload_n hx hb dX13_hollowOf_48 rfl (lv_at hl 4 rfl) ?_
            obtain ⟨hn13, h⟩ := chk_some h
            refine r_iald hx hb hK hP kb12 hn13 dX13_hollowOf_49 ?_
            refine lv_iconst (v := 3) hx hb dX13_hollowOf_50 rfl ?_
            refine lv_icmp_lt (tgt := 59) hx hb dX13_hollowOf_51 rfl (fun c14 => ?_) (fun c14 => ?_)
            · replace h := ite_t c14 h
              refine lv_bipush (v := 10) hx hb dX13_hollowOf_59 rfl ?_
              refine lv_iload hx hb dX13_hollowOf_61 (lv_at hl 0 rfl) ?_
              refine lv_isub hx hb dX13_hollowOf_63 ?_
              exact r_iret hx hb hr hlocks hP hK hD hT hG hS (Option.some.inj h) rfl dX13_hollowOf_64
            · replace h := ite_f c14 h
              refine lv_iload hx hb dX13_hollowOf_54 (lv_at hl 0 rfl) ?_
              refine lv_goto (tgt := 64) hx hb dX13_hollowOf_56 rfl ?_
              exact r_iret hx hb hr hlocks hP hK hD hT hG hS (Option.some.inj h) rfl dX13_hollowOf_64
      · replace h := ite_t c5 h
        refine lv_iconst (v := 1) hx hb dX13_hollowOf_24 rfl ?_
        refine lv_goto (tgt := 39) hx hb dX13_hollowOf_25 rfl ?_
        refine lv_istore (lv' := [(4, .int 1), (3, .int (gI M b2 (ix x1))), (0, .ref (ad a0)), (1, .int x1), (2, .int x2)]) hx hb dX13_hollowOf_39 hl (by decide) rfl (fun ls hl => ?_)
        refine lv_aload_n hx hb dX13_hollowOf_41 rfl (lv_at hl 2 rfl) ?_
        rcases hN15 : gR M a0 3 with _ | b15
        · replace h := oc_n hN15 h
          refine r_get (T := TX13) (v := .null) hx hb hts in13 hown hK hP k0 (by decide) rfl 3 (by decide) (hts (.fieldLink RX13 431 "StoneWalkModel" "island" "LStoneWalkModel$Island;") (List.mem_of_getElem? (i := 1) (by decide +kernel))) rfl (t := 2) rfl (by show va_rf _ = _; rw [hN15]; rfl) dX13_hollowOf_42 ?_
          exact absurd h (by simp)
        · replace h := oc_s hN15 h
          have kb15 := hT.f k0 (k := 3) (t := 12) (n := 0) rfl hN15
          refine r_get (T := TX13) (v := .ref (ad b15)) hx hb hts in13 hown hK hP k0 (by decide) rfl 3 (by decide) (hts (.fieldLink RX13 431 "StoneWalkModel" "island" "LStoneWalkModel$Island;") (List.mem_of_getElem? (i := 1) (by decide +kernel))) rfl (t := 2) rfl (by show va_rf _ = _; rw [hN15]; rfl) dX13_hollowOf_42 ?_
          rcases hN16 : gR M b15 12 with _ | b16
          · exact absurd (oc_n hN16 h) (by simp)
          replace h := oc_s hN16 h
          have kb16 := hT.f kb15 (k := 12) (t := 15) (n := 3) rfl hN16
          refine r_getN (T := TX12) (v := .ref (ad b16)) hx hb hts in12 hown hK hP kb15 (by decide) rfl 12 (by decide) (hG.2.2.1 _ (List.mem_of_getElem? (i := 12) rfl)) rfl (t := 2) rfl (by show va_rf _ = _; rw [hN16]; rfl) dX13_hollowOf_45 ?_
          refine lv_iload_n hx hb dX13_hollowOf_48 rfl (lv_at hl 4 rfl) ?_
          obtain ⟨hn17, h⟩ := chk_some h
          refine r_iald hx hb hK hP kb16 hn17 dX13_hollowOf_49 ?_
          refine lv_iconst (v := 3) hx hb dX13_hollowOf_50 rfl ?_
          refine lv_icmp_lt (tgt := 59) hx hb dX13_hollowOf_51 rfl (fun c18 => ?_) (fun c18 => ?_)
          · replace h := ite_t c18 h
            refine lv_bipush (v := 10) hx hb dX13_hollowOf_59 rfl ?_
            refine lv_iload hx hb dX13_hollowOf_61 (lv_at hl 0 rfl) ?_
            refine lv_isub hx hb dX13_hollowOf_63 ?_
            exact r_iret hx hb hr hlocks hP hK hD hT hG hS (Option.some.inj h) rfl dX13_hollowOf_64
          · replace h := ite_f c18 h
            refine lv_iload hx hb dX13_hollowOf_54 (lv_at hl 0 rfl) ?_
            refine lv_goto (tgt := 64) hx hb dX13_hollowOf_56 rfl ?_
            exact r_iret hx hb hr hlocks hP hK hD hT hG hS (Option.some.inj h) rfl dX13_hollowOf_64
    · replace h := ite_t c4 h
      refine lv_bipush (v := 8) hx hb dX13_hollowOf_14 rfl ?_
      refine lv_goto (tgt := 39) hx hb dX13_hollowOf_16 rfl ?_
      refine lv_istore (lv' := [(4, .int 8), (3, .int (gI M b2 (ix x1))), (0, .ref (ad a0)), (1, .int x1), (2, .int x2)]) hx hb dX13_hollowOf_39 hl (by decide) rfl (fun ls hl => ?_)
      refine lv_aload_n hx hb dX13_hollowOf_41 rfl (lv_at hl 2 rfl) ?_
      rcases hN19 : gR M a0 3 with _ | b19
      · replace h := oc_n hN19 h
        refine r_get (T := TX13) (v := .null) hx hb hts in13 hown hK hP k0 (by decide) rfl 3 (by decide) (hts (.fieldLink RX13 431 "StoneWalkModel" "island" "LStoneWalkModel$Island;") (List.mem_of_getElem? (i := 1) (by decide +kernel))) rfl (t := 2) rfl (by show va_rf _ = _; rw [hN19]; rfl) dX13_hollowOf_42 ?_
        exact absurd h (by simp)
      · replace h := oc_s hN19 h
        have kb19 := hT.f k0 (k := 3) (t := 12) (n := 0) rfl hN19
        refine r_get (T := TX13) (v := .ref (ad b19)) hx hb hts in13 hown hK hP k0 (by decide) rfl 3 (by decide) (hts (.fieldLink RX13 431 "StoneWalkModel" "island" "LStoneWalkModel$Island;") (List.mem_of_getElem? (i := 1) (by decide +kernel))) rfl (t := 2) rfl (by show va_rf _ = _; rw [hN19]; rfl) dX13_hollowOf_42 ?_
        rcases hN20 : gR M b19 12 with _ | b20
        · exact absurd (oc_n hN20 h) (by simp)
        replace h := oc_s hN20 h
        have kb20 := hT.f kb19 (k := 12) (t := 15) (n := 3) rfl hN20
        refine r_getN (T := TX12) (v := .ref (ad b20)) hx hb hts in12 hown hK hP kb19 (by decide) rfl 12 (by decide) (hG.2.2.1 _ (List.mem_of_getElem? (i := 12) rfl)) rfl (t := 2) rfl (by show va_rf _ = _; rw [hN20]; rfl) dX13_hollowOf_45 ?_
        refine lv_iload_n hx hb dX13_hollowOf_48 rfl (lv_at hl 4 rfl) ?_
        obtain ⟨hn21, h⟩ := chk_some h
        refine r_iald hx hb hK hP kb20 hn21 dX13_hollowOf_49 ?_
        refine lv_iconst (v := 3) hx hb dX13_hollowOf_50 rfl ?_
        refine lv_icmp_lt (tgt := 59) hx hb dX13_hollowOf_51 rfl (fun c22 => ?_) (fun c22 => ?_)
        · replace h := ite_t c22 h
          refine lv_bipush (v := 10) hx hb dX13_hollowOf_59 rfl ?_
          refine lv_iload hx hb dX13_hollowOf_61 (lv_at hl 0 rfl) ?_
          refine lv_isub hx hb dX13_hollowOf_63 ?_
          exact r_iret hx hb hr hlocks hP hK hD hT hG hS (Option.some.inj h) rfl dX13_hollowOf_64
        · replace h := ite_f c22 h
          refine lv_iload hx hb dX13_hollowOf_54 (lv_at hl 0 rfl) ?_
          refine lv_goto (tgt := 64) hx hb dX13_hollowOf_56 rfl ?_
          exact r_iret hx hb hr hlocks hP hK hD hT hG hS (Option.some.inj h) rfl dX13_hollowOf_64
set_option maxHeartbeats 4000000 in
set_option maxRecDepth 100000 in
theorem c_X13_toldOf {l : Launch} {D : va_G} {ad : Nat → Nat} {cy : Nat → ClassId} {A : Nat → Prop} {g : CG} {q : SE} (M : MM) (a0 : Nat) (x1 : Int32) (x2 : Int32) (k0 : ok g a0 13 0) {Z : Int32} (h : f_X13_toldOf M a0 x1 x2 = some Z) : Met l yX13_toldOf wsX13_toldOf ({ frames := 0, cells := 0, slots := 0, locals := 0 }) (va_Pc [.ref (ad a0), .int x1, .int x2] (Wd D ad cy A g q M)) (va_Qi (fun r u => r = Z ∧ u = M) (Wd D ad cy A g q) A) 0 0 A := by
  refine Met.ofW (cc := cX13_toldOf) (maxL := 3) (ret := (some .int)) (by decide) rfl ?_
  intro p e s m args below meth c s₁ B hml hv
  obtain ⟨rfl, hP, hK, hD, hT, hG⟩ := hv
  have hx := B.exec
  have hb := B.bytes
  have hr := B.returns
  have hts := atoms_spec (ws := wsX13_toldOf) B.pre
  have hown : s.vm.findClass RX13 = some m.cls := findClass_of_methodNamed B.named
  have hlocks := B.notSynchronized
  have in12 : ∀ w ∈ u_ws RX12 TX12 48, w ∈ wsX13_toldOf := fun w h => List.mem_cons_of_mem _ (List.mem_append_right _ h)
  have in13 : ∀ w ∈ u_ws RX13 TX13 29, w ∈ wsX13_toldOf := fun w h => List.mem_cons_of_mem _ (List.mem_append_left _ (List.mem_append_right _ h))
  have hS : va_S A s.heap s.heap [] := va_S.rf
  have hl := lv_entry ([.ref (ad a0), .int x1, .int x2]) (n := 3) (Nat.le_of_ble_eq_true rfl)
  rw [lg_entry_eq]
  generalize (lg_sl ([.ref (ad a0), .int x1, .int x2]) ++ List.replicate (3 - (lg_sl ([.ref (ad a0), .int x1, .int x2])).length) Slot.unset).toArray = ls at hl ⊢
  have hl : lv_has ls 3 [(0, .ref (ad a0)), (1, .int x1), (2, .int x2)] := hl
  unfold f_X13_toldOf at h
  refine lv_aload_n hx hb dX13_toldOf_0 rfl (lv_at hl 0 rfl) ?_
  rcases hN1 : gR M a0 3 with _ | b1
  · replace h := oc_n hN1 h
    refine r_get (T := TX13) (v := .null) hx hb hts in13 hown hK hP k0 (by decide) rfl 3 (by decide) (hts (.fieldLink RX13 431 "StoneWalkModel" "island" "LStoneWalkModel$Island;") (List.mem_of_getElem? (i := 1) (by decide +kernel))) rfl (t := 2) rfl (by show va_rf _ = _; rw [hN1]; rfl) dX13_toldOf_1 ?_
    exact absurd h (by simp)
  · replace h := oc_s hN1 h
    have kb1 := hT.f k0 (k := 3) (t := 12) (n := 0) rfl hN1
    refine r_get (T := TX13) (v := .ref (ad b1)) hx hb hts in13 hown hK hP k0 (by decide) rfl 3 (by decide) (hts (.fieldLink RX13 431 "StoneWalkModel" "island" "LStoneWalkModel$Island;") (List.mem_of_getElem? (i := 1) (by decide +kernel))) rfl (t := 2) rfl (by show va_rf _ = _; rw [hN1]; rfl) dX13_toldOf_1 ?_
    rcases hN2 : gR M b1 44 with _ | b2
    · exact absurd (oc_n hN2 h) (by simp)
    replace h := oc_s hN2 h
    have kb2 := hT.f kb1 (k := 44) (t := 17) (n := 3) rfl hN2
    refine r_getN (T := TX12) (v := .ref (ad b2)) hx hb hts in12 hown hK hP kb1 (by decide) rfl 44 (by decide) (hG.2.2.1 _ (List.mem_of_getElem? (i := 43) rfl)) rfl (t := 2) rfl (by show va_rf _ = _; rw [hN2]; rfl) dX13_toldOf_4 ?_
    refine lv_iload_n hx hb dX13_toldOf_7 rfl (lv_at hl 2 rfl) ?_
    obtain ⟨hn3, h⟩ := chk_some h
    refine r_zald hx hb hK hP kb2 hn3 dX13_toldOf_8 ?_
    refine lv_if_eq (tgt := 16) hx hb dX13_toldOf_9 rfl (fun c4 => ?_) (fun c4 => ?_)
    · replace h := ite_t c4 h
      refine lv_aload_n hx hb dX13_toldOf_16 rfl (lv_at hl 0 rfl) ?_
      rcases hN5 : gR M a0 3 with _ | b5
      · replace h := oc_n hN5 h
        refine r_get (T := TX13) (v := .null) hx hb hts in13 hown hK hP k0 (by decide) rfl 3 (by decide) (hts (.fieldLink RX13 431 "StoneWalkModel" "island" "LStoneWalkModel$Island;") (List.mem_of_getElem? (i := 1) (by decide +kernel))) rfl (t := 2) rfl (by show va_rf _ = _; rw [hN5]; rfl) dX13_toldOf_17 ?_
        exact absurd h (by simp)
      · replace h := oc_s hN5 h
        have kb5 := hT.f k0 (k := 3) (t := 12) (n := 0) rfl hN5
        refine r_get (T := TX13) (v := .ref (ad b5)) hx hb hts in13 hown hK hP k0 (by decide) rfl 3 (by decide) (hts (.fieldLink RX13 431 "StoneWalkModel" "island" "LStoneWalkModel$Island;") (List.mem_of_getElem? (i := 1) (by decide +kernel))) rfl (t := 2) rfl (by show va_rf _ = _; rw [hN5]; rfl) dX13_toldOf_17 ?_
        rcases hN6 : gR M b5 39 with _ | b6
        · exact absurd (oc_n hN6 h) (by simp)
        replace h := oc_s hN6 h
        have kb6 := hT.f kb5 (k := 39) (t := 15) (n := 3) rfl hN6
        refine r_getN (T := TX12) (v := .ref (ad b6)) hx hb hts in12 hown hK hP kb5 (by decide) rfl 39 (by decide) (hG.2.2.1 _ (List.mem_of_getElem? (i := 42) rfl)) rfl (t := 2) rfl (by show va_rf _ = _; rw [hN6]; rfl) dX13_toldOf_20 ?_
        refine lv_iload_n hx hb dX13_toldOf_23 rfl (lv_at hl 2 rfl) ?_
        obtain ⟨hn7, h⟩ := chk_some h
        refine r_iald hx hb hK hP kb6 hn7 dX13_toldOf_24 ?_
        refine lv_iload_n hx hb dX13_toldOf_25 rfl (lv_at hl 1 rfl) ?_
        refine lv_ishr hx hb dX13_toldOf_26 ?_
        refine lv_iconst (v := 1) hx hb dX13_toldOf_27 rfl ?_
        refine lv_iand hx hb dX13_toldOf_28 ?_
        refine lv_iconst (v := 1) hx hb dX13_toldOf_29 rfl ?_
        refine lv_icmp_ne (tgt := 38) hx hb dX13_toldOf_30 rfl (fun c8 => ?_) (fun c8 => ?_)
        · replace h := ite_f c8 h
          refine lv_iconst (v := 4) hx hb dX13_toldOf_38 rfl ?_
          exact r_iret hx hb hr hlocks hP hK hD hT hG hS (Option.some.inj h) rfl dX13_toldOf_39
        · replace h := ite_t c8 h
          refine lv_bipush (v := 6) hx hb dX13_toldOf_33 rfl ?_
          refine lv_goto (tgt := 39) hx hb dX13_toldOf_35 rfl ?_
          exact r_iret hx hb hr hlocks hP hK hD hT hG hS (Option.some.inj h) rfl dX13_toldOf_39
    · replace h := ite_f c4 h
      refine lv_iconst (v := 5) hx hb dX13_toldOf_12 rfl ?_
      refine lv_goto (tgt := 39) hx hb dX13_toldOf_13 rfl ?_
      exact r_iret hx hb hr hlocks hP hK hD hT hG hS (Option.some.inj h) rfl dX13_toldOf_39
set_option maxHeartbeats 4000000 in
set_option maxRecDepth 100000 in
theorem c_X13_liesBy {l : Launch} {D : va_G} {ad : Nat → Nat} {cy : Nat → ClassId} {A : Nat → Prop} {g : CG} {q : SE} (M : MM) (a0 : Nat) (x1 : Int32) (x2 : Int32) (k0 : ok g a0 13 0) {Z : Int32} (h : f_X13_liesBy M a0 x1 x2 = some Z) : Met l yX13_liesBy wsX13_liesBy ({ frames := 1, cells := 0, slots := 0, locals := 25 }) (va_Pc [.ref (ad a0), .int x1, .int x2] (Wd D ad cy A g q M)) (va_Qi (fun r u => r = Z ∧ u = M) (Wd D ad cy A g q) A) 0 0 A := by
  refine Met.ofW (cc := cX13_liesBy) (maxL := 3) (ret := (some .int)) (by decide) rfl ?_
  intro p e s m args below meth c s₁ B hml hv
  obtain ⟨rfl, hP, hK, hD, hT, hG⟩ := hv
  have hx := B.exec
  have hb := B.bytes
  have hr := B.returns
  have hts := atoms_spec (ws := wsX13_liesBy) B.pre
  have hown : s.vm.findClass RX13 = some m.cls := findClass_of_methodNamed B.named
  have hlocks := B.notSynchronized
  have in12 : ∀ w ∈ u_ws RX12 TX12 48, w ∈ wsX13_liesBy := fun w h => List.mem_cons_of_mem _ (List.mem_append_right _ h)
  have in13 : ∀ w ∈ u_ws RX13 TX13 29, w ∈ wsX13_liesBy := fun w h => List.mem_cons_of_mem _ (List.mem_append_left _ (List.mem_append_right _ h))
  have hS : va_S A s.heap s.heap [] := va_S.rf
  have hl := lv_entry ([.ref (ad a0), .int x1, .int x2]) (n := 3) (Nat.le_of_ble_eq_true rfl)
  rw [lg_entry_eq]
  generalize (lg_sl ([.ref (ad a0), .int x1, .int x2]) ++ List.replicate (3 - (lg_sl ([.ref (ad a0), .int x1, .int x2])).length) Slot.unset).toArray = ls at hl ⊢
  have hl : lv_has ls 3 [(0, .ref (ad a0)), (1, .int x1), (2, .int x2)] := hl
  unfold f_X13_liesBy at h
  refine lv_aload_n hx hb dX13_liesBy_0 rfl (lv_at hl 0 rfl) ?_
  refine lv_iload_n hx hb dX13_liesBy_1 rfl (lv_at hl 1 rfl) ?_
  refine lv_aload_n hx hb dX13_liesBy_2 rfl (lv_at hl 0 rfl) ?_
  rcases hN1 : gR M a0 3 with _ | b1
  · replace h := oc_n hN1 h
    refine r_get (T := TX13) (v := .null) hx hb hts in13 hown hK hP k0 (by decide) rfl 3 (by decide) (hts (.fieldLink RX13 431 "StoneWalkModel" "island" "LStoneWalkModel$Island;") (List.mem_of_getElem? (i := 1) (by decide +kernel))) rfl (t := 2) rfl (by show va_rf _ = _; rw [hN1]; rfl) dX13_liesBy_3 ?_
    refine lv_aload_n hx hb dX13_liesBy_6 rfl (lv_at hl 0 rfl) ?_
    rcases hN2 : gR M a0 3 with _ | b2
    · replace h := oc_n hN2 h
      refine r_get (T := TX13) (v := .null) hx hb hts in13 hown hK hP k0 (by decide) rfl 3 (by decide) (hts (.fieldLink RX13 431 "StoneWalkModel" "island" "LStoneWalkModel$Island;") (List.mem_of_getElem? (i := 1) (by decide +kernel))) rfl (t := 2) rfl (by show va_rf _ = _; rw [hN2]; rfl) dX13_liesBy_7 ?_
      exact absurd h (by simp)
    · replace h := oc_s hN2 h
      have kb2 := hT.f k0 (k := 3) (t := 12) (n := 0) rfl hN2
      refine r_get (T := TX13) (v := .ref (ad b2)) hx hb hts in13 hown hK hP k0 (by decide) rfl 3 (by decide) (hts (.fieldLink RX13 431 "StoneWalkModel" "island" "LStoneWalkModel$Island;") (List.mem_of_getElem? (i := 1) (by decide +kernel))) rfl (t := 2) rfl (by show va_rf _ = _; rw [hN2]; rfl) dX13_liesBy_7 ?_
      rcases hN3 : gR M b2 20 with _ | b3
      · exact absurd (oc_n hN3 h) (by simp)
      replace h := oc_s hN3 h
      have kb3 := hT.f kb2 (k := 20) (t := 15) (n := 10) rfl hN3
      refine r_getN (T := TX12) (v := .ref (ad b3)) hx hb hts in12 hown hK hP kb2 (by decide) rfl 20 (by decide) (hG.2.2.1 _ (List.mem_of_getElem? (i := 20) rfl)) rfl (t := 2) rfl (by show va_rf _ = _; rw [hN3]; rfl) dX13_liesBy_10 ?_
      refine lv_iload_n hx hb dX13_liesBy_13 rfl (lv_at hl 2 rfl) ?_
      obtain ⟨hn4, h⟩ := chk_some h
      refine r_iald hx hb hK hP kb3 hn4 dX13_liesBy_14 ?_
      refine lv_aload_n hx hb dX13_liesBy_15 rfl (lv_at hl 0 rfl) ?_
      rcases hN5 : gR M a0 3 with _ | b5
      · replace h := oc_n hN5 h
        refine r_get (T := TX13) (v := .null) hx hb hts in13 hown hK hP k0 (by decide) rfl 3 (by decide) (hts (.fieldLink RX13 431 "StoneWalkModel" "island" "LStoneWalkModel$Island;") (List.mem_of_getElem? (i := 1) (by decide +kernel))) rfl (t := 2) rfl (by show va_rf _ = _; rw [hN5]; rfl) dX13_liesBy_16 ?_
        exact absurd h (by simp)
      · replace h := oc_s hN5 h
        have kb5 := hT.f k0 (k := 3) (t := 12) (n := 0) rfl hN5
        refine r_get (T := TX13) (v := .ref (ad b5)) hx hb hts in13 hown hK hP k0 (by decide) rfl 3 (by decide) (hts (.fieldLink RX13 431 "StoneWalkModel" "island" "LStoneWalkModel$Island;") (List.mem_of_getElem? (i := 1) (by decide +kernel))) rfl (t := 2) rfl (by show va_rf _ = _; rw [hN5]; rfl) dX13_liesBy_16 ?_
        rcases hN6 : gR M b5 21 with _ | b6
        · exact absurd (oc_n hN6 h) (by simp)
        replace h := oc_s hN6 h
        have kb6 := hT.f kb5 (k := 21) (t := 15) (n := 10) rfl hN6
        refine r_getN (T := TX12) (v := .ref (ad b6)) hx hb hts in12 hown hK hP kb5 (by decide) rfl 21 (by decide) (hG.2.2.1 _ (List.mem_of_getElem? (i := 21) rfl)) rfl (t := 2) rfl (by show va_rf _ = _; rw [hN6]; rfl) dX13_liesBy_19 ?_
        refine lv_iload_n hx hb dX13_liesBy_22 rfl (lv_at hl 2 rfl) ?_
        obtain ⟨hn7, h⟩ := chk_some h
        refine r_iald hx hb hK hP kb6 hn7 dX13_liesBy_23 ?_
        exact absurd h (by simp)
  · replace h := oc_s hN1 h
    have kb1 := hT.f k0 (k := 3) (t := 12) (n := 0) rfl hN1
    refine r_get (T := TX13) (v := .ref (ad b1)) hx hb hts in13 hown hK hP k0 (by decide) rfl 3 (by decide) (hts (.fieldLink RX13 431 "StoneWalkModel" "island" "LStoneWalkModel$Island;") (List.mem_of_getElem? (i := 1) (by decide +kernel))) rfl (t := 2) rfl (by show va_rf _ = _; rw [hN1]; rfl) dX13_liesBy_3 ?_
    refine lv_aload_n hx hb dX13_liesBy_6 rfl (lv_at hl 0 rfl) ?_
    rcases hN8 : gR M a0 3 with _ | b8
    · replace h := oc_n hN8 h
      refine r_get (T := TX13) (v := .null) hx hb hts in13 hown hK hP k0 (by decide) rfl 3 (by decide) (hts (.fieldLink RX13 431 "StoneWalkModel" "island" "LStoneWalkModel$Island;") (List.mem_of_getElem? (i := 1) (by decide +kernel))) rfl (t := 2) rfl (by show va_rf _ = _; rw [hN8]; rfl) dX13_liesBy_7 ?_
      exact absurd h (by simp)
    · replace h := oc_s hN8 h
      have kb8 := hT.f k0 (k := 3) (t := 12) (n := 0) rfl hN8
      refine r_get (T := TX13) (v := .ref (ad b8)) hx hb hts in13 hown hK hP k0 (by decide) rfl 3 (by decide) (hts (.fieldLink RX13 431 "StoneWalkModel" "island" "LStoneWalkModel$Island;") (List.mem_of_getElem? (i := 1) (by decide +kernel))) rfl (t := 2) rfl (by show va_rf _ = _; rw [hN8]; rfl) dX13_liesBy_7 ?_
      rcases hN9 : gR M b8 20 with _ | b9
      · exact absurd (oc_n hN9 h) (by simp)
      replace h := oc_s hN9 h
      have kb9 := hT.f kb8 (k := 20) (t := 15) (n := 10) rfl hN9
      refine r_getN (T := TX12) (v := .ref (ad b9)) hx hb hts in12 hown hK hP kb8 (by decide) rfl 20 (by decide) (hG.2.2.1 _ (List.mem_of_getElem? (i := 20) rfl)) rfl (t := 2) rfl (by show va_rf _ = _; rw [hN9]; rfl) dX13_liesBy_10 ?_
      refine lv_iload_n hx hb dX13_liesBy_13 rfl (lv_at hl 2 rfl) ?_
      obtain ⟨hn10, h⟩ := chk_some h
      refine r_iald hx hb hK hP kb9 hn10 dX13_liesBy_14 ?_
      refine lv_aload_n hx hb dX13_liesBy_15 rfl (lv_at hl 0 rfl) ?_
      rcases hN11 : gR M a0 3 with _ | b11
      · replace h := oc_n hN11 h
        refine r_get (T := TX13) (v := .null) hx hb hts in13 hown hK hP k0 (by decide) rfl 3 (by decide) (hts (.fieldLink RX13 431 "StoneWalkModel" "island" "LStoneWalkModel$Island;") (List.mem_of_getElem? (i := 1) (by decide +kernel))) rfl (t := 2) rfl (by show va_rf _ = _; rw [hN11]; rfl) dX13_liesBy_16 ?_
        exact absurd h (by simp)
      · replace h := oc_s hN11 h
        have kb11 := hT.f k0 (k := 3) (t := 12) (n := 0) rfl hN11
        refine r_get (T := TX13) (v := .ref (ad b11)) hx hb hts in13 hown hK hP k0 (by decide) rfl 3 (by decide) (hts (.fieldLink RX13 431 "StoneWalkModel" "island" "LStoneWalkModel$Island;") (List.mem_of_getElem? (i := 1) (by decide +kernel))) rfl (t := 2) rfl (by show va_rf _ = _; rw [hN11]; rfl) dX13_liesBy_16 ?_
        rcases hN12 : gR M b11 21 with _ | b12
        · exact absurd (oc_n hN12 h) (by simp)
        replace h := oc_s hN12 h
        have kb12 := hT.f kb11 (k := 21) (t := 15) (n := 10) rfl hN12
        refine r_getN (T := TX12) (v := .ref (ad b12)) hx hb hts in12 hown hK hP kb11 (by decide) rfl 21 (by decide) (hG.2.2.1 _ (List.mem_of_getElem? (i := 21) rfl)) rfl (t := 2) rfl (by show va_rf _ = _; rw [hN12]; rfl) dX13_liesBy_19 ?_
        refine lv_iload_n hx hb dX13_liesBy_22 rfl (lv_at hl 2 rfl) ?_
        obtain ⟨hn13, h⟩ := chk_some h
        refine r_iald hx hb hK hP kb12 hn13 dX13_liesBy_23 ?_
        obtain ⟨z14, h14, h⟩ := ob_some h
        refine k_i (va_runV (As := [.int (gI M b9 (ix x2)), .int (gI M b12 (ix x2))]) (rest := [.int x1, .ref (ad a0)]) ⟨hx, hb, hml, hown, hts⟩ (c_X12_slopeAt (l := l) M b1 (gI M b9 (ix x2)) (gI M b12 (ix x2)) kb1 h14) (cwV 2 hts gX13_liesBy_X12_slopeAt rfl rfl rfl hdV_X12_slopeAt ⟨Nat.le_of_ble_eq_true rfl, Nat.le_of_ble_eq_true rfl⟩) (pV (T := TX12) hP hK hD hT hG hS kb1 (by decide) rfl) rfl rfl hl.1 rfl (lv_room (Nat.le_of_ble_eq_true rfl)) dX13_liesBy_24 ⟨Nat.zero_le _, Nat.zero_le _⟩) hS (fun H locs hP hD hT hS => ?_)
        refine lv_aload_n hx hb dX13_liesBy_27 rfl (lv_at hl 0 rfl) ?_
        rcases hN15 : gR M a0 3 with _ | b15
        · replace h := oc_n hN15 h
          refine r_get (T := TX13) (v := .null) hx hb hts in13 hown hK hP k0 (by decide) rfl 3 (by decide) (hts (.fieldLink RX13 431 "StoneWalkModel" "island" "LStoneWalkModel$Island;") (List.mem_of_getElem? (i := 1) (by decide +kernel))) rfl (t := 2) rfl (by show va_rf _ = _; rw [hN15]; rfl) dX13_liesBy_28 ?_
          exact absurd h (by simp)
        · replace h := oc_s hN15 h
          have kb15 := hT.f k0 (k := 3) (t := 12) (n := 0) rfl hN15
          refine r_get (T := TX13) (v := .ref (ad b15)) hx hb hts in13 hown hK hP k0 (by decide) rfl 3 (by decide) (hts (.fieldLink RX13 431 "StoneWalkModel" "island" "LStoneWalkModel$Island;") (List.mem_of_getElem? (i := 1) (by decide +kernel))) rfl (t := 2) rfl (by show va_rf _ = _; rw [hN15]; rfl) dX13_liesBy_28 ?_
          rcases hN16 : gR M b15 19 with _ | b16
          · exact absurd (oc_n hN16 h) (by simp)
          replace h := oc_s hN16 h
          have kb16 := hT.f kb15 (k := 19) (t := 15) (n := 10) rfl hN16
          refine r_getN (T := TX12) (v := .ref (ad b16)) hx hb hts in12 hown hK hP kb15 (by decide) rfl 19 (by decide) (hG.2.2.1 _ (List.mem_of_getElem? (i := 19) rfl)) rfl (t := 2) rfl (by show va_rf _ = _; rw [hN16]; rfl) dX13_liesBy_31 ?_
          refine lv_iload_n hx hb dX13_liesBy_34 rfl (lv_at hl 2 rfl) ?_
          obtain ⟨hn17, h⟩ := chk_some h
          refine r_iald hx hb hK hP kb16 hn17 dX13_liesBy_35 ?_
          obtain ⟨z18, h18, h⟩ := ob_some h
          refine k_i (va_runV (As := [.int x1, .int z14, .int (gI M b16 (ix x2))]) (rest := []) ⟨hx, hb, hml, hown, hts⟩ (c_X13_tenths (l := l) M a0 x1 z14 (gI M b16 (ix x2)) k0 h18) (cwV 3 hts gX13_liesBy_X13_tenths rfl rfl rfl hdV_X13_tenths ⟨Nat.le_of_ble_eq_true rfl, Nat.le_of_ble_eq_true rfl⟩) (pV (T := TX13) hP hK hD hT hG hS k0 (by decide) rfl) rfl rfl hl.1 rfl (lv_room (Nat.le_of_ble_eq_true rfl)) dX13_liesBy_36 ⟨Nat.zero_le _, Nat.zero_le _⟩) hS (fun H locs hP hD hT hS => ?_)
          exact r_iret hx hb hr hlocks hP hK hD hT hG hS (Option.some.inj h) rfl dX13_liesBy_39
set_option maxHeartbeats 4000000 in
set_option maxRecDepth 100000 in
theorem c_X13_oddsOf {l : Launch} {D : va_G} {ad : Nat → Nat} {cy : Nat → ClassId} {A : Nat → Prop} {g : CG} {q : SE} (M : MM) (a0 : Nat) (x1 : Int32) (x2 : Int32) (k0 : ok g a0 13 0) {Z : Int64} (h : f_X13_oddsOf M a0 x1 x2 = some Z) : Met l yX13_oddsOf wsX13_oddsOf ({ frames := 2, cells := 0, slots := 0, locals := 50 }) (va_Pc [.ref (ad a0), .int x1, .int x2] (Wd D ad cy A g q M)) (va_Ql (fun r u => r = Z ∧ u = M) (Wd D ad cy A g q) A) 0 0 A := by
  refine Met.ofW (cc := cX13_oddsOf) (maxL := 6) (ret := (some .long)) (by decide) rfl ?_
  intro p e s m args below meth c s₁ B hml hv
  obtain ⟨rfl, hP, hK, hD, hT, hG⟩ := hv
  have hx := B.exec
  have hb := B.bytes
  have hr := B.returns
  have hts := atoms_spec (ws := wsX13_oddsOf) B.pre
  have hown : s.vm.findClass RX13 = some m.cls := findClass_of_methodNamed B.named
  have hlocks := B.notSynchronized
  have in12 : ∀ w ∈ u_ws RX12 TX12 48, w ∈ wsX13_oddsOf := fun w h => List.mem_cons_of_mem _ (List.mem_append_right _ h)
  have in13 : ∀ w ∈ u_ws RX13 TX13 29, w ∈ wsX13_oddsOf := fun w h => List.mem_cons_of_mem _ (List.mem_append_left _ (List.mem_append_right _ h))
  have hS : va_S A s.heap s.heap [] := va_S.rf
  have hl := lv_entry ([.ref (ad a0), .int x1, .int x2]) (n := 6) (Nat.le_of_ble_eq_true rfl)
  rw [lg_entry_eq]
  generalize (lg_sl ([.ref (ad a0), .int x1, .int x2]) ++ List.replicate (6 - (lg_sl ([.ref (ad a0), .int x1, .int x2])).length) Slot.unset).toArray = ls at hl ⊢
  have hl : lv_has ls 6 [(0, .ref (ad a0)), (1, .int x1), (2, .int x2)] := hl
  unfold f_X13_oddsOf at h
  refine lv_aload_n hx hb dX13_oddsOf_0 rfl (lv_at hl 0 rfl) ?_
  rcases hN1 : gR M a0 3 with _ | b1
  · replace h := oc_n hN1 h
    refine r_get (T := TX13) (v := .null) hx hb hts in13 hown hK hP k0 (by decide) rfl 3 (by decide) (hts (.fieldLink RX13 431 "StoneWalkModel" "island" "LStoneWalkModel$Island;") (List.mem_of_getElem? (i := 1) (by decide +kernel))) rfl (t := 2) rfl (by show va_rf _ = _; rw [hN1]; rfl) dX13_oddsOf_1 ?_
    exact absurd h (by simp)
  · replace h := oc_s hN1 h
    have kb1 := hT.f k0 (k := 3) (t := 12) (n := 0) rfl hN1
    refine r_get (T := TX13) (v := .ref (ad b1)) hx hb hts in13 hown hK hP k0 (by decide) rfl 3 (by decide) (hts (.fieldLink RX13 431 "StoneWalkModel" "island" "LStoneWalkModel$Island;") (List.mem_of_getElem? (i := 1) (by decide +kernel))) rfl (t := 2) rfl (by show va_rf _ = _; rw [hN1]; rfl) dX13_oddsOf_1 ?_
    rcases hN2 : gR M b1 10 with _ | b2
    · exact absurd (oc_n hN2 h) (by simp)
    replace h := oc_s hN2 h
    have kb2 := hT.f kb1 (k := 10) (t := 15) (n := 4) rfl hN2
    refine r_getN (T := TX12) (v := .ref (ad b2)) hx hb hts in12 hown hK hP kb1 (by decide) rfl 10 (by decide) (hG.2.2.1 _ (List.mem_of_getElem? (i := 9) rfl)) rfl (t := 2) rfl (by show va_rf _ = _; rw [hN2]; rfl) dX13_oddsOf_4 ?_
    refine lv_iload_n hx hb dX13_oddsOf_7 rfl (lv_at hl 1 rfl) ?_
    obtain ⟨hn3, h⟩ := chk_some h
    refine r_iald hx hb hK hP kb2 hn3 dX13_oddsOf_8 ?_
    refine lv_i2l hx hb dX13_oddsOf_9 rfl ?_
    refine lv_lstore_n (lv' := [(3, .long ((gI M b2 (ix x1)).toInt64)), (0, .ref (ad a0)), (1, .int x1), (2, .int x2)]) hx hb dX13_oddsOf_10 rfl hl (by decide) rfl (fun ls hl => ?_)
    refine lv_iconst (v := 0) hx hb dX13_oddsOf_11 rfl ?_
    refine lv_istore (lv' := [(5, .int 0), (3, .long ((gI M b2 (ix x1)).toInt64)), (0, .ref (ad a0)), (1, .int x1), (2, .int x2)]) hx hb dX13_oddsOf_12 hl (by decide) rfl (fun ls hl => ?_)
    have L4 : ∀ n4 : Nat, ∀ (y4_0 : Nat) (y4_1 : Int32) (y4_2 : Int32) (y4_3 : Int64) (y4_5 : Int32) (ky4_0 : ok g y4_0 13 0) (H : Heap) (locs : List Loc), f_X13_oddsOf_L14 n4 M y4_0 y4_1 y4_2 y4_3 y4_5 = some Z → va_P D vwCl (wd ad cy g M) H → va_D A (wd ad cy g M) → WT g M → va_S A s.heap H locs → ∀ (ls : Array Slot), lv_has ls 6 [(0, .ref (ad y4_0)), (1, .int y4_1), (2, .int y4_2), (3, .long y4_3), (5, .int y4_5)] → W p l e ((headSpec wsX13_oddsOf ({ frames := 2, cells := 0, slots := 0, locals := 50 })).room) s m (([.ref (ad a0), .int x1, .int x2] : List Value).toArray) below meth c H locs 0 0 (MQ below (va_Ql (fun r u => r = Z ∧ u = M) (Wd D ad cy A g q) A) ([.ref (ad a0), .int x1, .int x2]).toArray s 0 0 A) (F0 m 14 ls []) := by
      intro n4
      induction n4 with
      | zero => intro y4_0 y4_1 y4_2 y4_3 y4_5 ky4_0 H locs h; exact absurd h (by simp [f_X13_oddsOf_L14])
      | succ n4 ih4 =>
        intro y4_0 y4_1 y4_2 y4_3 y4_5 ky4_0 H locs h hP hD hT hS ls hl
        rw [f_X13_oddsOf_L14] at h
        refine lv_iload hx hb dX13_oddsOf_14 (lv_at hl 4 rfl) ?_
        refine lv_aload_n hx hb dX13_oddsOf_16 rfl (lv_at hl 0 rfl) ?_
        rcases hN5 : gR M y4_0 3 with _ | b5
        · replace h := oc_n hN5 h
          refine r_get (T := TX13) (v := .null) hx hb hts in13 hown hK hP ky4_0 (by decide) rfl 3 (by decide) (hts (.fieldLink RX13 431 "StoneWalkModel" "island" "LStoneWalkModel$Island;") (List.mem_of_getElem? (i := 1) (by decide +kernel))) rfl (t := 2) rfl (by show va_rf _ = _; rw [hN5]; rfl) dX13_oddsOf_17 ?_
          exact absurd h (by simp)
        · replace h := oc_s hN5 h
          have kb5 := hT.f ky4_0 (k := 3) (t := 12) (n := 0) rfl hN5
          refine r_get (T := TX13) (v := .ref (ad b5)) hx hb hts in13 hown hK hP ky4_0 (by decide) rfl 3 (by decide) (hts (.fieldLink RX13 431 "StoneWalkModel" "island" "LStoneWalkModel$Island;") (List.mem_of_getElem? (i := 1) (by decide +kernel))) rfl (t := 2) rfl (by show va_rf _ = _; rw [hN5]; rfl) dX13_oddsOf_17 ?_
          refine r_getN (T := TX12) (v := .int (gI M b5 2)) hx hb hts in12 hown hK hP kb5 (by decide) rfl 2 (by decide) (hG.2.2.1 _ (List.mem_of_getElem? (i := 7) rfl)) rfl (t := 0) rfl rfl dX13_oddsOf_20 ?_
          refine lv_icmp_ge (tgt := 63) hx hb dX13_oddsOf_23 rfl (fun c6 => ?_) (fun c6 => ?_)
          · replace h := ite_t c6 h
            refine lv_iconst (v := 0) hx hb dX13_oddsOf_63 rfl ?_
            refine lv_istore (lv' := [(5, .int 0), (0, .ref (ad y4_0)), (1, .int y4_1), (2, .int y4_2), (3, .long y4_3)]) hx hb dX13_oddsOf_64 hl (by decide) rfl (fun ls hl => ?_)
            have L7 : ∀ n7 : Nat, ∀ (y7_0 : Nat) (y7_1 : Int32) (y7_2 : Int32) (y7_3 : Int64) (y7_5 : Int32) (ky7_0 : ok g y7_0 13 0) (H : Heap) (locs : List Loc), f_X13_oddsOf_L66 (fun M y4_0 y4_1 y4_2 y4_3 y4_5 => f_X13_oddsOf_L14 n4 M y4_0 y4_1 y4_2 y4_3 y4_5) n7 M y7_0 y7_1 y7_2 y7_3 y7_5 = some Z → va_P D vwCl (wd ad cy g M) H → va_D A (wd ad cy g M) → WT g M → va_S A s.heap H locs → ∀ (ls : Array Slot), lv_has ls 6 [(0, .ref (ad y7_0)), (1, .int y7_1), (2, .int y7_2), (3, .long y7_3), (5, .int y7_5)] → W p l e ((headSpec wsX13_oddsOf ({ frames := 2, cells := 0, slots := 0, locals := 50 })).room) s m (([.ref (ad a0), .int x1, .int x2] : List Value).toArray) below meth c H locs 0 0 (MQ below (va_Ql (fun r u => r = Z ∧ u = M) (Wd D ad cy A g q) A) ([.ref (ad a0), .int x1, .int x2]).toArray s 0 0 A) (F0 m 66 ls []) := by
              intro n7
              induction n7 with
              | zero => intro y7_0 y7_1 y7_2 y7_3 y7_5 ky7_0 H locs h; exact absurd h (by simp [f_X13_oddsOf_L66])
              | succ n7 ih7 =>
                intro y7_0 y7_1 y7_2 y7_3 y7_5 ky7_0 H locs h hP hD hT hS ls hl
                rw [f_X13_oddsOf_L66] at h
                refine lv_iload hx hb dX13_oddsOf_66 (lv_at hl 4 rfl) ?_
                refine lv_aload_n hx hb dX13_oddsOf_68 rfl (lv_at hl 0 rfl) ?_
                rcases hN8 : gR M y7_0 3 with _ | b8
                · replace h := oc_n hN8 h
                  refine r_get (T := TX13) (v := .null) hx hb hts in13 hown hK hP ky7_0 (by decide) rfl 3 (by decide) (hts (.fieldLink RX13 431 "StoneWalkModel" "island" "LStoneWalkModel$Island;") (List.mem_of_getElem? (i := 1) (by decide +kernel))) rfl (t := 2) rfl (by show va_rf _ = _; rw [hN8]; rfl) dX13_oddsOf_69 ?_
                  exact absurd h (by simp)
                · replace h := oc_s hN8 h
                  have kb8 := hT.f ky7_0 (k := 3) (t := 12) (n := 0) rfl hN8
                  refine r_get (T := TX13) (v := .ref (ad b8)) hx hb hts in13 hown hK hP ky7_0 (by decide) rfl 3 (by decide) (hts (.fieldLink RX13 431 "StoneWalkModel" "island" "LStoneWalkModel$Island;") (List.mem_of_getElem? (i := 1) (by decide +kernel))) rfl (t := 2) rfl (by show va_rf _ = _; rw [hN8]; rfl) dX13_oddsOf_69 ?_
                  refine r_getN (T := TX12) (v := .int (gI M b8 1)) hx hb hts in12 hown hK hP kb8 (by decide) rfl 1 (by decide) (hG.2.2.1 _ (List.mem_of_getElem? (i := 6) rfl)) rfl (t := 0) rfl rfl dX13_oddsOf_72 ?_
                  refine lv_icmp_ge (tgt := 95) hx hb dX13_oddsOf_75 rfl (fun c9 => ?_) (fun c9 => ?_)
                  · replace h := ite_t c9 h
                    refine lv_lload_n hx hb dX13_oddsOf_95 rfl (lv_at hl 3 rfl) ?_
                    refine lv_aload_n hx hb dX13_oddsOf_96 rfl (lv_at hl 0 rfl) ?_
                    refine lv_iload_n hx hb dX13_oddsOf_97 rfl (lv_at hl 1 rfl) ?_
                    refine lv_iload_n hx hb dX13_oddsOf_98 rfl (lv_at hl 2 rfl) ?_
                    obtain ⟨z10, h10, h⟩ := ob_some h
                    refine k_i (va_runV (As := [.int y7_1, .int y7_2]) (rest := [.long y7_3]) ⟨hx, hb, hml, hown, hts⟩ (c_X13_shapeOf (l := l) M y7_0 y7_1 y7_2 ky7_0 h10) (cwV 2 hts gX13_oddsOf_X13_shapeOf rfl rfl rfl hdV_X13_shapeOf ⟨Nat.le_of_ble_eq_true rfl, Nat.le_of_ble_eq_true rfl⟩) (pV (T := TX13) hP hK hD hT hG hS ky7_0 (by decide) rfl) rfl rfl hl.1 rfl (lv_room (Nat.le_of_ble_eq_true rfl)) dX13_oddsOf_99 ⟨Nat.zero_le _, Nat.zero_le _⟩) hS (fun H locs hP hD hT hS => ?_)
                    refine lv_i2l hx hb dX13_oddsOf_102 rfl ?_
                    refine lv_lmul hx hb dX13_oddsOf_103 ?_
                    refine lv_lstore_n (lv' := [(3, .long (y7_3 * z10.toInt64)), (0, .ref (ad y7_0)), (1, .int y7_1), (2, .int y7_2), (5, .int y7_5)]) hx hb dX13_oddsOf_104 rfl hl (by decide) rfl (fun ls hl => ?_)
                    refine lv_iconst (v := 0) hx hb dX13_oddsOf_105 rfl ?_
                    refine lv_istore (lv' := [(5, .int 0), (3, .long (y7_3 * z10.toInt64)), (0, .ref (ad y7_0)), (1, .int y7_1), (2, .int y7_2)]) hx hb dX13_oddsOf_106 hl (by decide) rfl (fun ls hl => ?_)
                    have L11 : ∀ n11 : Nat, ∀ (y11_0 : Nat) (y11_1 : Int32) (y11_3 : Int64) (y11_5 : Int32) (ky11_0 : ok g y11_0 13 0) (H : Heap) (locs : List Loc), f_X13_oddsOf_L108 (fun M y4_0 y4_1 y4_2 y4_3 y4_5 => f_X13_oddsOf_L14 n4 M y4_0 y4_1 y4_2 y4_3 y4_5) (fun M y7_0 y7_1 y7_2 y7_3 y7_5 => f_X13_oddsOf_L66 (fun M y4_0 y4_1 y4_2 y4_3 y4_5 => f_X13_oddsOf_L14 n4 M y4_0 y4_1 y4_2 y4_3 y4_5) n7 M y7_0 y7_1 y7_2 y7_3 y7_5) n11 M y11_0 y11_1 y11_3 y11_5 = some Z → va_P D vwCl (wd ad cy g M) H → va_D A (wd ad cy g M) → WT g M → va_S A s.heap H locs → ∀ (ls : Array Slot), lv_has ls 6 [(0, .ref (ad y11_0)), (1, .int y11_1), (3, .long y11_3), (5, .int y11_5)] → W p l e ((headSpec wsX13_oddsOf ({ frames := 2, cells := 0, slots := 0, locals := 50 })).room) s m (([.ref (ad a0), .int x1, .int x2] : List Value).toArray) below meth c H locs 0 0 (MQ below (va_Ql (fun r u => r = Z ∧ u = M) (Wd D ad cy A g q) A) ([.ref (ad a0), .int x1, .int x2]).toArray s 0 0 A) (F0 m 108 ls []) := by
                      intro n11
                      induction n11 with
                      | zero => intro y11_0 y11_1 y11_3 y11_5 ky11_0 H locs h; exact absurd h (by simp [f_X13_oddsOf_L108])
                      | succ n11 ih11 =>
                        intro y11_0 y11_1 y11_3 y11_5 ky11_0 H locs h hP hD hT hS ls hl
                        rw [f_X13_oddsOf_L108] at h
                        refine lv_iload hx hb dX13_oddsOf_108 (lv_at hl 3 rfl) ?_
                        refine lv_aload_n hx hb dX13_oddsOf_110 rfl (lv_at hl 0 rfl) ?_
                        rcases hN12 : gR M y11_0 3 with _ | b12
                        · replace h := oc_n hN12 h
                          refine r_get (T := TX13) (v := .null) hx hb hts in13 hown hK hP ky11_0 (by decide) rfl 3 (by decide) (hts (.fieldLink RX13 431 "StoneWalkModel" "island" "LStoneWalkModel$Island;") (List.mem_of_getElem? (i := 1) (by decide +kernel))) rfl (t := 2) rfl (by show va_rf _ = _; rw [hN12]; rfl) dX13_oddsOf_111 ?_
                          exact absurd h (by simp)
                        · replace h := oc_s hN12 h
                          have kb12 := hT.f ky11_0 (k := 3) (t := 12) (n := 0) rfl hN12
                          refine r_get (T := TX13) (v := .ref (ad b12)) hx hb hts in13 hown hK hP ky11_0 (by decide) rfl 3 (by decide) (hts (.fieldLink RX13 431 "StoneWalkModel" "island" "LStoneWalkModel$Island;") (List.mem_of_getElem? (i := 1) (by decide +kernel))) rfl (t := 2) rfl (by show va_rf _ = _; rw [hN12]; rfl) dX13_oddsOf_111 ?_
                          refine r_getN (T := TX12) (v := .int (gI M b12 6)) hx hb hts in12 hown hK hP kb12 (by decide) rfl 6 (by decide) (hG.2.2.1 _ (List.mem_of_getElem? (i := 41) rfl)) rfl (t := 0) rfl rfl dX13_oddsOf_114 ?_
                          refine lv_icmp_ge (tgt := 137) hx hb dX13_oddsOf_117 rfl (fun c13 => ?_) (fun c13 => ?_)
                          · replace h := ite_t c13 h
                            refine lv_lload_n hx hb dX13_oddsOf_137 rfl (lv_at hl 2 rfl) ?_
                            exact r_lret hx hb hr hlocks hP hK hD hT hG hS (Option.some.inj h) rfl dX13_oddsOf_138
                          · replace h := ite_f c13 h
                            refine lv_lload_n hx hb dX13_oddsOf_120 rfl (lv_at hl 2 rfl) ?_
                            refine lv_aload_n hx hb dX13_oddsOf_121 rfl (lv_at hl 0 rfl) ?_
                            refine lv_iload_n hx hb dX13_oddsOf_122 rfl (lv_at hl 1 rfl) ?_
                            refine lv_iload hx hb dX13_oddsOf_123 (lv_at hl 3 rfl) ?_
                            obtain ⟨z14, h14, h⟩ := ob_some h
                            refine k_i (va_runV (As := [.int y11_1, .int y11_5]) (rest := [.long y11_3]) ⟨hx, hb, hml, hown, hts⟩ (c_X13_toldOf (l := l) M y11_0 y11_1 y11_5 ky11_0 h14) (cwV 2 hts gX13_oddsOf_X13_toldOf rfl rfl rfl hdV_X13_toldOf ⟨Nat.le_of_ble_eq_true rfl, Nat.le_of_ble_eq_true rfl⟩) (pV (T := TX13) hP hK hD hT hG hS ky11_0 (by decide) rfl) rfl rfl hl.1 rfl (lv_room (Nat.le_of_ble_eq_true rfl)) dX13_oddsOf_125 ⟨Nat.zero_le _, Nat.zero_le _⟩) hS (fun H locs hP hD hT hS => ?_)
                            refine lv_i2l hx hb dX13_oddsOf_128 rfl ?_
                            refine lv_lmul hx hb dX13_oddsOf_129 ?_
                            refine lv_lstore_n (lv' := [(3, .long (y11_3 * z14.toInt64)), (0, .ref (ad y11_0)), (1, .int y11_1), (5, .int y11_5)]) hx hb dX13_oddsOf_130 rfl hl (by decide) rfl (fun ls hl => ?_)
                            refine lv_iinc (v := y11_5 + 1) (lv' := [(5, .int (y11_5 + 1)), (3, .long (y11_3 * z14.toInt64)), (0, .ref (ad y11_0)), (1, .int y11_1)]) hx hb dX13_oddsOf_131 hl (k := 3) rfl rfl (by decide) rfl (fun ls hl => ?_)
                            refine lv_goto (tgt := 108) hx hb dX13_oddsOf_134 rfl ?_
                            exact ih11 y11_0 y11_1 (y11_3 * z14.toInt64) (y11_5 + 1) ky11_0 _ _ h hP hD hT hS ls (lv_sub hl [2, 3, 1, 0] rfl)
                    exact L11 FU y7_0 y7_1 (y7_3 * z10.toInt64) 0 ky7_0 _ _ h hP hD hT hS ls (lv_sub hl [2, 3, 1, 0] rfl)
                  · replace h := ite_f c9 h
                    refine lv_lload_n hx hb dX13_oddsOf_78 rfl (lv_at hl 3 rfl) ?_
                    refine lv_aload_n hx hb dX13_oddsOf_79 rfl (lv_at hl 0 rfl) ?_
                    refine lv_iload_n hx hb dX13_oddsOf_80 rfl (lv_at hl 1 rfl) ?_
                    refine lv_iload hx hb dX13_oddsOf_81 (lv_at hl 4 rfl) ?_
                    obtain ⟨z15, h15, h⟩ := ob_some h
                    refine k_i (va_runV (As := [.int y7_1, .int y7_5]) (rest := [.long y7_3]) ⟨hx, hb, hml, hown, hts⟩ (c_X13_hollowOf (l := l) M y7_0 y7_1 y7_5 ky7_0 h15) (cwV 2 hts gX13_oddsOf_X13_hollowOf rfl rfl rfl hdV_X13_hollowOf ⟨Nat.le_of_ble_eq_true rfl, Nat.le_of_ble_eq_true rfl⟩) (pV (T := TX13) hP hK hD hT hG hS ky7_0 (by decide) rfl) rfl rfl hl.1 rfl (lv_room (Nat.le_of_ble_eq_true rfl)) dX13_oddsOf_83 ⟨Nat.zero_le _, Nat.zero_le _⟩) hS (fun H locs hP hD hT hS => ?_)
                    refine lv_i2l hx hb dX13_oddsOf_86 rfl ?_
                    refine lv_lmul hx hb dX13_oddsOf_87 ?_
                    refine lv_lstore_n (lv' := [(3, .long (y7_3 * z15.toInt64)), (0, .ref (ad y7_0)), (1, .int y7_1), (2, .int y7_2), (5, .int y7_5)]) hx hb dX13_oddsOf_88 rfl hl (by decide) rfl (fun ls hl => ?_)
                    refine lv_iinc (v := y7_5 + 1) (lv' := [(5, .int (y7_5 + 1)), (3, .long (y7_3 * z15.toInt64)), (0, .ref (ad y7_0)), (1, .int y7_1), (2, .int y7_2)]) hx hb dX13_oddsOf_89 hl (k := 4) rfl rfl (by decide) rfl (fun ls hl => ?_)
                    refine lv_goto (tgt := 66) hx hb dX13_oddsOf_92 rfl ?_
                    exact ih7 y7_0 y7_1 y7_2 (y7_3 * z15.toInt64) (y7_5 + 1) ky7_0 _ _ h hP hD hT hS ls (lv_sub hl [2, 3, 4, 1, 0] rfl)
            exact L7 FU y4_0 y4_1 y4_2 y4_3 0 ky4_0 _ _ h hP hD hT hS ls (lv_sub hl [1, 2, 3, 4, 0] rfl)
          · replace h := ite_f c6 h
            refine lv_aload_n hx hb dX13_oddsOf_26 rfl (lv_at hl 0 rfl) ?_
            rcases hN16 : gR M y4_0 3 with _ | b16
            · replace h := oc_n hN16 h
              refine r_get (T := TX13) (v := .null) hx hb hts in13 hown hK hP ky4_0 (by decide) rfl 3 (by decide) (hts (.fieldLink RX13 431 "StoneWalkModel" "island" "LStoneWalkModel$Island;") (List.mem_of_getElem? (i := 1) (by decide +kernel))) rfl (t := 2) rfl (by show va_rf _ = _; rw [hN16]; rfl) dX13_oddsOf_27 ?_
              exact absurd h (by simp)
            · replace h := oc_s hN16 h
              have kb16 := hT.f ky4_0 (k := 3) (t := 12) (n := 0) rfl hN16
              refine r_get (T := TX13) (v := .ref (ad b16)) hx hb hts in13 hown hK hP ky4_0 (by decide) rfl 3 (by decide) (hts (.fieldLink RX13 431 "StoneWalkModel" "island" "LStoneWalkModel$Island;") (List.mem_of_getElem? (i := 1) (by decide +kernel))) rfl (t := 2) rfl (by show va_rf _ = _; rw [hN16]; rfl) dX13_oddsOf_27 ?_
              rcases hN17 : gR M b16 18 with _ | b17
              · exact absurd (oc_n hN17 h) (by simp)
              replace h := oc_s hN17 h
              have kb17 := hT.f kb16 (k := 18) (t := 15) (n := 10) rfl hN17
              refine r_getN (T := TX12) (v := .ref (ad b17)) hx hb hts in12 hown hK hP kb16 (by decide) rfl 18 (by decide) (hG.2.2.1 _ (List.mem_of_getElem? (i := 18) rfl)) rfl (t := 2) rfl (by show va_rf _ = _; rw [hN17]; rfl) dX13_oddsOf_30 ?_
              refine lv_iload hx hb dX13_oddsOf_33 (lv_at hl 4 rfl) ?_
              obtain ⟨hn18, h⟩ := chk_some h
              refine r_iald hx hb hK hP kb17 hn18 dX13_oddsOf_35 ?_
              refine lv_iconst (v := 5) hx hb dX13_oddsOf_36 rfl ?_
              refine lv_icmp_ne (tgt := 57) hx hb dX13_oddsOf_37 rfl (fun c19 => ?_) (fun c19 => ?_)
              · replace h := ite_f c19 h
                refine lv_iinc (v := y4_5 + 1) (lv' := [(5, .int (y4_5 + 1)), (0, .ref (ad y4_0)), (1, .int y4_1), (2, .int y4_2), (3, .long y4_3)]) hx hb dX13_oddsOf_57 hl (k := 4) rfl rfl (by decide) rfl (fun ls hl => ?_)
                refine lv_goto (tgt := 14) hx hb dX13_oddsOf_60 rfl ?_
                exact ih4 y4_0 y4_1 y4_2 y4_3 (y4_5 + 1) ky4_0 _ _ h hP hD hT hS ls (lv_sub hl [1, 2, 3, 4, 0] rfl)
              · replace h := ite_t c19 h
                refine lv_iload hx hb dX13_oddsOf_40 (lv_at hl 4 rfl) ?_
                refine lv_iload_n hx hb dX13_oddsOf_42 rfl (lv_at hl 2 rfl) ?_
                refine lv_icmp_eq (tgt := 57) hx hb dX13_oddsOf_43 rfl (fun c20 => ?_) (fun c20 => ?_)
                · replace h := ite_t c20 h
                  refine lv_iinc (v := y4_5 + 1) (lv' := [(5, .int (y4_5 + 1)), (0, .ref (ad y4_0)), (1, .int y4_1), (2, .int y4_2), (3, .long y4_3)]) hx hb dX13_oddsOf_57 hl (k := 4) rfl rfl (by decide) rfl (fun ls hl => ?_)
                  refine lv_goto (tgt := 14) hx hb dX13_oddsOf_60 rfl ?_
                  exact ih4 y4_0 y4_1 y4_2 y4_3 (y4_5 + 1) ky4_0 _ _ h hP hD hT hS ls (lv_sub hl [1, 2, 3, 4, 0] rfl)
                · replace h := ite_f c20 h
                  refine lv_lload_n hx hb dX13_oddsOf_46 rfl (lv_at hl 3 rfl) ?_
                  refine lv_aload_n hx hb dX13_oddsOf_47 rfl (lv_at hl 0 rfl) ?_
                  refine lv_iload_n hx hb dX13_oddsOf_48 rfl (lv_at hl 1 rfl) ?_
                  refine lv_iload hx hb dX13_oddsOf_49 (lv_at hl 4 rfl) ?_
                  obtain ⟨z21, h21, h⟩ := ob_some h
                  refine k_i (va_runV (As := [.int y4_1, .int y4_5]) (rest := [.long y4_3]) ⟨hx, hb, hml, hown, hts⟩ (c_X13_liesBy (l := l) M y4_0 y4_1 y4_5 ky4_0 h21) (cwV 2 hts gX13_oddsOf_X13_liesBy rfl rfl rfl hdV_X13_liesBy ⟨Nat.le_of_ble_eq_true rfl, Nat.le_of_ble_eq_true rfl⟩) (pV (T := TX13) hP hK hD hT hG hS ky4_0 (by decide) rfl) rfl rfl hl.1 rfl (lv_room (Nat.le_of_ble_eq_true rfl)) dX13_oddsOf_51 ⟨Nat.zero_le _, Nat.zero_le _⟩) hS (fun H locs hP hD hT hS => ?_)
                  refine lv_i2l hx hb dX13_oddsOf_54 rfl ?_
                  refine lv_lmul hx hb dX13_oddsOf_55 ?_
                  refine lv_lstore_n (lv' := [(3, .long (y4_3 * z21.toInt64)), (0, .ref (ad y4_0)), (1, .int y4_1), (2, .int y4_2), (5, .int y4_5)]) hx hb dX13_oddsOf_56 rfl hl (by decide) rfl (fun ls hl => ?_)
                  refine lv_iinc (v := y4_5 + 1) (lv' := [(5, .int (y4_5 + 1)), (3, .long (y4_3 * z21.toInt64)), (0, .ref (ad y4_0)), (1, .int y4_1), (2, .int y4_2)]) hx hb dX13_oddsOf_57 hl (k := 4) rfl rfl (by decide) rfl (fun ls hl => ?_)
                  refine lv_goto (tgt := 14) hx hb dX13_oddsOf_60 rfl ?_
                  exact ih4 y4_0 y4_1 y4_2 (y4_3 * z21.toInt64) (y4_5 + 1) ky4_0 _ _ h hP hD hT hS ls (lv_sub hl [2, 3, 4, 1, 0] rfl)
    exact L4 FU a0 x1 x2 ((gI M b2 (ix x1)).toInt64) 0 k0 _ _ h hP hD hT hS ls (lv_sub hl [2, 3, 4, 1, 0] rfl)
set_option maxHeartbeats 4000000 in
set_option maxRecDepth 100000 in
theorem c_X13_odds {l : Launch} {D : va_G} {ad : Nat → Nat} {cy : Nat → ClassId} {A : Nat → Prop} {g : CG} {q : SE} (M : MM) (a0 : Nat) (x1 : Int32) (k0 : ok g a0 13 0) {Z : (Int64 × MM)} (h : f_X13_odds M a0 x1 = some Z) : Met l yX13_odds wsX13_odds ({ frames := 3, cells := 0, slots := 0, locals := 75 }) (va_Pc [.ref (ad a0), .int x1] (Wd D ad cy A g q M)) (va_Ql (fun r u => r = Z.1 ∧ u = Z.2) (Wd D ad cy A g q) A) 0 0 A := by
  refine Met.ofW (cc := cX13_odds) (maxL := 5) (ret := (some .long)) (by decide) rfl ?_
  intro p e s m args below meth c s₁ B hml hv
  obtain ⟨rfl, hP, hK, hD, hT, hG⟩ := hv
  have hx := B.exec
  have hb := B.bytes
  have hr := B.returns
  have hts := atoms_spec (ws := wsX13_odds) B.pre
  have hown : s.vm.findClass RX13 = some m.cls := findClass_of_methodNamed B.named
  have hlocks := B.notSynchronized
  have in12 : ∀ w ∈ u_ws RX12 TX12 48, w ∈ wsX13_odds := fun w h => List.mem_cons_of_mem _ (List.mem_append_right _ h)
  have in13 : ∀ w ∈ u_ws RX13 TX13 29, w ∈ wsX13_odds := fun w h => List.mem_cons_of_mem _ (List.mem_append_left _ (List.mem_append_right _ h))
  have hS : va_S A s.heap s.heap [] := va_S.rf
  have hl := lv_entry ([.ref (ad a0), .int x1]) (n := 5) (Nat.le_of_ble_eq_true rfl)
  rw [lg_entry_eq]
  generalize (lg_sl ([.ref (ad a0), .int x1]) ++ List.replicate (5 - (lg_sl ([.ref (ad a0), .int x1])).length) Slot.unset).toArray = ls at hl ⊢
  have hl : lv_has ls 5 [(0, .ref (ad a0)), (1, .int x1)] := hl
  unfold f_X13_odds at h
  refine lv_aload_n hx hb dX13_odds_0 rfl (lv_at hl 0 rfl) ?_
  refine lv_iconst (v := 0) hx hb dX13_odds_1 rfl ?_
  refine r_putI (T := TX13) (ty := .int) (v := 0) hx hb hts in13 tyX13 tyX13_ok nmX13 hown hK hP hD hT hS k0 (by decide) rfl 0 (by decide) (hts (.fieldLink RX13 30 "StoneWalkModel" "thrown" "I") (List.mem_of_getElem? (i := 1) (by decide +kernel))) rfl rfl (tyX13_ok 0 (by decide)) rfl rfl rfl dX13_odds_2 (fun H locs hP hD hT hS => ?_)
  refine lv_aload_n hx hb dX13_odds_5 rfl (lv_at hl 0 rfl) ?_
  rcases hN1 : gR (pI M a0 0 0) a0 3 with _ | b1
  · replace h := oc_n hN1 h
    refine r_get (T := TX13) (v := .null) hx hb hts in13 hown hK hP k0 (by decide) rfl 3 (by decide) (hts (.fieldLink RX13 431 "StoneWalkModel" "island" "LStoneWalkModel$Island;") (List.mem_of_getElem? (i := 2) (by decide +kernel))) rfl (t := 2) rfl (by show va_rf _ = _; rw [hN1]; rfl) dX13_odds_6 ?_
    refine lv_ifnullN (tgt := 25) hx hb dX13_odds_9 rfl ?_
    refine lv_aload_n hx hb dX13_odds_25 rfl (lv_at hl 0 rfl) ?_
    refine lv_iconst (v := 1) hx hb dX13_odds_26 rfl ?_
    obtain ⟨z2, h2, h⟩ := ob_some h
    refine k_i (va_runV (As := [.int 1]) (rest := []) ⟨hx, hb, hml, hown, hts⟩ (c_X13_refused (l := l) (pI M a0 0 0) a0 1 k0 h2) (cwV 1 hts gX13_odds_X13_refused rfl rfl rfl hdV_X13_refused ⟨Nat.le_of_ble_eq_true rfl, Nat.le_of_ble_eq_true rfl⟩) (pV (T := TX13) hP hK hD hT hG hS k0 (by decide) rfl) rfl rfl hl.1 rfl (lv_room (Nat.le_of_ble_eq_true rfl)) dX13_odds_27 ⟨Nat.zero_le _, Nat.zero_le _⟩) hS (fun H locs hP hD hT hS => ?_)
    refine lv_i2l hx hb dX13_odds_30 rfl ?_
    have hZ := Option.some.inj h
    exact r_lret hx hb hr hlocks hP hK hD hT hG hS (congrArg Prod.fst hZ) (congrArg Prod.snd hZ) dX13_odds_31
  · replace h := oc_s hN1 h
    have kb1 := hT.f k0 (k := 3) (t := 12) (n := 0) rfl hN1
    refine r_get (T := TX13) (v := .ref (ad b1)) hx hb hts in13 hown hK hP k0 (by decide) rfl 3 (by decide) (hts (.fieldLink RX13 431 "StoneWalkModel" "island" "LStoneWalkModel$Island;") (List.mem_of_getElem? (i := 2) (by decide +kernel))) rfl (t := 2) rfl (by show va_rf _ = _; rw [hN1]; rfl) dX13_odds_6 ?_
    refine lv_ifnull hx hb dX13_odds_9 ?_
    refine lv_iload_n hx hb dX13_odds_12 rfl (lv_at hl 1 rfl) ?_
    refine lv_iconst (v := (-1)) hx hb dX13_odds_13 rfl ?_
    refine lv_icmp_eq (tgt := 32) hx hb dX13_odds_14 rfl (fun c3 => ?_) (fun c3 => ?_)
    · replace h := ite_t c3 h
      refine lv_aload_n hx hb dX13_odds_32 rfl (lv_at hl 0 rfl) ?_
      refine lv_iconst (v := 0) hx hb dX13_odds_33 rfl ?_
      obtain ⟨z4, h4, h⟩ := ob_some h
      refine k_i (va_runV (As := [.int 0]) (rest := []) ⟨hx, hb, hml, hown, hts⟩ (c_X13_done (l := l) (pI M a0 0 0) a0 0 k0 h4) (cwV 1 hts gX13_odds_X13_done rfl rfl rfl hdV_X13_done ⟨Nat.le_of_ble_eq_true rfl, Nat.le_of_ble_eq_true rfl⟩) (pV (T := TX13) hP hK hD hT hG hS k0 (by decide) rfl) rfl rfl hl.1 rfl (lv_room (Nat.le_of_ble_eq_true rfl)) dX13_odds_34 ⟨Nat.zero_le _, Nat.zero_le _⟩) hS (fun H locs hP hD hT hS => ?_)
      refine lv_pop hx hb dX13_odds_37 rfl ?_
      refine lv_iload_n hx hb dX13_odds_38 rfl (lv_at hl 1 rfl) ?_
      refine lv_iconst (v := (-1)) hx hb dX13_odds_39 rfl ?_
      refine lv_icmp_eq (tgt := 50) hx hb dX13_odds_40 rfl (fun c5 => ?_) (fun c5 => ?_)
      · replace h := ite_t c5 h
        refine lv_lconst (v := 0) hx hb dX13_odds_50 rfl ?_
        refine lv_lstore_n (lv' := [(2, .long 0), (0, .ref (ad a0)), (1, .int x1)]) hx hb dX13_odds_51 rfl hl (by decide) rfl (fun ls hl => ?_)
        refine lv_iconst (v := 0) hx hb dX13_odds_52 rfl ?_
        refine lv_istore (lv' := [(4, .int 0), (2, .long 0), (0, .ref (ad a0)), (1, .int x1)]) hx hb dX13_odds_53 hl (by decide) rfl (fun ls hl => ?_)
        have L6 : ∀ n6 : Nat, ∀ (M6 : MM) (y6_0 : Nat) (y6_2 : Int64) (y6_4 : Int32) (ky6_0 : ok g y6_0 13 0) (H : Heap) (locs : List Loc), f_X13_odds_L55 n6 M6 y6_0 y6_2 y6_4 = some Z → va_P D vwCl (wd ad cy g M6) H → va_D A (wd ad cy g M6) → WT g M6 → va_S A s.heap H locs → ∀ (ls : Array Slot), lv_has ls 5 [(0, .ref (ad y6_0)), (2, .long y6_2), (4, .int y6_4)] → W p l e ((headSpec wsX13_odds ({ frames := 3, cells := 0, slots := 0, locals := 75 })).room) s m (([.ref (ad a0), .int x1] : List Value).toArray) below meth c H locs 0 0 (MQ below (va_Ql (fun r u => r = Z.1 ∧ u = Z.2) (Wd D ad cy A g q) A) ([.ref (ad a0), .int x1]).toArray s 0 0 A) (F0 m 55 ls []) := by
          intro n6
          induction n6 with
          | zero => intro M6 y6_0 y6_2 y6_4 ky6_0 H locs h; exact absurd h (by simp [f_X13_odds_L55])
          | succ n6 ih6 =>
            intro M6 y6_0 y6_2 y6_4 ky6_0 H locs h hP hD hT hS ls hl
            rw [f_X13_odds_L55] at h
            refine lv_iload hx hb dX13_odds_55 (lv_at hl 2 rfl) ?_
            refine lv_aload_n hx hb dX13_odds_57 rfl (lv_at hl 0 rfl) ?_
            rcases hN7 : gR M6 y6_0 3 with _ | b7
            · replace h := oc_n hN7 h
              refine r_get (T := TX13) (v := .null) hx hb hts in13 hown hK hP ky6_0 (by decide) rfl 3 (by decide) (hts (.fieldLink RX13 431 "StoneWalkModel" "island" "LStoneWalkModel$Island;") (List.mem_of_getElem? (i := 2) (by decide +kernel))) rfl (t := 2) rfl (by show va_rf _ = _; rw [hN7]; rfl) dX13_odds_58 ?_
              exact absurd h (by simp)
            · replace h := oc_s hN7 h
              have kb7 := hT.f ky6_0 (k := 3) (t := 12) (n := 0) rfl hN7
              refine r_get (T := TX13) (v := .ref (ad b7)) hx hb hts in13 hown hK hP ky6_0 (by decide) rfl 3 (by decide) (hts (.fieldLink RX13 431 "StoneWalkModel" "island" "LStoneWalkModel$Island;") (List.mem_of_getElem? (i := 2) (by decide +kernel))) rfl (t := 2) rfl (by show va_rf _ = _; rw [hN7]; rfl) dX13_odds_58 ?_
              refine r_getN (T := TX12) (v := .int (gI M6 b7 0)) hx hb hts in12 hown hK hP kb7 (by decide) rfl 0 (by decide) (hG.2.2.1 _ (List.mem_of_getElem? (i := 5) rfl)) rfl (t := 0) rfl rfl dX13_odds_61 ?_
              refine lv_icmp_ge (tgt := 83) hx hb dX13_odds_64 rfl (fun c8 => ?_) (fun c8 => ?_)
              · replace h := ite_t c8 h
                refine lv_lload_n hx hb dX13_odds_83 rfl (lv_at hl 1 rfl) ?_
                have hZ := Option.some.inj h
                exact r_lret hx hb hr hlocks hP hK hD hT hG hS (congrArg Prod.fst hZ) (congrArg Prod.snd hZ) dX13_odds_84
              · replace h := ite_f c8 h
                refine lv_lload_n hx hb dX13_odds_67 rfl (lv_at hl 1 rfl) ?_
                refine lv_aload_n hx hb dX13_odds_68 rfl (lv_at hl 0 rfl) ?_
                refine lv_iload hx hb dX13_odds_69 (lv_at hl 2 rfl) ?_
                refine lv_iconst (v := (-1)) hx hb dX13_odds_71 rfl ?_
                obtain ⟨z9, h9, h⟩ := ob_some h
                refine k_l (va_runV (As := [.int y6_4, .int (-1)]) (rest := [.long y6_2]) ⟨hx, hb, hml, hown, hts⟩ (c_X13_oddsOf (l := l) M6 y6_0 y6_4 (-1) ky6_0 h9) (cwV 2 hts gX13_odds_X13_oddsOf rfl rfl rfl hdV_X13_oddsOf ⟨Nat.le_of_ble_eq_true rfl, Nat.le_of_ble_eq_true rfl⟩) (pV (T := TX13) hP hK hD hT hG hS ky6_0 (by decide) rfl) rfl rfl hl.1 rfl (lv_room (Nat.le_of_ble_eq_true rfl)) dX13_odds_72 ⟨Nat.zero_le _, Nat.zero_le _⟩) hS (fun H locs hP hD hT hS => ?_)
                refine lv_ladd hx hb dX13_odds_75 ?_
                refine lv_lstore_n (lv' := [(2, .long (y6_2 + z9)), (0, .ref (ad y6_0)), (4, .int y6_4)]) hx hb dX13_odds_76 rfl hl (by decide) rfl (fun ls hl => ?_)
                refine lv_iinc (v := y6_4 + 1) (lv' := [(4, .int (y6_4 + 1)), (2, .long (y6_2 + z9)), (0, .ref (ad y6_0))]) hx hb dX13_odds_77 hl (k := 2) rfl rfl (by decide) rfl (fun ls hl => ?_)
                refine lv_goto (tgt := 55) hx hb dX13_odds_80 rfl ?_
                exact ih6 M6 y6_0 (y6_2 + z9) (y6_4 + 1) ky6_0 _ _ h hP hD hT hS ls (lv_sub hl [2, 1, 0] rfl)
        exact L6 FU z4.2 a0 0 0 k0 _ _ h hP hD hT hS ls (lv_sub hl [2, 1, 0] rfl)
      · replace h := ite_f c5 h
        refine lv_aload_n hx hb dX13_odds_43 rfl (lv_at hl 0 rfl) ?_
        refine lv_iload_n hx hb dX13_odds_44 rfl (lv_at hl 1 rfl) ?_
        refine lv_iconst (v := (-1)) hx hb dX13_odds_45 rfl ?_
        obtain ⟨z10, h10, h⟩ := ob_some h
        refine k_l (va_runV (As := [.int x1, .int (-1)]) (rest := []) ⟨hx, hb, hml, hown, hts⟩ (c_X13_oddsOf (l := l) z4.2 a0 x1 (-1) k0 h10) (cwV 2 hts gX13_odds_X13_oddsOf rfl rfl rfl hdV_X13_oddsOf ⟨Nat.le_of_ble_eq_true rfl, Nat.le_of_ble_eq_true rfl⟩) (pV (T := TX13) hP hK hD hT hG hS k0 (by decide) rfl) rfl rfl hl.1 rfl (lv_room (Nat.le_of_ble_eq_true rfl)) dX13_odds_46 ⟨Nat.zero_le _, Nat.zero_le _⟩) hS (fun H locs hP hD hT hS => ?_)
        have hZ := Option.some.inj h
        exact r_lret hx hb hr hlocks hP hK hD hT hG hS (congrArg Prod.fst hZ) (congrArg Prod.snd hZ) dX13_odds_49
    · replace h := ite_f c3 h
      refine lv_aload_n hx hb dX13_odds_17 rfl (lv_at hl 0 rfl) ?_
      refine lv_iload_n hx hb dX13_odds_18 rfl (lv_at hl 1 rfl) ?_
      obtain ⟨z11, h11, h⟩ := ob_some h
      refine k_z (va_runV (As := [.int x1]) (rest := []) ⟨hx, hb, hml, hown, hts⟩ (c_X13_isWay (l := l) (pI M a0 0 0) a0 x1 k0 h11) (cwV 1 hts gX13_odds_X13_isWay rfl rfl rfl hdV_X13_isWay ⟨Nat.le_of_ble_eq_true rfl, Nat.le_of_ble_eq_true rfl⟩) (pV (T := TX13) hP hK hD hT hG hS k0 (by decide) rfl) rfl rfl hl.1 rfl (lv_room (Nat.le_of_ble_eq_true rfl)) dX13_odds_19 ⟨Nat.zero_le _, Nat.zero_le _⟩) hS (fun H locs hz11 hP hD hT hS => ?_)
      refine lv_if_ne (tgt := 32) hx hb dX13_odds_22 rfl (fun c12 => ?_) (fun c12 => ?_)
      · replace h := ite_f c12 h
        refine lv_aload_n hx hb dX13_odds_32 rfl (lv_at hl 0 rfl) ?_
        refine lv_iconst (v := 0) hx hb dX13_odds_33 rfl ?_
        obtain ⟨z13, h13, h⟩ := ob_some h
        refine k_i (va_runV (As := [.int 0]) (rest := []) ⟨hx, hb, hml, hown, hts⟩ (c_X13_done (l := l) (pI M a0 0 0) a0 0 k0 h13) (cwV 1 hts gX13_odds_X13_done rfl rfl rfl hdV_X13_done ⟨Nat.le_of_ble_eq_true rfl, Nat.le_of_ble_eq_true rfl⟩) (pV (T := TX13) hP hK hD hT hG hS k0 (by decide) rfl) rfl rfl hl.1 rfl (lv_room (Nat.le_of_ble_eq_true rfl)) dX13_odds_34 ⟨Nat.zero_le _, Nat.zero_le _⟩) hS (fun H locs hP hD hT hS => ?_)
        refine lv_pop hx hb dX13_odds_37 rfl ?_
        refine lv_iload_n hx hb dX13_odds_38 rfl (lv_at hl 1 rfl) ?_
        refine lv_iconst (v := (-1)) hx hb dX13_odds_39 rfl ?_
        refine lv_icmp_eq (tgt := 50) hx hb dX13_odds_40 rfl (fun c14 => ?_) (fun c14 => ?_)
        · replace h := ite_t c14 h
          refine lv_lconst (v := 0) hx hb dX13_odds_50 rfl ?_
          refine lv_lstore_n (lv' := [(2, .long 0), (0, .ref (ad a0)), (1, .int x1)]) hx hb dX13_odds_51 rfl hl (by decide) rfl (fun ls hl => ?_)
          refine lv_iconst (v := 0) hx hb dX13_odds_52 rfl ?_
          refine lv_istore (lv' := [(4, .int 0), (2, .long 0), (0, .ref (ad a0)), (1, .int x1)]) hx hb dX13_odds_53 hl (by decide) rfl (fun ls hl => ?_)
          have L15 : ∀ n15 : Nat, ∀ (M15 : MM) (y15_0 : Nat) (y15_2 : Int64) (y15_4 : Int32) (ky15_0 : ok g y15_0 13 0) (H : Heap) (locs : List Loc), f_X13_odds_L55_1 n15 M15 y15_0 y15_2 y15_4 = some Z → va_P D vwCl (wd ad cy g M15) H → va_D A (wd ad cy g M15) → WT g M15 → va_S A s.heap H locs → ∀ (ls : Array Slot), lv_has ls 5 [(0, .ref (ad y15_0)), (2, .long y15_2), (4, .int y15_4)] → W p l e ((headSpec wsX13_odds ({ frames := 3, cells := 0, slots := 0, locals := 75 })).room) s m (([.ref (ad a0), .int x1] : List Value).toArray) below meth c H locs 0 0 (MQ below (va_Ql (fun r u => r = Z.1 ∧ u = Z.2) (Wd D ad cy A g q) A) ([.ref (ad a0), .int x1]).toArray s 0 0 A) (F0 m 55 ls []) := by
            intro n15
            induction n15 with
            | zero => intro M15 y15_0 y15_2 y15_4 ky15_0 H locs h; exact absurd h (by simp [f_X13_odds_L55_1])
            | succ n15 ih15 =>
              intro M15 y15_0 y15_2 y15_4 ky15_0 H locs h hP hD hT hS ls hl
              rw [f_X13_odds_L55_1] at h
              refine lv_iload hx hb dX13_odds_55 (lv_at hl 2 rfl) ?_
              refine lv_aload_n hx hb dX13_odds_57 rfl (lv_at hl 0 rfl) ?_
              rcases hN16 : gR M15 y15_0 3 with _ | b16
              · replace h := oc_n hN16 h
                refine r_get (T := TX13) (v := .null) hx hb hts in13 hown hK hP ky15_0 (by decide) rfl 3 (by decide) (hts (.fieldLink RX13 431 "StoneWalkModel" "island" "LStoneWalkModel$Island;") (List.mem_of_getElem? (i := 2) (by decide +kernel))) rfl (t := 2) rfl (by show va_rf _ = _; rw [hN16]; rfl) dX13_odds_58 ?_
                exact absurd h (by simp)
              · replace h := oc_s hN16 h
                have kb16 := hT.f ky15_0 (k := 3) (t := 12) (n := 0) rfl hN16
                refine r_get (T := TX13) (v := .ref (ad b16)) hx hb hts in13 hown hK hP ky15_0 (by decide) rfl 3 (by decide) (hts (.fieldLink RX13 431 "StoneWalkModel" "island" "LStoneWalkModel$Island;") (List.mem_of_getElem? (i := 2) (by decide +kernel))) rfl (t := 2) rfl (by show va_rf _ = _; rw [hN16]; rfl) dX13_odds_58 ?_
                refine r_getN (T := TX12) (v := .int (gI M15 b16 0)) hx hb hts in12 hown hK hP kb16 (by decide) rfl 0 (by decide) (hG.2.2.1 _ (List.mem_of_getElem? (i := 5) rfl)) rfl (t := 0) rfl rfl dX13_odds_61 ?_
                refine lv_icmp_ge (tgt := 83) hx hb dX13_odds_64 rfl (fun c17 => ?_) (fun c17 => ?_)
                · replace h := ite_t c17 h
                  refine lv_lload_n hx hb dX13_odds_83 rfl (lv_at hl 1 rfl) ?_
                  have hZ := Option.some.inj h
                  exact r_lret hx hb hr hlocks hP hK hD hT hG hS (congrArg Prod.fst hZ) (congrArg Prod.snd hZ) dX13_odds_84
                · replace h := ite_f c17 h
                  refine lv_lload_n hx hb dX13_odds_67 rfl (lv_at hl 1 rfl) ?_
                  refine lv_aload_n hx hb dX13_odds_68 rfl (lv_at hl 0 rfl) ?_
                  refine lv_iload hx hb dX13_odds_69 (lv_at hl 2 rfl) ?_
                  refine lv_iconst (v := (-1)) hx hb dX13_odds_71 rfl ?_
                  obtain ⟨z18, h18, h⟩ := ob_some h
                  refine k_l (va_runV (As := [.int y15_4, .int (-1)]) (rest := [.long y15_2]) ⟨hx, hb, hml, hown, hts⟩ (c_X13_oddsOf (l := l) M15 y15_0 y15_4 (-1) ky15_0 h18) (cwV 2 hts gX13_odds_X13_oddsOf rfl rfl rfl hdV_X13_oddsOf ⟨Nat.le_of_ble_eq_true rfl, Nat.le_of_ble_eq_true rfl⟩) (pV (T := TX13) hP hK hD hT hG hS ky15_0 (by decide) rfl) rfl rfl hl.1 rfl (lv_room (Nat.le_of_ble_eq_true rfl)) dX13_odds_72 ⟨Nat.zero_le _, Nat.zero_le _⟩) hS (fun H locs hP hD hT hS => ?_)
                  refine lv_ladd hx hb dX13_odds_75 ?_
                  refine lv_lstore_n (lv' := [(2, .long (y15_2 + z18)), (0, .ref (ad y15_0)), (4, .int y15_4)]) hx hb dX13_odds_76 rfl hl (by decide) rfl (fun ls hl => ?_)
                  refine lv_iinc (v := y15_4 + 1) (lv' := [(4, .int (y15_4 + 1)), (2, .long (y15_2 + z18)), (0, .ref (ad y15_0))]) hx hb dX13_odds_77 hl (k := 2) rfl rfl (by decide) rfl (fun ls hl => ?_)
                  refine lv_goto (tgt := 55) hx hb dX13_odds_80 rfl ?_
                  exact ih15 M15 y15_0 (y15_2 + z18) (y15_4 + 1) ky15_0 _ _ h hP hD hT hS ls (lv_sub hl [2, 1, 0] rfl)
          exact L15 FU z13.2 a0 0 0 k0 _ _ h hP hD hT hS ls (lv_sub hl [2, 1, 0] rfl)
        · replace h := ite_f c14 h
          refine lv_aload_n hx hb dX13_odds_43 rfl (lv_at hl 0 rfl) ?_
          refine lv_iload_n hx hb dX13_odds_44 rfl (lv_at hl 1 rfl) ?_
          refine lv_iconst (v := (-1)) hx hb dX13_odds_45 rfl ?_
          obtain ⟨z19, h19, h⟩ := ob_some h
          refine k_l (va_runV (As := [.int x1, .int (-1)]) (rest := []) ⟨hx, hb, hml, hown, hts⟩ (c_X13_oddsOf (l := l) z13.2 a0 x1 (-1) k0 h19) (cwV 2 hts gX13_odds_X13_oddsOf rfl rfl rfl hdV_X13_oddsOf ⟨Nat.le_of_ble_eq_true rfl, Nat.le_of_ble_eq_true rfl⟩) (pV (T := TX13) hP hK hD hT hG hS k0 (by decide) rfl) rfl rfl hl.1 rfl (lv_room (Nat.le_of_ble_eq_true rfl)) dX13_odds_46 ⟨Nat.zero_le _, Nat.zero_le _⟩) hS (fun H locs hP hD hT hS => ?_)
          have hZ := Option.some.inj h
          exact r_lret hx hb hr hlocks hP hK hD hT hG hS (congrArg Prod.fst hZ) (congrArg Prod.snd hZ) dX13_odds_49
      · replace h := ite_t c12 h
        refine lv_aload_n hx hb dX13_odds_25 rfl (lv_at hl 0 rfl) ?_
        refine lv_iconst (v := 1) hx hb dX13_odds_26 rfl ?_
        obtain ⟨z20, h20, h⟩ := ob_some h
        refine k_i (va_runV (As := [.int 1]) (rest := []) ⟨hx, hb, hml, hown, hts⟩ (c_X13_refused (l := l) (pI M a0 0 0) a0 1 k0 h20) (cwV 1 hts gX13_odds_X13_refused rfl rfl rfl hdV_X13_refused ⟨Nat.le_of_ble_eq_true rfl, Nat.le_of_ble_eq_true rfl⟩) (pV (T := TX13) hP hK hD hT hG hS k0 (by decide) rfl) rfl rfl hl.1 rfl (lv_room (Nat.le_of_ble_eq_true rfl)) dX13_odds_27 ⟨Nat.zero_le _, Nat.zero_le _⟩) hS (fun H locs hP hD hT hS => ?_)
        refine lv_i2l hx hb dX13_odds_30 rfl ?_
        have hZ := Option.some.inj h
        exact r_lret hx hb hr hlocks hP hK hD hT hG hS (congrArg Prod.fst hZ) (congrArg Prod.snd hZ) dX13_odds_31
set_option maxHeartbeats 4000000 in
set_option maxRecDepth 100000 in
theorem c_X13_likeliestOf {l : Launch} {D : va_G} {ad : Nat → Nat} {cy : Nat → ClassId} {A : Nat → Prop} {g : CG} {q : SE} (M : MM) (a0 : Nat) (x1 : Int32) (k0 : ok g a0 13 0) {Z : Int32} (h : f_X13_likeliestOf M a0 x1 = some Z) : Met l yX13_likeliestOf wsX13_likeliestOf ({ frames := 3, cells := 0, slots := 0, locals := 75 }) (va_Pc [.ref (ad a0), .int x1] (Wd D ad cy A g q M)) (va_Qi (fun r u => r = Z ∧ u = M) (Wd D ad cy A g q) A) 0 0 A := by
  refine Met.ofW (cc := cX13_likeliestOf) (maxL := 4) (ret := (some .int)) (by decide) rfl ?_
  intro p e s m args below meth c s₁ B hml hv
  obtain ⟨rfl, hP, hK, hD, hT, hG⟩ := hv
  have hx := B.exec
  have hb := B.bytes
  have hr := B.returns
  have hts := atoms_spec (ws := wsX13_likeliestOf) B.pre
  have hown : s.vm.findClass RX13 = some m.cls := findClass_of_methodNamed B.named
  have hlocks := B.notSynchronized
  have in12 : ∀ w ∈ u_ws RX12 TX12 48, w ∈ wsX13_likeliestOf := fun w h => List.mem_cons_of_mem _ (List.mem_append_right _ h)
  have in13 : ∀ w ∈ u_ws RX13 TX13 29, w ∈ wsX13_likeliestOf := fun w h => List.mem_cons_of_mem _ (List.mem_append_left _ (List.mem_append_right _ h))
  have hS : va_S A s.heap s.heap [] := va_S.rf
  have hl := lv_entry ([.ref (ad a0), .int x1]) (n := 4) (Nat.le_of_ble_eq_true rfl)
  rw [lg_entry_eq]
  generalize (lg_sl ([.ref (ad a0), .int x1]) ++ List.replicate (4 - (lg_sl ([.ref (ad a0), .int x1])).length) Slot.unset).toArray = ls at hl ⊢
  have hl : lv_has ls 4 [(0, .ref (ad a0)), (1, .int x1)] := hl
  unfold f_X13_likeliestOf at h
  refine lv_iconst (v := 0) hx hb dX13_likeliestOf_0 rfl ?_
  refine lv_istore_n (lv' := [(2, .int 0), (0, .ref (ad a0)), (1, .int x1)]) hx hb dX13_likeliestOf_1 rfl hl (by decide) rfl (fun ls hl => ?_)
  refine lv_iconst (v := 1) hx hb dX13_likeliestOf_2 rfl ?_
  refine lv_istore_n (lv' := [(3, .int 1), (2, .int 0), (0, .ref (ad a0)), (1, .int x1)]) hx hb dX13_likeliestOf_3 rfl hl (by decide) rfl (fun ls hl => ?_)
  have L1 : ∀ n1 : Nat, ∀ (y1_0 : Nat) (y1_1 : Int32) (y1_2 : Int32) (y1_3 : Int32) (ky1_0 : ok g y1_0 13 0) (H : Heap) (locs : List Loc), f_X13_likeliestOf_L4 n1 M y1_0 y1_1 y1_2 y1_3 = some Z → va_P D vwCl (wd ad cy g M) H → va_D A (wd ad cy g M) → WT g M → va_S A s.heap H locs → ∀ (ls : Array Slot), lv_has ls 4 [(0, .ref (ad y1_0)), (1, .int y1_1), (2, .int y1_2), (3, .int y1_3)] → W p l e ((headSpec wsX13_likeliestOf ({ frames := 3, cells := 0, slots := 0, locals := 75 })).room) s m (([.ref (ad a0), .int x1] : List Value).toArray) below meth c H locs 0 0 (MQ below (va_Qi (fun r u => r = Z ∧ u = M) (Wd D ad cy A g q) A) ([.ref (ad a0), .int x1]).toArray s 0 0 A) (F0 m 4 ls []) := by
    intro n1
    induction n1 with
    | zero => intro y1_0 y1_1 y1_2 y1_3 ky1_0 H locs h; exact absurd h (by simp [f_X13_likeliestOf_L4])
    | succ n1 ih1 =>
      intro y1_0 y1_1 y1_2 y1_3 ky1_0 H locs h hP hD hT hS ls hl
      rw [f_X13_likeliestOf_L4] at h
      refine lv_iload_n hx hb dX13_likeliestOf_4 rfl (lv_at hl 3 rfl) ?_
      refine lv_aload_n hx hb dX13_likeliestOf_5 rfl (lv_at hl 0 rfl) ?_
      rcases hN2 : gR M y1_0 3 with _ | b2
      · replace h := oc_n hN2 h
        refine r_get (T := TX13) (v := .null) hx hb hts in13 hown hK hP ky1_0 (by decide) rfl 3 (by decide) (hts (.fieldLink RX13 431 "StoneWalkModel" "island" "LStoneWalkModel$Island;") (List.mem_of_getElem? (i := 1) (by decide +kernel))) rfl (t := 2) rfl (by show va_rf _ = _; rw [hN2]; rfl) dX13_likeliestOf_6 ?_
        exact absurd h (by simp)
      · replace h := oc_s hN2 h
        have kb2 := hT.f ky1_0 (k := 3) (t := 12) (n := 0) rfl hN2
        refine r_get (T := TX13) (v := .ref (ad b2)) hx hb hts in13 hown hK hP ky1_0 (by decide) rfl 3 (by decide) (hts (.fieldLink RX13 431 "StoneWalkModel" "island" "LStoneWalkModel$Island;") (List.mem_of_getElem? (i := 1) (by decide +kernel))) rfl (t := 2) rfl (by show va_rf _ = _; rw [hN2]; rfl) dX13_likeliestOf_6 ?_
        refine r_getN (T := TX12) (v := .int (gI M b2 0)) hx hb hts in12 hown hK hP kb2 (by decide) rfl 0 (by decide) (hG.2.2.1 _ (List.mem_of_getElem? (i := 5) rfl)) rfl (t := 0) rfl rfl dX13_likeliestOf_9 ?_
        refine lv_icmp_ge (tgt := 39) hx hb dX13_likeliestOf_12 rfl (fun c3 => ?_) (fun c3 => ?_)
        · replace h := ite_t c3 h
          refine lv_iload_n hx hb dX13_likeliestOf_39 rfl (lv_at hl 2 rfl) ?_
          exact r_iret hx hb hr hlocks hP hK hD hT hG hS (Option.some.inj h) rfl dX13_likeliestOf_40
        · replace h := ite_f c3 h
          refine lv_aload_n hx hb dX13_likeliestOf_15 rfl (lv_at hl 0 rfl) ?_
          refine lv_iload_n hx hb dX13_likeliestOf_16 rfl (lv_at hl 3 rfl) ?_
          refine lv_iload_n hx hb dX13_likeliestOf_17 rfl (lv_at hl 1 rfl) ?_
          obtain ⟨z4, h4, h⟩ := ob_some h
          refine k_l (va_runV (As := [.int y1_3, .int y1_1]) (rest := []) ⟨hx, hb, hml, hown, hts⟩ (c_X13_oddsOf (l := l) M y1_0 y1_3 y1_1 ky1_0 h4) (cwV 2 hts gX13_likeliestOf_X13_oddsOf rfl rfl rfl hdV_X13_oddsOf ⟨Nat.le_of_ble_eq_true rfl, Nat.le_of_ble_eq_true rfl⟩) (pV (T := TX13) hP hK hD hT hG hS ky1_0 (by decide) rfl) rfl rfl hl.1 rfl (lv_room (Nat.le_of_ble_eq_true rfl)) dX13_likeliestOf_18 ⟨Nat.zero_le _, Nat.zero_le _⟩) hS (fun H locs hP hD hT hS => ?_)
          refine lv_aload_n hx hb dX13_likeliestOf_21 rfl (lv_at hl 0 rfl) ?_
          refine lv_iload_n hx hb dX13_likeliestOf_22 rfl (lv_at hl 2 rfl) ?_
          refine lv_iload_n hx hb dX13_likeliestOf_23 rfl (lv_at hl 1 rfl) ?_
          obtain ⟨z5, h5, h⟩ := ob_some h
          refine k_l (va_runV (As := [.int y1_2, .int y1_1]) (rest := [.long z4]) ⟨hx, hb, hml, hown, hts⟩ (c_X13_oddsOf (l := l) M y1_0 y1_2 y1_1 ky1_0 h5) (cwV 2 hts gX13_likeliestOf_X13_oddsOf rfl rfl rfl hdV_X13_oddsOf ⟨Nat.le_of_ble_eq_true rfl, Nat.le_of_ble_eq_true rfl⟩) (pV (T := TX13) hP hK hD hT hG hS ky1_0 (by decide) rfl) rfl rfl hl.1 rfl (lv_room (Nat.le_of_ble_eq_true rfl)) dX13_likeliestOf_24 ⟨Nat.zero_le _, Nat.zero_le _⟩) hS (fun H locs hP hD hT hS => ?_)
          refine W.lcmp hx hb dX13_likeliestOf_27 ?_
          refine lv_if_le (tgt := 33) hx hb dX13_likeliestOf_28 rfl (fun c6 => ?_) (fun c6 => ?_)
          · replace h := ite_t c6 h
            refine lv_iinc (v := y1_3 + 1) (lv' := [(3, .int (y1_3 + 1)), (0, .ref (ad y1_0)), (1, .int y1_1), (2, .int y1_2)]) hx hb dX13_likeliestOf_33 hl (k := 3) rfl rfl (by decide) rfl (fun ls hl => ?_)
            refine lv_goto (tgt := 4) hx hb dX13_likeliestOf_36 rfl ?_
            exact ih1 y1_0 y1_1 y1_2 (y1_3 + 1) ky1_0 _ _ h hP hD hT hS ls (lv_sub hl [1, 2, 3, 0] rfl)
          · replace h := ite_f c6 h
            refine lv_iload_n hx hb dX13_likeliestOf_31 rfl (lv_at hl 3 rfl) ?_
            refine lv_istore_n (lv' := [(2, .int y1_3), (0, .ref (ad y1_0)), (1, .int y1_1), (3, .int y1_3)]) hx hb dX13_likeliestOf_32 rfl hl (by decide) rfl (fun ls hl => ?_)
            refine lv_iinc (v := y1_3 + 1) (lv' := [(3, .int (y1_3 + 1)), (2, .int y1_3), (0, .ref (ad y1_0)), (1, .int y1_1)]) hx hb dX13_likeliestOf_33 hl (k := 3) rfl rfl (by decide) rfl (fun ls hl => ?_)
            refine lv_goto (tgt := 4) hx hb dX13_likeliestOf_36 rfl ?_
            exact ih1 y1_0 y1_1 y1_3 (y1_3 + 1) ky1_0 _ _ h hP hD hT hS ls (lv_sub hl [2, 3, 1, 0] rfl)
  exact L1 FU a0 x1 0 1 k0 _ _ h hP hD hT hS ls (lv_sub hl [2, 3, 1, 0] rfl)
set_option maxHeartbeats 4000000 in
set_option maxRecDepth 100000 in
theorem c_X13_likeliest {l : Launch} {D : va_G} {ad : Nat → Nat} {cy : Nat → ClassId} {A : Nat → Prop} {g : CG} {q : SE} (M : MM) (a0 : Nat) (k0 : ok g a0 13 0) {Z : (Int32 × MM)} (h : f_X13_likeliest M a0 = some Z) : Met l yX13_likeliest wsX13_likeliest ({ frames := 4, cells := 0, slots := 0, locals := 98 }) (va_Pc [.ref (ad a0)] (Wd D ad cy A g q M)) (va_Qi (fun r u => r = Z.1 ∧ u = Z.2) (Wd D ad cy A g q) A) 0 0 A := by
  refine Met.ofW (cc := cX13_likeliest) (maxL := 1) (ret := (some .int)) (by decide) rfl ?_
  intro p e s m args below meth c s₁ B hml hv
  obtain ⟨rfl, hP, hK, hD, hT, hG⟩ := hv
  have hx := B.exec
  have hb := B.bytes
  have hr := B.returns
  have hts := atoms_spec (ws := wsX13_likeliest) B.pre
  have hown : s.vm.findClass RX13 = some m.cls := findClass_of_methodNamed B.named
  have hlocks := B.notSynchronized
  have in13 : ∀ w ∈ u_ws RX13 TX13 29, w ∈ wsX13_likeliest := fun w h => List.mem_cons_of_mem _ (List.mem_append_left _ (List.mem_append_right _ h))
  have hS : va_S A s.heap s.heap [] := va_S.rf
  have hl := lv_entry ([.ref (ad a0)]) (n := 1) (Nat.le_of_ble_eq_true rfl)
  rw [lg_entry_eq]
  generalize (lg_sl ([.ref (ad a0)]) ++ List.replicate (1 - (lg_sl ([.ref (ad a0)])).length) Slot.unset).toArray = ls at hl ⊢
  have hl : lv_has ls 1 [(0, .ref (ad a0))] := hl
  unfold f_X13_likeliest at h
  refine lv_aload_n hx hb dX13_likeliest_0 rfl (lv_at hl 0 rfl) ?_
  refine lv_iconst (v := 0) hx hb dX13_likeliest_1 rfl ?_
  refine r_putI (T := TX13) (ty := .int) (v := 0) hx hb hts in13 tyX13 tyX13_ok nmX13 hown hK hP hD hT hS k0 (by decide) rfl 0 (by decide) (hts (.fieldLink RX13 30 "StoneWalkModel" "thrown" "I") (List.mem_of_getElem? (i := 1) (by decide +kernel))) rfl rfl (tyX13_ok 0 (by decide)) rfl rfl rfl dX13_likeliest_2 (fun H locs hP hD hT hS => ?_)
  refine lv_aload_n hx hb dX13_likeliest_5 rfl (lv_at hl 0 rfl) ?_
  rcases hN1 : gR (pI M a0 0 0) a0 3 with _ | b1
  · replace h := oc_n hN1 h
    refine r_get (T := TX13) (v := .null) hx hb hts in13 hown hK hP k0 (by decide) rfl 3 (by decide) (hts (.fieldLink RX13 431 "StoneWalkModel" "island" "LStoneWalkModel$Island;") (List.mem_of_getElem? (i := 2) (by decide +kernel))) rfl (t := 2) rfl (by show va_rf _ = _; rw [hN1]; rfl) dX13_likeliest_6 ?_
    refine lv_ifnonnullN hx hb dX13_likeliest_9 ?_
    refine lv_aload_n hx hb dX13_likeliest_12 rfl (lv_at hl 0 rfl) ?_
    refine lv_iconst (v := 1) hx hb dX13_likeliest_13 rfl ?_
    obtain ⟨z2, h2, h⟩ := ob_some h
    refine k_i (va_runV (As := [.int 1]) (rest := []) ⟨hx, hb, hml, hown, hts⟩ (c_X13_refused (l := l) (pI M a0 0 0) a0 1 k0 h2) (cwV 1 hts gX13_likeliest_X13_refused rfl rfl rfl hdV_X13_refused ⟨Nat.le_of_ble_eq_true rfl, Nat.le_of_ble_eq_true rfl⟩) (pV (T := TX13) hP hK hD hT hG hS k0 (by decide) rfl) rfl rfl hl.1 rfl (lv_room (Nat.le_of_ble_eq_true rfl)) dX13_likeliest_14 ⟨Nat.zero_le _, Nat.zero_le _⟩) hS (fun H locs hP hD hT hS => ?_)
    refine lv_goto (tgt := 29) hx hb dX13_likeliest_17 rfl ?_
    have hZ := Option.some.inj h
    exact r_iret hx hb hr hlocks hP hK hD hT hG hS (congrArg Prod.fst hZ) (congrArg Prod.snd hZ) dX13_likeliest_29
  · replace h := oc_s hN1 h
    have kb1 := hT.f k0 (k := 3) (t := 12) (n := 0) rfl hN1
    refine r_get (T := TX13) (v := .ref (ad b1)) hx hb hts in13 hown hK hP k0 (by decide) rfl 3 (by decide) (hts (.fieldLink RX13 431 "StoneWalkModel" "island" "LStoneWalkModel$Island;") (List.mem_of_getElem? (i := 2) (by decide +kernel))) rfl (t := 2) rfl (by show va_rf _ = _; rw [hN1]; rfl) dX13_likeliest_6 ?_
    refine lv_ifnonnull (tgt := 20) hx hb dX13_likeliest_9 rfl ?_
    refine lv_aload_n hx hb dX13_likeliest_20 rfl (lv_at hl 0 rfl) ?_
    refine lv_aload_n hx hb dX13_likeliest_21 rfl (lv_at hl 0 rfl) ?_
    refine lv_iconst (v := (-1)) hx hb dX13_likeliest_22 rfl ?_
    obtain ⟨z3, h3, h⟩ := ob_some h
    refine k_i (va_runV (As := [.int (-1)]) (rest := [.ref (ad a0)]) ⟨hx, hb, hml, hown, hts⟩ (c_X13_likeliestOf (l := l) (pI M a0 0 0) a0 (-1) k0 h3) (cwV 1 hts gX13_likeliest_X13_likeliestOf rfl rfl rfl hdV_X13_likeliestOf ⟨Nat.le_of_ble_eq_true rfl, Nat.le_of_ble_eq_true rfl⟩) (pV (T := TX13) hP hK hD hT hG hS k0 (by decide) rfl) rfl rfl hl.1 rfl (lv_room (Nat.le_of_ble_eq_true rfl)) dX13_likeliest_23 ⟨Nat.zero_le _, Nat.zero_le _⟩) hS (fun H locs hP hD hT hS => ?_)
    obtain ⟨z4, h4, h⟩ := ob_some h
    refine k_i (va_runV (As := [.int z3]) (rest := []) ⟨hx, hb, hml, hown, hts⟩ (c_X13_done (l := l) (pI M a0 0 0) a0 z3 k0 h4) (cwV 1 hts gX13_likeliest_X13_done rfl rfl rfl hdV_X13_done ⟨Nat.le_of_ble_eq_true rfl, Nat.le_of_ble_eq_true rfl⟩) (pV (T := TX13) hP hK hD hT hG hS k0 (by decide) rfl) rfl rfl hl.1 rfl (lv_room (Nat.le_of_ble_eq_true rfl)) dX13_likeliest_26 ⟨Nat.zero_le _, Nat.zero_le _⟩) hS (fun H locs hP hD hT hS => ?_)
    have hZ := Option.some.inj h
    exact r_iret hx hb hr hlocks hP hK hD hT hG hS (congrArg Prod.fst hZ) (congrArg Prod.snd hZ) dX13_likeliest_29
set_option maxHeartbeats 4000000 in
set_option maxRecDepth 100000 in
theorem c_X13_lies {l : Launch} {D : va_G} {ad : Nat → Nat} {cy : Nat → ClassId} {A : Nat → Prop} {g : CG} {q : SE} (M : MM) (a0 : Nat) (x1 : Int32) (x2 : Int32) (k0 : ok g a0 13 0) {Z : (Int32 × MM)} (h : f_X13_lies M a0 x1 x2 = some Z) : Met l yX13_lies wsX13_lies ({ frames := 2, cells := 0, slots := 0, locals := 47 }) (va_Pc [.ref (ad a0), .int x1, .int x2] (Wd D ad cy A g q M)) (va_Qi (fun r u => r = Z.1 ∧ u = Z.2) (Wd D ad cy A g q) A) 0 0 A := by
  refine Met.ofW (cc := cX13_lies) (maxL := 3) (ret := (some .int)) (by decide) rfl ?_
  intro p e s m args below meth c s₁ B hml hv
  obtain ⟨rfl, hP, hK, hD, hT, hG⟩ := hv
  have hx := B.exec
  have hb := B.bytes
  have hr := B.returns
  have hts := atoms_spec (ws := wsX13_lies) B.pre
  have hown : s.vm.findClass RX13 = some m.cls := findClass_of_methodNamed B.named
  have hlocks := B.notSynchronized
  have in12 : ∀ w ∈ u_ws RX12 TX12 48, w ∈ wsX13_lies := fun w h => List.mem_cons_of_mem _ (List.mem_append_right _ h)
  have in13 : ∀ w ∈ u_ws RX13 TX13 29, w ∈ wsX13_lies := fun w h => List.mem_cons_of_mem _ (List.mem_append_left _ (List.mem_append_right _ h))
  have hS : va_S A s.heap s.heap [] := va_S.rf
  have hl := lv_entry ([.ref (ad a0), .int x1, .int x2]) (n := 3) (Nat.le_of_ble_eq_true rfl)
  rw [lg_entry_eq]
  generalize (lg_sl ([.ref (ad a0), .int x1, .int x2]) ++ List.replicate (3 - (lg_sl ([.ref (ad a0), .int x1, .int x2])).length) Slot.unset).toArray = ls at hl ⊢
  have hl : lv_has ls 3 [(0, .ref (ad a0)), (1, .int x1), (2, .int x2)] := hl
  unfold f_X13_lies at h
  refine lv_aload_n hx hb dX13_lies_0 rfl (lv_at hl 0 rfl) ?_
  refine lv_iconst (v := 0) hx hb dX13_lies_1 rfl ?_
  refine r_putI (T := TX13) (ty := .int) (v := 0) hx hb hts in13 tyX13 tyX13_ok nmX13 hown hK hP hD hT hS k0 (by decide) rfl 0 (by decide) (hts (.fieldLink RX13 30 "StoneWalkModel" "thrown" "I") (List.mem_of_getElem? (i := 1) (by decide +kernel))) rfl rfl (tyX13_ok 0 (by decide)) rfl rfl rfl dX13_lies_2 (fun H locs hP hD hT hS => ?_)
  refine lv_aload_n hx hb dX13_lies_5 rfl (lv_at hl 0 rfl) ?_
  refine lv_iload_n hx hb dX13_lies_6 rfl (lv_at hl 1 rfl) ?_
  obtain ⟨z1, h1, h⟩ := ob_some h
  refine k_z (va_runV (As := [.int x1]) (rest := []) ⟨hx, hb, hml, hown, hts⟩ (c_X13_isWay (l := l) (pI M a0 0 0) a0 x1 k0 h1) (cwV 1 hts gX13_lies_X13_isWay rfl rfl rfl hdV_X13_isWay ⟨Nat.le_of_ble_eq_true rfl, Nat.le_of_ble_eq_true rfl⟩) (pV (T := TX13) hP hK hD hT hG hS k0 (by decide) rfl) rfl rfl hl.1 rfl (lv_room (Nat.le_of_ble_eq_true rfl)) dX13_lies_7 ⟨Nat.zero_le _, Nat.zero_le _⟩) hS (fun H locs hz1 hP hD hT hS => ?_)
  refine lv_if_eq (tgt := 47) hx hb dX13_lies_10 rfl (fun c2 => ?_) (fun c2 => ?_)
  · replace h := ite_t c2 h
    refine lv_aload_n hx hb dX13_lies_47 rfl (lv_at hl 0 rfl) ?_
    refine lv_iconst (v := 1) hx hb dX13_lies_48 rfl ?_
    obtain ⟨z3, h3, h⟩ := ob_some h
    refine k_i (va_runV (As := [.int 1]) (rest := []) ⟨hx, hb, hml, hown, hts⟩ (c_X13_refused (l := l) (pI M a0 0 0) a0 1 k0 h3) (cwV 1 hts gX13_lies_X13_refused rfl rfl rfl hdV_X13_refused ⟨Nat.le_of_ble_eq_true rfl, Nat.le_of_ble_eq_true rfl⟩) (pV (T := TX13) hP hK hD hT hG hS k0 (by decide) rfl) rfl rfl hl.1 rfl (lv_room (Nat.le_of_ble_eq_true rfl)) dX13_lies_49 ⟨Nat.zero_le _, Nat.zero_le _⟩) hS (fun H locs hP hD hT hS => ?_)
    have hZ := Option.some.inj h
    exact r_iret hx hb hr hlocks hP hK hD hT hG hS (congrArg Prod.fst hZ) (congrArg Prod.snd hZ) dX13_lies_52
  · replace h := ite_f c2 h
    refine lv_aload_n hx hb dX13_lies_13 rfl (lv_at hl 0 rfl) ?_
    refine lv_iload_n hx hb dX13_lies_14 rfl (lv_at hl 2 rfl) ?_
    obtain ⟨z4, h4, h⟩ := ob_some h
    refine k_z (va_runV (As := [.int x2]) (rest := []) ⟨hx, hb, hml, hown, hts⟩ (c_X13_isStatue (l := l) (pI M a0 0 0) a0 x2 k0 h4) (cwV 1 hts gX13_lies_X13_isStatue rfl rfl rfl hdV_X13_isStatue ⟨Nat.le_of_ble_eq_true rfl, Nat.le_of_ble_eq_true rfl⟩) (pV (T := TX13) hP hK hD hT hG hS k0 (by decide) rfl) rfl rfl hl.1 rfl (lv_room (Nat.le_of_ble_eq_true rfl)) dX13_lies_15 ⟨Nat.zero_le _, Nat.zero_le _⟩) hS (fun H locs hz4 hP hD hT hS => ?_)
    refine lv_if_eq (tgt := 47) hx hb dX13_lies_18 rfl (fun c5 => ?_) (fun c5 => ?_)
    · replace h := ite_t c5 h
      refine lv_aload_n hx hb dX13_lies_47 rfl (lv_at hl 0 rfl) ?_
      refine lv_iconst (v := 1) hx hb dX13_lies_48 rfl ?_
      obtain ⟨z6, h6, h⟩ := ob_some h
      refine k_i (va_runV (As := [.int 1]) (rest := []) ⟨hx, hb, hml, hown, hts⟩ (c_X13_refused (l := l) (pI M a0 0 0) a0 1 k0 h6) (cwV 1 hts gX13_lies_X13_refused rfl rfl rfl hdV_X13_refused ⟨Nat.le_of_ble_eq_true rfl, Nat.le_of_ble_eq_true rfl⟩) (pV (T := TX13) hP hK hD hT hG hS k0 (by decide) rfl) rfl rfl hl.1 rfl (lv_room (Nat.le_of_ble_eq_true rfl)) dX13_lies_49 ⟨Nat.zero_le _, Nat.zero_le _⟩) hS (fun H locs hP hD hT hS => ?_)
      have hZ := Option.some.inj h
      exact r_iret hx hb hr hlocks hP hK hD hT hG hS (congrArg Prod.fst hZ) (congrArg Prod.snd hZ) dX13_lies_52
    · replace h := ite_f c5 h
      refine lv_aload_n hx hb dX13_lies_21 rfl (lv_at hl 0 rfl) ?_
      rcases hN7 : gR (pI M a0 0 0) a0 3 with _ | b7
      · replace h := oc_n hN7 h
        refine r_get (T := TX13) (v := .null) hx hb hts in13 hown hK hP k0 (by decide) rfl 3 (by decide) (hts (.fieldLink RX13 431 "StoneWalkModel" "island" "LStoneWalkModel$Island;") (List.mem_of_getElem? (i := 2) (by decide +kernel))) rfl (t := 2) rfl (by show va_rf _ = _; rw [hN7]; rfl) dX13_lies_22 ?_
        exact absurd h (by simp)
      · replace h := oc_s hN7 h
        have kb7 := hT.f k0 (k := 3) (t := 12) (n := 0) rfl hN7
        refine r_get (T := TX13) (v := .ref (ad b7)) hx hb hts in13 hown hK hP k0 (by decide) rfl 3 (by decide) (hts (.fieldLink RX13 431 "StoneWalkModel" "island" "LStoneWalkModel$Island;") (List.mem_of_getElem? (i := 2) (by decide +kernel))) rfl (t := 2) rfl (by show va_rf _ = _; rw [hN7]; rfl) dX13_lies_22 ?_
        rcases hN8 : gR (pI M a0 0 0) b7 18 with _ | b8
        · exact absurd (oc_n hN8 h) (by simp)
        replace h := oc_s hN8 h
        have kb8 := hT.f kb7 (k := 18) (t := 15) (n := 10) rfl hN8
        refine r_getN (T := TX12) (v := .ref (ad b8)) hx hb hts in12 hown hK hP kb7 (by decide) rfl 18 (by decide) (hG.2.2.1 _ (List.mem_of_getElem? (i := 18) rfl)) rfl (t := 2) rfl (by show va_rf _ = _; rw [hN8]; rfl) dX13_lies_25 ?_
        refine lv_iload_n hx hb dX13_lies_28 rfl (lv_at hl 2 rfl) ?_
        obtain ⟨hn9, h⟩ := chk_some h
        refine r_iald hx hb hK hP kb8 hn9 dX13_lies_29 ?_
        refine lv_iconst (v := 5) hx hb dX13_lies_30 rfl ?_
        refine lv_icmp_ne (tgt := 47) hx hb dX13_lies_31 rfl (fun c10 => ?_) (fun c10 => ?_)
        · replace h := ite_f c10 h
          refine lv_aload_n hx hb dX13_lies_47 rfl (lv_at hl 0 rfl) ?_
          refine lv_iconst (v := 1) hx hb dX13_lies_48 rfl ?_
          obtain ⟨z11, h11, h⟩ := ob_some h
          refine k_i (va_runV (As := [.int 1]) (rest := []) ⟨hx, hb, hml, hown, hts⟩ (c_X13_refused (l := l) (pI M a0 0 0) a0 1 k0 h11) (cwV 1 hts gX13_lies_X13_refused rfl rfl rfl hdV_X13_refused ⟨Nat.le_of_ble_eq_true rfl, Nat.le_of_ble_eq_true rfl⟩) (pV (T := TX13) hP hK hD hT hG hS k0 (by decide) rfl) rfl rfl hl.1 rfl (lv_room (Nat.le_of_ble_eq_true rfl)) dX13_lies_49 ⟨Nat.zero_le _, Nat.zero_le _⟩) hS (fun H locs hP hD hT hS => ?_)
          have hZ := Option.some.inj h
          exact r_iret hx hb hr hlocks hP hK hD hT hG hS (congrArg Prod.fst hZ) (congrArg Prod.snd hZ) dX13_lies_52
        · replace h := ite_t c10 h
          refine lv_aload_n hx hb dX13_lies_34 rfl (lv_at hl 0 rfl) ?_
          refine lv_aload_n hx hb dX13_lies_35 rfl (lv_at hl 0 rfl) ?_
          refine lv_iload_n hx hb dX13_lies_36 rfl (lv_at hl 1 rfl) ?_
          refine lv_iload_n hx hb dX13_lies_37 rfl (lv_at hl 2 rfl) ?_
          obtain ⟨z12, h12, h⟩ := ob_some h
          refine k_i (va_runV (As := [.int x1, .int x2]) (rest := [.ref (ad a0)]) ⟨hx, hb, hml, hown, hts⟩ (c_X13_liesBy (l := l) (pI M a0 0 0) a0 x1 x2 k0 h12) (cwV 2 hts gX13_lies_X13_liesBy rfl rfl rfl hdV_X13_liesBy ⟨Nat.le_of_ble_eq_true rfl, Nat.le_of_ble_eq_true rfl⟩) (pV (T := TX13) hP hK hD hT hG hS k0 (by decide) rfl) rfl rfl hl.1 rfl (lv_room (Nat.le_of_ble_eq_true rfl)) dX13_lies_38 ⟨Nat.zero_le _, Nat.zero_le _⟩) hS (fun H locs hP hD hT hS => ?_)
          obtain ⟨z13, h13, h⟩ := ob_some h
          refine k_i (va_runV (As := [.int z12]) (rest := []) ⟨hx, hb, hml, hown, hts⟩ (c_X13_done (l := l) (pI M a0 0 0) a0 z12 k0 h13) (cwV 1 hts gX13_lies_X13_done rfl rfl rfl hdV_X13_done ⟨Nat.le_of_ble_eq_true rfl, Nat.le_of_ble_eq_true rfl⟩) (pV (T := TX13) hP hK hD hT hG hS k0 (by decide) rfl) rfl rfl hl.1 rfl (lv_room (Nat.le_of_ble_eq_true rfl)) dX13_lies_41 ⟨Nat.zero_le _, Nat.zero_le _⟩) hS (fun H locs hP hD hT hS => ?_)
          refine lv_goto (tgt := 52) hx hb dX13_lies_44 rfl ?_
          have hZ := Option.some.inj h
          exact r_iret hx hb hr hlocks hP hK hD hT hG hS (congrArg Prod.fst hZ) (congrArg Prod.snd hZ) dX13_lies_52
set_option maxHeartbeats 4000000 in
set_option maxRecDepth 100000 in
theorem c_X13_hollow {l : Launch} {D : va_G} {ad : Nat → Nat} {cy : Nat → ClassId} {A : Nat → Prop} {g : CG} {q : SE} (M : MM) (a0 : Nat) (x1 : Int32) (x2 : Int32) (k0 : ok g a0 13 0) {Z : (Int32 × MM)} (h : f_X13_hollow M a0 x1 x2 = some Z) : Met l yX13_hollow wsX13_hollow ({ frames := 1, cells := 0, slots := 0, locals := 24 }) (va_Pc [.ref (ad a0), .int x1, .int x2] (Wd D ad cy A g q M)) (va_Qi (fun r u => r = Z.1 ∧ u = Z.2) (Wd D ad cy A g q) A) 0 0 A := by
  refine Met.ofW (cc := cX13_hollow) (maxL := 3) (ret := (some .int)) (by decide) rfl ?_
  intro p e s m args below meth c s₁ B hml hv
  obtain ⟨rfl, hP, hK, hD, hT, hG⟩ := hv
  have hx := B.exec
  have hb := B.bytes
  have hr := B.returns
  have hts := atoms_spec (ws := wsX13_hollow) B.pre
  have hown : s.vm.findClass RX13 = some m.cls := findClass_of_methodNamed B.named
  have hlocks := B.notSynchronized
  have in13 : ∀ w ∈ u_ws RX13 TX13 29, w ∈ wsX13_hollow := fun w h => List.mem_cons_of_mem _ (List.mem_append_left _ (List.mem_append_right _ h))
  have hS : va_S A s.heap s.heap [] := va_S.rf
  have hl := lv_entry ([.ref (ad a0), .int x1, .int x2]) (n := 3) (Nat.le_of_ble_eq_true rfl)
  rw [lg_entry_eq]
  generalize (lg_sl ([.ref (ad a0), .int x1, .int x2]) ++ List.replicate (3 - (lg_sl ([.ref (ad a0), .int x1, .int x2])).length) Slot.unset).toArray = ls at hl ⊢
  have hl : lv_has ls 3 [(0, .ref (ad a0)), (1, .int x1), (2, .int x2)] := hl
  unfold f_X13_hollow at h
  refine lv_aload_n hx hb dX13_hollow_0 rfl (lv_at hl 0 rfl) ?_
  refine lv_iconst (v := 0) hx hb dX13_hollow_1 rfl ?_
  refine r_putI (T := TX13) (ty := .int) (v := 0) hx hb hts in13 tyX13 tyX13_ok nmX13 hown hK hP hD hT hS k0 (by decide) rfl 0 (by decide) (hts (.fieldLink RX13 30 "StoneWalkModel" "thrown" "I") (List.mem_of_getElem? (i := 1) (by decide +kernel))) rfl rfl (tyX13_ok 0 (by decide)) rfl rfl rfl dX13_hollow_2 (fun H locs hP hD hT hS => ?_)
  refine lv_aload_n hx hb dX13_hollow_5 rfl (lv_at hl 0 rfl) ?_
  refine lv_iload_n hx hb dX13_hollow_6 rfl (lv_at hl 1 rfl) ?_
  obtain ⟨z1, h1, h⟩ := ob_some h
  refine k_z (va_runV (As := [.int x1]) (rest := []) ⟨hx, hb, hml, hown, hts⟩ (c_X13_isWay (l := l) (pI M a0 0 0) a0 x1 k0 h1) (cwV 1 hts gX13_hollow_X13_isWay rfl rfl rfl hdV_X13_isWay ⟨Nat.le_of_ble_eq_true rfl, Nat.le_of_ble_eq_true rfl⟩) (pV (T := TX13) hP hK hD hT hG hS k0 (by decide) rfl) rfl rfl hl.1 rfl (lv_room (Nat.le_of_ble_eq_true rfl)) dX13_hollow_7 ⟨Nat.zero_le _, Nat.zero_le _⟩) hS (fun H locs hz1 hP hD hT hS => ?_)
  refine lv_if_eq (tgt := 34) hx hb dX13_hollow_10 rfl (fun c2 => ?_) (fun c2 => ?_)
  · replace h := ite_t c2 h
    refine lv_aload_n hx hb dX13_hollow_34 rfl (lv_at hl 0 rfl) ?_
    refine lv_iconst (v := 1) hx hb dX13_hollow_35 rfl ?_
    obtain ⟨z3, h3, h⟩ := ob_some h
    refine k_i (va_runV (As := [.int 1]) (rest := []) ⟨hx, hb, hml, hown, hts⟩ (c_X13_refused (l := l) (pI M a0 0 0) a0 1 k0 h3) (cwV 1 hts gX13_hollow_X13_refused rfl rfl rfl hdV_X13_refused ⟨Nat.le_of_ble_eq_true rfl, Nat.le_of_ble_eq_true rfl⟩) (pV (T := TX13) hP hK hD hT hG hS k0 (by decide) rfl) rfl rfl hl.1 rfl (lv_room (Nat.le_of_ble_eq_true rfl)) dX13_hollow_36 ⟨Nat.zero_le _, Nat.zero_le _⟩) hS (fun H locs hP hD hT hS => ?_)
    have hZ := Option.some.inj h
    exact r_iret hx hb hr hlocks hP hK hD hT hG hS (congrArg Prod.fst hZ) (congrArg Prod.snd hZ) dX13_hollow_39
  · replace h := ite_f c2 h
    refine lv_aload_n hx hb dX13_hollow_13 rfl (lv_at hl 0 rfl) ?_
    refine lv_iload_n hx hb dX13_hollow_14 rfl (lv_at hl 2 rfl) ?_
    obtain ⟨z4, h4, h⟩ := ob_some h
    refine k_z (va_runV (As := [.int x2]) (rest := []) ⟨hx, hb, hml, hown, hts⟩ (c_X13_isRoad (l := l) (pI M a0 0 0) a0 x2 k0 h4) (cwV 1 hts gX13_hollow_X13_isRoad rfl rfl rfl hdV_X13_isRoad ⟨Nat.le_of_ble_eq_true rfl, Nat.le_of_ble_eq_true rfl⟩) (pV (T := TX13) hP hK hD hT hG hS k0 (by decide) rfl) rfl rfl hl.1 rfl (lv_room (Nat.le_of_ble_eq_true rfl)) dX13_hollow_15 ⟨Nat.zero_le _, Nat.zero_le _⟩) hS (fun H locs hz4 hP hD hT hS => ?_)
    refine lv_if_eq (tgt := 34) hx hb dX13_hollow_18 rfl (fun c5 => ?_) (fun c5 => ?_)
    · replace h := ite_t c5 h
      refine lv_aload_n hx hb dX13_hollow_34 rfl (lv_at hl 0 rfl) ?_
      refine lv_iconst (v := 1) hx hb dX13_hollow_35 rfl ?_
      obtain ⟨z6, h6, h⟩ := ob_some h
      refine k_i (va_runV (As := [.int 1]) (rest := []) ⟨hx, hb, hml, hown, hts⟩ (c_X13_refused (l := l) (pI M a0 0 0) a0 1 k0 h6) (cwV 1 hts gX13_hollow_X13_refused rfl rfl rfl hdV_X13_refused ⟨Nat.le_of_ble_eq_true rfl, Nat.le_of_ble_eq_true rfl⟩) (pV (T := TX13) hP hK hD hT hG hS k0 (by decide) rfl) rfl rfl hl.1 rfl (lv_room (Nat.le_of_ble_eq_true rfl)) dX13_hollow_36 ⟨Nat.zero_le _, Nat.zero_le _⟩) hS (fun H locs hP hD hT hS => ?_)
      have hZ := Option.some.inj h
      exact r_iret hx hb hr hlocks hP hK hD hT hG hS (congrArg Prod.fst hZ) (congrArg Prod.snd hZ) dX13_hollow_39
    · replace h := ite_f c5 h
      refine lv_aload_n hx hb dX13_hollow_21 rfl (lv_at hl 0 rfl) ?_
      refine lv_aload_n hx hb dX13_hollow_22 rfl (lv_at hl 0 rfl) ?_
      refine lv_iload_n hx hb dX13_hollow_23 rfl (lv_at hl 1 rfl) ?_
      refine lv_iload_n hx hb dX13_hollow_24 rfl (lv_at hl 2 rfl) ?_
      obtain ⟨z7, h7, h⟩ := ob_some h
      refine k_i (va_runV (As := [.int x1, .int x2]) (rest := [.ref (ad a0)]) ⟨hx, hb, hml, hown, hts⟩ (c_X13_hollowOf (l := l) (pI M a0 0 0) a0 x1 x2 k0 h7) (cwV 2 hts gX13_hollow_X13_hollowOf rfl rfl rfl hdV_X13_hollowOf ⟨Nat.le_of_ble_eq_true rfl, Nat.le_of_ble_eq_true rfl⟩) (pV (T := TX13) hP hK hD hT hG hS k0 (by decide) rfl) rfl rfl hl.1 rfl (lv_room (Nat.le_of_ble_eq_true rfl)) dX13_hollow_25 ⟨Nat.zero_le _, Nat.zero_le _⟩) hS (fun H locs hP hD hT hS => ?_)
      obtain ⟨z8, h8, h⟩ := ob_some h
      refine k_i (va_runV (As := [.int z7]) (rest := []) ⟨hx, hb, hml, hown, hts⟩ (c_X13_done (l := l) (pI M a0 0 0) a0 z7 k0 h8) (cwV 1 hts gX13_hollow_X13_done rfl rfl rfl hdV_X13_done ⟨Nat.le_of_ble_eq_true rfl, Nat.le_of_ble_eq_true rfl⟩) (pV (T := TX13) hP hK hD hT hG hS k0 (by decide) rfl) rfl rfl hl.1 rfl (lv_room (Nat.le_of_ble_eq_true rfl)) dX13_hollow_28 ⟨Nat.zero_le _, Nat.zero_le _⟩) hS (fun H locs hP hD hT hS => ?_)
      refine lv_goto (tgt := 39) hx hb dX13_hollow_31 rfl ?_
      have hZ := Option.some.inj h
      exact r_iret hx hb hr hlocks hP hK hD hT hG hS (congrArg Prod.fst hZ) (congrArg Prod.snd hZ) dX13_hollow_39
set_option maxHeartbeats 4000000 in
set_option maxRecDepth 100000 in
theorem c_X13_shape {l : Launch} {D : va_G} {ad : Nat → Nat} {cy : Nat → ClassId} {A : Nat → Prop} {g : CG} {q : SE} (M : MM) (a0 : Nat) (x1 : Int32) (k0 : ok g a0 13 0) {Z : (Int32 × MM)} (h : f_X13_shape M a0 x1 = some Z) : Met l yX13_shape wsX13_shape ({ frames := 2, cells := 0, slots := 0, locals := 50 }) (va_Pc [.ref (ad a0), .int x1] (Wd D ad cy A g q M)) (va_Qi (fun r u => r = Z.1 ∧ u = Z.2) (Wd D ad cy A g q) A) 0 0 A := by
  refine Met.ofW (cc := cX13_shape) (maxL := 2) (ret := (some .int)) (by decide) rfl ?_
  intro p e s m args below meth c s₁ B hml hv
  obtain ⟨rfl, hP, hK, hD, hT, hG⟩ := hv
  have hx := B.exec
  have hb := B.bytes
  have hr := B.returns
  have hts := atoms_spec (ws := wsX13_shape) B.pre
  have hown : s.vm.findClass RX13 = some m.cls := findClass_of_methodNamed B.named
  have hlocks := B.notSynchronized
  have in13 : ∀ w ∈ u_ws RX13 TX13 29, w ∈ wsX13_shape := fun w h => List.mem_cons_of_mem _ (List.mem_append_left _ (List.mem_append_right _ h))
  have hS : va_S A s.heap s.heap [] := va_S.rf
  have hl := lv_entry ([.ref (ad a0), .int x1]) (n := 2) (Nat.le_of_ble_eq_true rfl)
  rw [lg_entry_eq]
  generalize (lg_sl ([.ref (ad a0), .int x1]) ++ List.replicate (2 - (lg_sl ([.ref (ad a0), .int x1])).length) Slot.unset).toArray = ls at hl ⊢
  have hl : lv_has ls 2 [(0, .ref (ad a0)), (1, .int x1)] := hl
  unfold f_X13_shape at h
  refine lv_aload_n hx hb dX13_shape_0 rfl (lv_at hl 0 rfl) ?_
  refine lv_iconst (v := 0) hx hb dX13_shape_1 rfl ?_
  refine r_putI (T := TX13) (ty := .int) (v := 0) hx hb hts in13 tyX13 tyX13_ok nmX13 hown hK hP hD hT hS k0 (by decide) rfl 0 (by decide) (hts (.fieldLink RX13 30 "StoneWalkModel" "thrown" "I") (List.mem_of_getElem? (i := 1) (by decide +kernel))) rfl rfl (tyX13_ok 0 (by decide)) rfl rfl rfl dX13_shape_2 (fun H locs hP hD hT hS => ?_)
  refine lv_aload_n hx hb dX13_shape_5 rfl (lv_at hl 0 rfl) ?_
  refine lv_iload_n hx hb dX13_shape_6 rfl (lv_at hl 1 rfl) ?_
  obtain ⟨z1, h1, h⟩ := ob_some h
  refine k_z (va_runV (As := [.int x1]) (rest := []) ⟨hx, hb, hml, hown, hts⟩ (c_X13_isWay (l := l) (pI M a0 0 0) a0 x1 k0 h1) (cwV 1 hts gX13_shape_X13_isWay rfl rfl rfl hdV_X13_isWay ⟨Nat.le_of_ble_eq_true rfl, Nat.le_of_ble_eq_true rfl⟩) (pV (T := TX13) hP hK hD hT hG hS k0 (by decide) rfl) rfl rfl hl.1 rfl (lv_room (Nat.le_of_ble_eq_true rfl)) dX13_shape_7 ⟨Nat.zero_le _, Nat.zero_le _⟩) hS (fun H locs hz1 hP hD hT hS => ?_)
  refine lv_if_eq (tgt := 26) hx hb dX13_shape_10 rfl (fun c2 => ?_) (fun c2 => ?_)
  · replace h := ite_t c2 h
    refine lv_aload_n hx hb dX13_shape_26 rfl (lv_at hl 0 rfl) ?_
    refine lv_iconst (v := 1) hx hb dX13_shape_27 rfl ?_
    obtain ⟨z3, h3, h⟩ := ob_some h
    refine k_i (va_runV (As := [.int 1]) (rest := []) ⟨hx, hb, hml, hown, hts⟩ (c_X13_refused (l := l) (pI M a0 0 0) a0 1 k0 h3) (cwV 1 hts gX13_shape_X13_refused rfl rfl rfl hdV_X13_refused ⟨Nat.le_of_ble_eq_true rfl, Nat.le_of_ble_eq_true rfl⟩) (pV (T := TX13) hP hK hD hT hG hS k0 (by decide) rfl) rfl rfl hl.1 rfl (lv_room (Nat.le_of_ble_eq_true rfl)) dX13_shape_28 ⟨Nat.zero_le _, Nat.zero_le _⟩) hS (fun H locs hP hD hT hS => ?_)
    have hZ := Option.some.inj h
    exact r_iret hx hb hr hlocks hP hK hD hT hG hS (congrArg Prod.fst hZ) (congrArg Prod.snd hZ) dX13_shape_31
  · replace h := ite_f c2 h
    refine lv_aload_n hx hb dX13_shape_13 rfl (lv_at hl 0 rfl) ?_
    refine lv_aload_n hx hb dX13_shape_14 rfl (lv_at hl 0 rfl) ?_
    refine lv_iload_n hx hb dX13_shape_15 rfl (lv_at hl 1 rfl) ?_
    refine lv_iconst (v := (-1)) hx hb dX13_shape_16 rfl ?_
    obtain ⟨z4, h4, h⟩ := ob_some h
    refine k_i (va_runV (As := [.int x1, .int (-1)]) (rest := [.ref (ad a0)]) ⟨hx, hb, hml, hown, hts⟩ (c_X13_shapeOf (l := l) (pI M a0 0 0) a0 x1 (-1) k0 h4) (cwV 2 hts gX13_shape_X13_shapeOf rfl rfl rfl hdV_X13_shapeOf ⟨Nat.le_of_ble_eq_true rfl, Nat.le_of_ble_eq_true rfl⟩) (pV (T := TX13) hP hK hD hT hG hS k0 (by decide) rfl) rfl rfl hl.1 rfl (lv_room (Nat.le_of_ble_eq_true rfl)) dX13_shape_17 ⟨Nat.zero_le _, Nat.zero_le _⟩) hS (fun H locs hP hD hT hS => ?_)
    obtain ⟨z5, h5, h⟩ := ob_some h
    refine k_i (va_runV (As := [.int z4]) (rest := []) ⟨hx, hb, hml, hown, hts⟩ (c_X13_done (l := l) (pI M a0 0 0) a0 z4 k0 h5) (cwV 1 hts gX13_shape_X13_done rfl rfl rfl hdV_X13_done ⟨Nat.le_of_ble_eq_true rfl, Nat.le_of_ble_eq_true rfl⟩) (pV (T := TX13) hP hK hD hT hG hS k0 (by decide) rfl) rfl rfl hl.1 rfl (lv_room (Nat.le_of_ble_eq_true rfl)) dX13_shape_20 ⟨Nat.zero_le _, Nat.zero_le _⟩) hS (fun H locs hP hD hT hS => ?_)
    refine lv_goto (tgt := 31) hx hb dX13_shape_23 rfl ?_
    have hZ := Option.some.inj h
    exact r_iret hx hb hr hlocks hP hK hD hT hG hS (congrArg Prod.fst hZ) (congrArg Prod.snd hZ) dX13_shape_31
set_option maxHeartbeats 4000000 in
set_option maxRecDepth 100000 in
theorem c_X13_changed {l : Launch} {D : va_G} {ad : Nat → Nat} {cy : Nat → ClassId} {A : Nat → Prop} {g : CG} {q : SE} (M : MM) (a0 : Nat) (k0 : ok g a0 13 0) {Z : (Int32 × MM)} (h : f_X13_changed M a0 = some Z) : Met l yX13_changed wsX13_changed ({ frames := 2, cells := 0, slots := 0, locals := 42 }) (va_Pc [.ref (ad a0)] (Wd D ad cy A g q M)) (va_Qi (fun r u => r = Z.1 ∧ u = Z.2) (Wd D ad cy A g q) A) 0 0 A := by
  refine Met.ofW (cc := cX13_changed) (maxL := 3) (ret := (some .int)) (by decide) rfl ?_
  intro p e s m args below meth c s₁ B hml hv
  obtain ⟨rfl, hP, hK, hD, hT, hG⟩ := hv
  have hx := B.exec
  have hb := B.bytes
  have hr := B.returns
  have hts := atoms_spec (ws := wsX13_changed) B.pre
  have hown : s.vm.findClass RX13 = some m.cls := findClass_of_methodNamed B.named
  have hlocks := B.notSynchronized
  have in13 : ∀ w ∈ u_ws RX13 TX13 29, w ∈ wsX13_changed := fun w h => List.mem_cons_of_mem _ (List.mem_append_left _ (List.mem_append_right _ h))
  have hS : va_S A s.heap s.heap [] := va_S.rf
  have hl := lv_entry ([.ref (ad a0)]) (n := 3) (Nat.le_of_ble_eq_true rfl)
  rw [lg_entry_eq]
  generalize (lg_sl ([.ref (ad a0)]) ++ List.replicate (3 - (lg_sl ([.ref (ad a0)])).length) Slot.unset).toArray = ls at hl ⊢
  have hl : lv_has ls 3 [(0, .ref (ad a0))] := hl
  unfold f_X13_changed at h
  refine lv_aload_n hx hb dX13_changed_0 rfl (lv_at hl 0 rfl) ?_
  refine lv_iconst (v := 0) hx hb dX13_changed_1 rfl ?_
  refine r_putI (T := TX13) (ty := .int) (v := 0) hx hb hts in13 tyX13 tyX13_ok nmX13 hown hK hP hD hT hS k0 (by decide) rfl 0 (by decide) (hts (.fieldLink RX13 30 "StoneWalkModel" "thrown" "I") (List.mem_of_getElem? (i := 1) (by decide +kernel))) rfl rfl (tyX13_ok 0 (by decide)) rfl rfl rfl dX13_changed_2 (fun H locs hP hD hT hS => ?_)
  refine lv_aload_n hx hb dX13_changed_5 rfl (lv_at hl 0 rfl) ?_
  rcases hN1 : gR (pI M a0 0 0) a0 3 with _ | b1
  · replace h := oc_n hN1 h
    refine r_get (T := TX13) (v := .null) hx hb hts in13 hown hK hP k0 (by decide) rfl 3 (by decide) (hts (.fieldLink RX13 431 "StoneWalkModel" "island" "LStoneWalkModel$Island;") (List.mem_of_getElem? (i := 2) (by decide +kernel))) rfl (t := 2) rfl (by show va_rf _ = _; rw [hN1]; rfl) dX13_changed_6 ?_
    refine lv_ifnonnullN hx hb dX13_changed_9 ?_
    refine lv_aload_n hx hb dX13_changed_12 rfl (lv_at hl 0 rfl) ?_
    refine lv_iconst (v := 1) hx hb dX13_changed_13 rfl ?_
    obtain ⟨z2, h2, h⟩ := ob_some h
    refine k_i (va_runV (As := [.int 1]) (rest := []) ⟨hx, hb, hml, hown, hts⟩ (c_X13_lost (l := l) (pI M a0 0 0) a0 1 k0 h2) (cwV 1 hts gX13_changed_X13_lost rfl rfl rfl hdV_X13_lost ⟨Nat.le_of_ble_eq_true rfl, Nat.le_of_ble_eq_true rfl⟩) (pV (T := TX13) hP hK hD hT hG hS k0 (by decide) rfl) rfl rfl hl.1 rfl (lv_room (Nat.le_of_ble_eq_true rfl)) dX13_changed_14 ⟨Nat.zero_le _, Nat.zero_le _⟩) hS (fun H locs hP hD hT hS => ?_)
    have hZ := Option.some.inj h
    exact r_iret hx hb hr hlocks hP hK hD hT hG hS (congrArg Prod.fst hZ) (congrArg Prod.snd hZ) dX13_changed_17
  · replace h := oc_s hN1 h
    have kb1 := hT.f k0 (k := 3) (t := 12) (n := 0) rfl hN1
    refine r_get (T := TX13) (v := .ref (ad b1)) hx hb hts in13 hown hK hP k0 (by decide) rfl 3 (by decide) (hts (.fieldLink RX13 431 "StoneWalkModel" "island" "LStoneWalkModel$Island;") (List.mem_of_getElem? (i := 2) (by decide +kernel))) rfl (t := 2) rfl (by show va_rf _ = _; rw [hN1]; rfl) dX13_changed_6 ?_
    refine lv_ifnonnull (tgt := 18) hx hb dX13_changed_9 rfl ?_
    refine lv_aload_n hx hb dX13_changed_18 rfl (lv_at hl 0 rfl) ?_
    refine lv_iconst (v := 5) hx hb dX13_changed_19 rfl ?_
    refine lv_iconst (v := (-1)) hx hb dX13_changed_20 rfl ?_
    obtain ⟨z3, h3, h⟩ := ob_some h
    refine k_i (va_runV (As := [.int 5, .int (-1)]) (rest := []) ⟨hx, hb, hml, hown, hts⟩ (c_X13_meanLean (l := l) (pI M a0 0 0) a0 5 (-1) k0 h3) (cwV 2 hts gX13_changed_X13_meanLean rfl rfl rfl hdV_X13_meanLean ⟨Nat.le_of_ble_eq_true rfl, Nat.le_of_ble_eq_true rfl⟩) (pV (T := TX13) hP hK hD hT hG hS k0 (by decide) rfl) rfl rfl hl.1 rfl (lv_room (Nat.le_of_ble_eq_true rfl)) dX13_changed_21 ⟨Nat.zero_le _, Nat.zero_le _⟩) hS (fun H locs hP hD hT hS => ?_)
    refine lv_istore_n (lv' := [(1, .int z3), (0, .ref (ad a0))]) hx hb dX13_changed_24 rfl hl (by decide) rfl (fun ls hl => ?_)
    refine lv_aload_n hx hb dX13_changed_25 rfl (lv_at hl 1 rfl) ?_
    refine lv_iconst (v := 3) hx hb dX13_changed_26 rfl ?_
    refine lv_iconst (v := (-1)) hx hb dX13_changed_27 rfl ?_
    obtain ⟨z4, h4, h⟩ := ob_some h
    refine k_i (va_runV (As := [.int 3, .int (-1)]) (rest := []) ⟨hx, hb, hml, hown, hts⟩ (c_X13_meanLean (l := l) (pI M a0 0 0) a0 3 (-1) k0 h4) (cwV 2 hts gX13_changed_X13_meanLean rfl rfl rfl hdV_X13_meanLean ⟨Nat.le_of_ble_eq_true rfl, Nat.le_of_ble_eq_true rfl⟩) (pV (T := TX13) hP hK hD hT hG hS k0 (by decide) rfl) rfl rfl hl.1 rfl (lv_room (Nat.le_of_ble_eq_true rfl)) dX13_changed_28 ⟨Nat.zero_le _, Nat.zero_le _⟩) hS (fun H locs hP hD hT hS => ?_)
    refine lv_istore_n (lv' := [(2, .int z4), (1, .int z3), (0, .ref (ad a0))]) hx hb dX13_changed_31 rfl hl (by decide) rfl (fun ls hl => ?_)
    refine lv_iload_n hx hb dX13_changed_32 rfl (lv_at hl 1 rfl) ?_
    refine lv_if_lt (tgt := 40) hx hb dX13_changed_33 rfl (fun c5 => ?_) (fun c5 => ?_)
    · replace h := ite_t c5 h
      refine lv_aload_n hx hb dX13_changed_40 rfl (lv_at hl 2 rfl) ?_
      refine lv_bipush (v := 6) hx hb dX13_changed_41 rfl ?_
      obtain ⟨z6, h6, h⟩ := ob_some h
      refine k_i (va_runV (As := [.int 6]) (rest := []) ⟨hx, hb, hml, hown, hts⟩ (c_X13_lost (l := l) (pI M a0 0 0) a0 6 k0 h6) (cwV 1 hts gX13_changed_X13_lost rfl rfl rfl hdV_X13_lost ⟨Nat.le_of_ble_eq_true rfl, Nat.le_of_ble_eq_true rfl⟩) (pV (T := TX13) hP hK hD hT hG hS k0 (by decide) rfl) rfl rfl hl.1 rfl (lv_room (Nat.le_of_ble_eq_true rfl)) dX13_changed_43 ⟨Nat.zero_le _, Nat.zero_le _⟩) hS (fun H locs hP hD hT hS => ?_)
      refine lv_goto (tgt := 56) hx hb dX13_changed_46 rfl ?_
      have hZ := Option.some.inj h
      exact r_iret hx hb hr hlocks hP hK hD hT hG hS (congrArg Prod.fst hZ) (congrArg Prod.snd hZ) dX13_changed_56
    · replace h := ite_f c5 h
      refine lv_iload_n hx hb dX13_changed_36 rfl (lv_at hl 0 rfl) ?_
      refine lv_if_ge (tgt := 49) hx hb dX13_changed_37 rfl (fun c7 => ?_) (fun c7 => ?_)
      · replace h := ite_t c7 h
        refine lv_aload_n hx hb dX13_changed_49 rfl (lv_at hl 2 rfl) ?_
        refine lv_iload_n hx hb dX13_changed_50 rfl (lv_at hl 1 rfl) ?_
        refine lv_iload_n hx hb dX13_changed_51 rfl (lv_at hl 0 rfl) ?_
        refine lv_isub hx hb dX13_changed_52 ?_
        obtain ⟨z8, h8, h⟩ := ob_some h
        refine k_i (va_runV (As := [.int (z3 - z4)]) (rest := []) ⟨hx, hb, hml, hown, hts⟩ (c_X13_done (l := l) (pI M a0 0 0) a0 (z3 - z4) k0 h8) (cwV 1 hts gX13_changed_X13_done rfl rfl rfl hdV_X13_done ⟨Nat.le_of_ble_eq_true rfl, Nat.le_of_ble_eq_true rfl⟩) (pV (T := TX13) hP hK hD hT hG hS k0 (by decide) rfl) rfl rfl hl.1 rfl (lv_room (Nat.le_of_ble_eq_true rfl)) dX13_changed_53 ⟨Nat.zero_le _, Nat.zero_le _⟩) hS (fun H locs hP hD hT hS => ?_)
        have hZ := Option.some.inj h
        exact r_iret hx hb hr hlocks hP hK hD hT hG hS (congrArg Prod.fst hZ) (congrArg Prod.snd hZ) dX13_changed_56
      · replace h := ite_f c7 h
        refine lv_aload_n hx hb dX13_changed_40 rfl (lv_at hl 2 rfl) ?_
        refine lv_bipush (v := 6) hx hb dX13_changed_41 rfl ?_
        obtain ⟨z9, h9, h⟩ := ob_some h
        refine k_i (va_runV (As := [.int 6]) (rest := []) ⟨hx, hb, hml, hown, hts⟩ (c_X13_lost (l := l) (pI M a0 0 0) a0 6 k0 h9) (cwV 1 hts gX13_changed_X13_lost rfl rfl rfl hdV_X13_lost ⟨Nat.le_of_ble_eq_true rfl, Nat.le_of_ble_eq_true rfl⟩) (pV (T := TX13) hP hK hD hT hG hS k0 (by decide) rfl) rfl rfl hl.1 rfl (lv_room (Nat.le_of_ble_eq_true rfl)) dX13_changed_43 ⟨Nat.zero_le _, Nat.zero_le _⟩) hS (fun H locs hP hD hT hS => ?_)
        refine lv_goto (tgt := 56) hx hb dX13_changed_46 rfl ?_
        have hZ := Option.some.inj h
        exact r_iret hx hb hr hlocks hP hK hD hT hG hS (congrArg Prod.fst hZ) (congrArg Prod.snd hZ) dX13_changed_56
set_option maxHeartbeats 4000000 in
set_option maxRecDepth 100000 in
theorem c_X13_told {l : Launch} {D : va_G} {ad : Nat → Nat} {cy : Nat → ClassId} {A : Nat → Prop} {g : CG} {q : SE} (M : MM) (a0 : Nat) (x1 : Int32) (x2 : Int32) (k0 : ok g a0 13 0) {Z : (Int32 × MM)} (h : f_X13_told M a0 x1 x2 = some Z) : Met l yX13_told wsX13_told ({ frames := 1, cells := 0, slots := 0, locals := 22 }) (va_Pc [.ref (ad a0), .int x1, .int x2] (Wd D ad cy A g q M)) (va_Qi (fun r u => r = Z.1 ∧ u = Z.2) (Wd D ad cy A g q) A) 0 0 A := by
  refine Met.ofW (cc := cX13_told) (maxL := 3) (ret := (some .int)) (by decide) rfl ?_
  intro p e s m args below meth c s₁ B hml hv
  obtain ⟨rfl, hP, hK, hD, hT, hG⟩ := hv
  have hx := B.exec
  have hb := B.bytes
  have hr := B.returns
  have hts := atoms_spec (ws := wsX13_told) B.pre
  have hown : s.vm.findClass RX13 = some m.cls := findClass_of_methodNamed B.named
  have hlocks := B.notSynchronized
  have in12 : ∀ w ∈ u_ws RX12 TX12 48, w ∈ wsX13_told := fun w h => List.mem_cons_of_mem _ (List.mem_append_right _ h)
  have in13 : ∀ w ∈ u_ws RX13 TX13 29, w ∈ wsX13_told := fun w h => List.mem_cons_of_mem _ (List.mem_append_left _ (List.mem_append_right _ h))
  have hS : va_S A s.heap s.heap [] := va_S.rf
  have hl := lv_entry ([.ref (ad a0), .int x1, .int x2]) (n := 3) (Nat.le_of_ble_eq_true rfl)
  rw [lg_entry_eq]
  generalize (lg_sl ([.ref (ad a0), .int x1, .int x2]) ++ List.replicate (3 - (lg_sl ([.ref (ad a0), .int x1, .int x2])).length) Slot.unset).toArray = ls at hl ⊢
  have hl : lv_has ls 3 [(0, .ref (ad a0)), (1, .int x1), (2, .int x2)] := hl
  unfold f_X13_told at h
  refine lv_aload_n hx hb dX13_told_0 rfl (lv_at hl 0 rfl) ?_
  refine lv_iconst (v := 0) hx hb dX13_told_1 rfl ?_
  refine r_putI (T := TX13) (ty := .int) (v := 0) hx hb hts in13 tyX13 tyX13_ok nmX13 hown hK hP hD hT hS k0 (by decide) rfl 0 (by decide) (hts (.fieldLink RX13 30 "StoneWalkModel" "thrown" "I") (List.mem_of_getElem? (i := 1) (by decide +kernel))) rfl rfl (tyX13_ok 0 (by decide)) rfl rfl rfl dX13_told_2 (fun H locs hP hD hT hS => ?_)
  refine lv_aload_n hx hb dX13_told_5 rfl (lv_at hl 0 rfl) ?_
  refine lv_iload_n hx hb dX13_told_6 rfl (lv_at hl 1 rfl) ?_
  obtain ⟨z1, h1, h⟩ := ob_some h
  refine k_z (va_runV (As := [.int x1]) (rest := []) ⟨hx, hb, hml, hown, hts⟩ (c_X13_isWay (l := l) (pI M a0 0 0) a0 x1 k0 h1) (cwV 1 hts gX13_told_X13_isWay rfl rfl rfl hdV_X13_isWay ⟨Nat.le_of_ble_eq_true rfl, Nat.le_of_ble_eq_true rfl⟩) (pV (T := TX13) hP hK hD hT hG hS k0 (by decide) rfl) rfl rfl hl.1 rfl (lv_room (Nat.le_of_ble_eq_true rfl)) dX13_told_7 ⟨Nat.zero_le _, Nat.zero_le _⟩) hS (fun H locs hz1 hP hD hT hS => ?_)
  refine lv_if_eq (tgt := 41) hx hb dX13_told_10 rfl (fun c2 => ?_) (fun c2 => ?_)
  · replace h := ite_t c2 h
    refine lv_aload_n hx hb dX13_told_41 rfl (lv_at hl 0 rfl) ?_
    refine lv_iconst (v := 1) hx hb dX13_told_42 rfl ?_
    obtain ⟨z3, h3, h⟩ := ob_some h
    refine k_i (va_runV (As := [.int 1]) (rest := []) ⟨hx, hb, hml, hown, hts⟩ (c_X13_refused (l := l) (pI M a0 0 0) a0 1 k0 h3) (cwV 1 hts gX13_told_X13_refused rfl rfl rfl hdV_X13_refused ⟨Nat.le_of_ble_eq_true rfl, Nat.le_of_ble_eq_true rfl⟩) (pV (T := TX13) hP hK hD hT hG hS k0 (by decide) rfl) rfl rfl hl.1 rfl (lv_room (Nat.le_of_ble_eq_true rfl)) dX13_told_43 ⟨Nat.zero_le _, Nat.zero_le _⟩) hS (fun H locs hP hD hT hS => ?_)
    have hZ := Option.some.inj h
    exact r_iret hx hb hr hlocks hP hK hD hT hG hS (congrArg Prod.fst hZ) (congrArg Prod.snd hZ) dX13_told_46
  · replace h := ite_f c2 h
    refine lv_iload_n hx hb dX13_told_13 rfl (lv_at hl 2 rfl) ?_
    refine lv_if_lt (tgt := 41) hx hb dX13_told_14 rfl (fun c4 => ?_) (fun c4 => ?_)
    · replace h := ite_t c4 h
      refine lv_aload_n hx hb dX13_told_41 rfl (lv_at hl 0 rfl) ?_
      refine lv_iconst (v := 1) hx hb dX13_told_42 rfl ?_
      obtain ⟨z5, h5, h⟩ := ob_some h
      refine k_i (va_runV (As := [.int 1]) (rest := []) ⟨hx, hb, hml, hown, hts⟩ (c_X13_refused (l := l) (pI M a0 0 0) a0 1 k0 h5) (cwV 1 hts gX13_told_X13_refused rfl rfl rfl hdV_X13_refused ⟨Nat.le_of_ble_eq_true rfl, Nat.le_of_ble_eq_true rfl⟩) (pV (T := TX13) hP hK hD hT hG hS k0 (by decide) rfl) rfl rfl hl.1 rfl (lv_room (Nat.le_of_ble_eq_true rfl)) dX13_told_43 ⟨Nat.zero_le _, Nat.zero_le _⟩) hS (fun H locs hP hD hT hS => ?_)
      have hZ := Option.some.inj h
      exact r_iret hx hb hr hlocks hP hK hD hT hG hS (congrArg Prod.fst hZ) (congrArg Prod.snd hZ) dX13_told_46
    · replace h := ite_f c4 h
      refine lv_iload_n hx hb dX13_told_17 rfl (lv_at hl 2 rfl) ?_
      refine lv_aload_n hx hb dX13_told_18 rfl (lv_at hl 0 rfl) ?_
      rcases hN6 : gR (pI M a0 0 0) a0 3 with _ | b6
      · replace h := oc_n hN6 h
        refine r_get (T := TX13) (v := .null) hx hb hts in13 hown hK hP k0 (by decide) rfl 3 (by decide) (hts (.fieldLink RX13 431 "StoneWalkModel" "island" "LStoneWalkModel$Island;") (List.mem_of_getElem? (i := 2) (by decide +kernel))) rfl (t := 2) rfl (by show va_rf _ = _; rw [hN6]; rfl) dX13_told_19 ?_
        exact absurd h (by simp)
      · replace h := oc_s hN6 h
        have kb6 := hT.f k0 (k := 3) (t := 12) (n := 0) rfl hN6
        refine r_get (T := TX13) (v := .ref (ad b6)) hx hb hts in13 hown hK hP k0 (by decide) rfl 3 (by decide) (hts (.fieldLink RX13 431 "StoneWalkModel" "island" "LStoneWalkModel$Island;") (List.mem_of_getElem? (i := 2) (by decide +kernel))) rfl (t := 2) rfl (by show va_rf _ = _; rw [hN6]; rfl) dX13_told_19 ?_
        refine r_getN (T := TX12) (v := .int (gI (pI M a0 0 0) b6 6)) hx hb hts in12 hown hK hP kb6 (by decide) rfl 6 (by decide) (hG.2.2.1 _ (List.mem_of_getElem? (i := 41) rfl)) rfl (t := 0) rfl rfl dX13_told_22 ?_
        refine lv_icmp_ge (tgt := 41) hx hb dX13_told_25 rfl (fun c7 => ?_) (fun c7 => ?_)
        · replace h := ite_t c7 h
          refine lv_aload_n hx hb dX13_told_41 rfl (lv_at hl 0 rfl) ?_
          refine lv_iconst (v := 1) hx hb dX13_told_42 rfl ?_
          obtain ⟨z8, h8, h⟩ := ob_some h
          refine k_i (va_runV (As := [.int 1]) (rest := []) ⟨hx, hb, hml, hown, hts⟩ (c_X13_refused (l := l) (pI M a0 0 0) a0 1 k0 h8) (cwV 1 hts gX13_told_X13_refused rfl rfl rfl hdV_X13_refused ⟨Nat.le_of_ble_eq_true rfl, Nat.le_of_ble_eq_true rfl⟩) (pV (T := TX13) hP hK hD hT hG hS k0 (by decide) rfl) rfl rfl hl.1 rfl (lv_room (Nat.le_of_ble_eq_true rfl)) dX13_told_43 ⟨Nat.zero_le _, Nat.zero_le _⟩) hS (fun H locs hP hD hT hS => ?_)
          have hZ := Option.some.inj h
          exact r_iret hx hb hr hlocks hP hK hD hT hG hS (congrArg Prod.fst hZ) (congrArg Prod.snd hZ) dX13_told_46
        · replace h := ite_f c7 h
          refine lv_aload_n hx hb dX13_told_28 rfl (lv_at hl 0 rfl) ?_
          refine lv_aload_n hx hb dX13_told_29 rfl (lv_at hl 0 rfl) ?_
          refine lv_iload_n hx hb dX13_told_30 rfl (lv_at hl 1 rfl) ?_
          refine lv_iload_n hx hb dX13_told_31 rfl (lv_at hl 2 rfl) ?_
          obtain ⟨z9, h9, h⟩ := ob_some h
          refine k_i (va_runV (As := [.int x1, .int x2]) (rest := [.ref (ad a0)]) ⟨hx, hb, hml, hown, hts⟩ (c_X13_toldOf (l := l) (pI M a0 0 0) a0 x1 x2 k0 h9) (cwV 2 hts gX13_told_X13_toldOf rfl rfl rfl hdV_X13_toldOf ⟨Nat.le_of_ble_eq_true rfl, Nat.le_of_ble_eq_true rfl⟩) (pV (T := TX13) hP hK hD hT hG hS k0 (by decide) rfl) rfl rfl hl.1 rfl (lv_room (Nat.le_of_ble_eq_true rfl)) dX13_told_32 ⟨Nat.zero_le _, Nat.zero_le _⟩) hS (fun H locs hP hD hT hS => ?_)
          obtain ⟨z10, h10, h⟩ := ob_some h
          refine k_i (va_runV (As := [.int z9]) (rest := []) ⟨hx, hb, hml, hown, hts⟩ (c_X13_done (l := l) (pI M a0 0 0) a0 z9 k0 h10) (cwV 1 hts gX13_told_X13_done rfl rfl rfl hdV_X13_done ⟨Nat.le_of_ble_eq_true rfl, Nat.le_of_ble_eq_true rfl⟩) (pV (T := TX13) hP hK hD hT hG hS k0 (by decide) rfl) rfl rfl hl.1 rfl (lv_room (Nat.le_of_ble_eq_true rfl)) dX13_told_35 ⟨Nat.zero_le _, Nat.zero_le _⟩) hS (fun H locs hP hD hT hS => ?_)
          refine lv_goto (tgt := 46) hx hb dX13_told_38 rfl ?_
          have hZ := Option.some.inj h
          exact r_iret hx hb hr hlocks hP hK hD hT hG hS (congrArg Prod.fst hZ) (congrArg Prod.snd hZ) dX13_told_46
set_option maxHeartbeats 4000000 in
set_option maxRecDepth 100000 in
theorem c_X13_turn {l : Launch} {D : va_G} {ad : Nat → Nat} {cy : Nat → ClassId} {A : Nat → Prop} {g : CG} {q : SE} (M : MM) (a0 : Nat) (x1 : Int32) (x2 : Int32) (k0 : ok g a0 13 0) {Z : (Int32 × MM)} (h : f_X13_turn M a0 x1 x2 = some Z) : Met l yX13_turn wsX13_turn ({ frames := 2, cells := 0, slots := 0, locals := 42 }) (va_Pc [.ref (ad a0), .int x1, .int x2] (Wd D ad cy A g q M)) (va_Qi (fun r u => r = Z.1 ∧ u = Z.2 ∧ zb r) (Wd D ad cy A g q) A) 0 0 A := by
  refine Met.ofW (cc := cX13_turn) (maxL := 3) (ret := (some .boolean)) (by decide) rfl ?_
  intro p e s m args below meth c s₁ B hml hv
  obtain ⟨rfl, hP, hK, hD, hT, hG⟩ := hv
  have hx := B.exec
  have hb := B.bytes
  have hr := B.returns
  have hts := atoms_spec (ws := wsX13_turn) B.pre
  have hown : s.vm.findClass RX13 = some m.cls := findClass_of_methodNamed B.named
  have hlocks := B.notSynchronized
  have in12 : ∀ w ∈ u_ws RX12 TX12 48, w ∈ wsX13_turn := fun w h => List.mem_cons_of_mem _ (List.mem_append_right _ h)
  have in13 : ∀ w ∈ u_ws RX13 TX13 29, w ∈ wsX13_turn := fun w h => List.mem_cons_of_mem _ (List.mem_append_left _ (List.mem_append_right _ h))
  have hS : va_S A s.heap s.heap [] := va_S.rf
  have hl := lv_entry ([.ref (ad a0), .int x1, .int x2]) (n := 3) (Nat.le_of_ble_eq_true rfl)
  rw [lg_entry_eq]
  generalize (lg_sl ([.ref (ad a0), .int x1, .int x2]) ++ List.replicate (3 - (lg_sl ([.ref (ad a0), .int x1, .int x2])).length) Slot.unset).toArray = ls at hl ⊢
  have hl : lv_has ls 3 [(0, .ref (ad a0)), (1, .int x1), (2, .int x2)] := hl
  unfold f_X13_turn at h
  refine lv_aload_n hx hb dX13_turn_0 rfl (lv_at hl 0 rfl) ?_
  refine lv_iconst (v := 0) hx hb dX13_turn_1 rfl ?_
  refine r_putI (T := TX13) (ty := .int) (v := 0) hx hb hts in13 tyX13 tyX13_ok nmX13 hown hK hP hD hT hS k0 (by decide) rfl 0 (by decide) (hts (.fieldLink RX13 30 "StoneWalkModel" "thrown" "I") (List.mem_of_getElem? (i := 1) (by decide +kernel))) rfl rfl (tyX13_ok 0 (by decide)) rfl rfl rfl dX13_turn_2 (fun H locs hP hD hT hS => ?_)
  refine lv_aload_n hx hb dX13_turn_5 rfl (lv_at hl 0 rfl) ?_
  refine lv_iload_n hx hb dX13_turn_6 rfl (lv_at hl 1 rfl) ?_
  obtain ⟨z1, h1, h⟩ := ob_some h
  refine k_z (va_runV (As := [.int x1]) (rest := []) ⟨hx, hb, hml, hown, hts⟩ (c_X13_isStatue (l := l) (pI M a0 0 0) a0 x1 k0 h1) (cwV 1 hts gX13_turn_X13_isStatue rfl rfl rfl hdV_X13_isStatue ⟨Nat.le_of_ble_eq_true rfl, Nat.le_of_ble_eq_true rfl⟩) (pV (T := TX13) hP hK hD hT hG hS k0 (by decide) rfl) rfl rfl hl.1 rfl (lv_room (Nat.le_of_ble_eq_true rfl)) dX13_turn_7 ⟨Nat.zero_le _, Nat.zero_le _⟩) hS (fun H locs hz1 hP hD hT hS => ?_)
  refine lv_if_eq (tgt := 22) hx hb dX13_turn_10 rfl (fun c2 => ?_) (fun c2 => ?_)
  · replace h := ite_t c2 h
    refine lv_aload_n hx hb dX13_turn_22 rfl (lv_at hl 0 rfl) ?_
    refine lv_iconst (v := 1) hx hb dX13_turn_23 rfl ?_
    obtain ⟨z3, h3, h⟩ := ob_some h
    refine k_z (va_runV (As := [.int 1]) (rest := []) ⟨hx, hb, hml, hown, hts⟩ (c_X13_denied (l := l) (pI M a0 0 0) a0 1 k0 h3) (cwV 1 hts gX13_turn_X13_denied rfl rfl rfl hdV_X13_denied ⟨Nat.le_of_ble_eq_true rfl, Nat.le_of_ble_eq_true rfl⟩) (pV (T := TX13) hP hK hD hT hG hS k0 (by decide) rfl) rfl rfl hl.1 rfl (lv_room (Nat.le_of_ble_eq_true rfl)) dX13_turn_24 ⟨Nat.zero_le _, Nat.zero_le _⟩) hS (fun H locs hz3 hP hD hT hS => ?_)
    have hZ := Option.some.inj h
    exact r_zret hx hb hr hlocks hP hK hD hT hG hS hz3 (congrArg Prod.fst hZ) (congrArg Prod.snd hZ) dX13_turn_27
  · replace h := ite_f c2 h
    refine lv_iload_n hx hb dX13_turn_13 rfl (lv_at hl 2 rfl) ?_
    refine lv_iconst (v := 0) hx hb dX13_turn_14 rfl ?_
    refine lv_iconst (v := 2) hx hb dX13_turn_15 rfl ?_
    obtain ⟨z4, h4, h⟩ := ob_some h
    refine k_z (va_runS (As := [.int x2, .int 0, .int 2]) (rest := []) ⟨hx, hb, hml, hown, hts⟩ (c_X13_in (l := l) (pI M a0 0 0) x2 0 2 h4) (va_cwS 3 hts gX13_turn_X13_in rfl rfl rfl hdS_X13_in ⟨Nat.le_of_ble_eq_true rfl, Nat.le_of_ble_eq_true rfl⟩) (pS hP hK hD hT hG hS) rfl rfl hl.1 rfl (lv_room (Nat.le_of_ble_eq_true rfl)) dX13_turn_16 ⟨Nat.zero_le _, Nat.zero_le _⟩) hS (fun H locs hz4 hP hD hT hS => ?_)
    refine lv_if_ne (tgt := 28) hx hb dX13_turn_19 rfl (fun c5 => ?_) (fun c5 => ?_)
    · replace h := ite_f c5 h
      refine lv_aload_n hx hb dX13_turn_28 rfl (lv_at hl 0 rfl) ?_
      rcases hN6 : gR (pI M a0 0 0) a0 3 with _ | b6
      · replace h := oc_n hN6 h
        refine r_get (T := TX13) (v := .null) hx hb hts in13 hown hK hP k0 (by decide) rfl 3 (by decide) (hts (.fieldLink RX13 431 "StoneWalkModel" "island" "LStoneWalkModel$Island;") (List.mem_of_getElem? (i := 2) (by decide +kernel))) rfl (t := 2) rfl (by show va_rf _ = _; rw [hN6]; rfl) dX13_turn_29 ?_
        exact absurd h (by simp)
      · replace h := oc_s hN6 h
        have kb6 := hT.f k0 (k := 3) (t := 12) (n := 0) rfl hN6
        refine r_get (T := TX13) (v := .ref (ad b6)) hx hb hts in13 hown hK hP k0 (by decide) rfl 3 (by decide) (hts (.fieldLink RX13 431 "StoneWalkModel" "island" "LStoneWalkModel$Island;") (List.mem_of_getElem? (i := 2) (by decide +kernel))) rfl (t := 2) rfl (by show va_rf _ = _; rw [hN6]; rfl) dX13_turn_29 ?_
        rcases hN7 : gR (pI M a0 0 0) b6 18 with _ | b7
        · exact absurd (oc_n hN7 h) (by simp)
        replace h := oc_s hN7 h
        have kb7 := hT.f kb6 (k := 18) (t := 15) (n := 10) rfl hN7
        refine r_getN (T := TX12) (v := .ref (ad b7)) hx hb hts in12 hown hK hP kb6 (by decide) rfl 18 (by decide) (hG.2.2.1 _ (List.mem_of_getElem? (i := 18) rfl)) rfl (t := 2) rfl (by show va_rf _ = _; rw [hN7]; rfl) dX13_turn_32 ?_
        refine lv_iload_n hx hb dX13_turn_35 rfl (lv_at hl 1 rfl) ?_
        obtain ⟨hn8, h⟩ := chk_some h
        refine r_iald hx hb hK hP kb7 hn8 dX13_turn_36 ?_
        refine lv_iconst (v := 5) hx hb dX13_turn_37 rfl ?_
        refine lv_icmp_eq (tgt := 47) hx hb dX13_turn_38 rfl (fun c9 => ?_) (fun c9 => ?_)
        · replace h := ite_t c9 h
          refine lv_aload_n hx hb dX13_turn_47 rfl (lv_at hl 0 rfl) ?_
          rcases hN10 : gR (pI M a0 0 0) a0 3 with _ | b10
          · replace h := oc_n hN10 h
            refine r_get (T := TX13) (v := .null) hx hb hts in13 hown hK hP k0 (by decide) rfl 3 (by decide) (hts (.fieldLink RX13 431 "StoneWalkModel" "island" "LStoneWalkModel$Island;") (List.mem_of_getElem? (i := 2) (by decide +kernel))) rfl (t := 2) rfl (by show va_rf _ = _; rw [hN10]; rfl) dX13_turn_48 ?_
            exact absurd h (by simp)
          · replace h := oc_s hN10 h
            have kb10 := hT.f k0 (k := 3) (t := 12) (n := 0) rfl hN10
            refine r_get (T := TX13) (v := .ref (ad b10)) hx hb hts in13 hown hK hP k0 (by decide) rfl 3 (by decide) (hts (.fieldLink RX13 431 "StoneWalkModel" "island" "LStoneWalkModel$Island;") (List.mem_of_getElem? (i := 2) (by decide +kernel))) rfl (t := 2) rfl (by show va_rf _ = _; rw [hN10]; rfl) dX13_turn_48 ?_
            rcases hN11 : gR (pI M a0 0 0) b10 19 with _ | b11
            · exact absurd (oc_n hN11 h) (by simp)
            replace h := oc_s hN11 h
            have kb11 := hT.f kb10 (k := 19) (t := 15) (n := 10) rfl hN11
            refine r_getN (T := TX12) (v := .ref (ad b11)) hx hb hts in12 hown hK hP kb10 (by decide) rfl 19 (by decide) (hG.2.2.1 _ (List.mem_of_getElem? (i := 19) rfl)) rfl (t := 2) rfl (by show va_rf _ = _; rw [hN11]; rfl) dX13_turn_51 ?_
            refine lv_iload_n hx hb dX13_turn_54 rfl (lv_at hl 1 rfl) ?_
            refine lv_iload_n hx hb dX13_turn_55 rfl (lv_at hl 2 rfl) ?_
            obtain ⟨hn12, h⟩ := chk_some h
            refine r_iast hx hb hK hP hD hT hS kb11 hn12 dX13_turn_56 (fun H locs hP hD hT hS => ?_)
            refine lv_aload_n hx hb dX13_turn_57 rfl (lv_at hl 0 rfl) ?_
            obtain ⟨z13, h13, h⟩ := ob_some h
            refine k_z (va_runV (As := []) (rest := []) ⟨hx, hb, hml, hown, hts⟩ (c_X13_granted (l := l) (pI (pI M a0 0 0) b11 (ix x1) x2) a0 k0 h13) (cwV 0 hts gX13_turn_X13_granted rfl rfl rfl hdV_X13_granted ⟨Nat.le_of_ble_eq_true rfl, Nat.le_of_ble_eq_true rfl⟩) (pV (T := TX13) hP hK hD hT hG hS k0 (by decide) rfl) rfl rfl hl.1 rfl (lv_room (Nat.le_of_ble_eq_true rfl)) dX13_turn_58 ⟨Nat.zero_le _, Nat.zero_le _⟩) hS (fun H locs hz13 hP hD hT hS => ?_)
            have hZ := Option.some.inj h
            exact r_zret hx hb hr hlocks hP hK hD hT hG hS hz13 (congrArg Prod.fst hZ) (congrArg Prod.snd hZ) dX13_turn_61
        · replace h := ite_f c9 h
          refine lv_aload_n hx hb dX13_turn_41 rfl (lv_at hl 0 rfl) ?_
          refine lv_iconst (v := 5) hx hb dX13_turn_42 rfl ?_
          obtain ⟨z14, h14, h⟩ := ob_some h
          refine k_z (va_runV (As := [.int 5]) (rest := []) ⟨hx, hb, hml, hown, hts⟩ (c_X13_denied (l := l) (pI M a0 0 0) a0 5 k0 h14) (cwV 1 hts gX13_turn_X13_denied rfl rfl rfl hdV_X13_denied ⟨Nat.le_of_ble_eq_true rfl, Nat.le_of_ble_eq_true rfl⟩) (pV (T := TX13) hP hK hD hT hG hS k0 (by decide) rfl) rfl rfl hl.1 rfl (lv_room (Nat.le_of_ble_eq_true rfl)) dX13_turn_43 ⟨Nat.zero_le _, Nat.zero_le _⟩) hS (fun H locs hz14 hP hD hT hS => ?_)
          have hZ := Option.some.inj h
          exact r_zret hx hb hr hlocks hP hK hD hT hG hS hz14 (congrArg Prod.fst hZ) (congrArg Prod.snd hZ) dX13_turn_46
    · replace h := ite_t c5 h
      refine lv_aload_n hx hb dX13_turn_22 rfl (lv_at hl 0 rfl) ?_
      refine lv_iconst (v := 1) hx hb dX13_turn_23 rfl ?_
      obtain ⟨z15, h15, h⟩ := ob_some h
      refine k_z (va_runV (As := [.int 1]) (rest := []) ⟨hx, hb, hml, hown, hts⟩ (c_X13_denied (l := l) (pI M a0 0 0) a0 1 k0 h15) (cwV 1 hts gX13_turn_X13_denied rfl rfl rfl hdV_X13_denied ⟨Nat.le_of_ble_eq_true rfl, Nat.le_of_ble_eq_true rfl⟩) (pV (T := TX13) hP hK hD hT hG hS k0 (by decide) rfl) rfl rfl hl.1 rfl (lv_room (Nat.le_of_ble_eq_true rfl)) dX13_turn_24 ⟨Nat.zero_le _, Nat.zero_le _⟩) hS (fun H locs hz15 hP hD hT hS => ?_)
      have hZ := Option.some.inj h
      exact r_zret hx hb hr hlocks hP hK hD hT hG hS hz15 (congrArg Prod.fst hZ) (congrArg Prod.snd hZ) dX13_turn_27
set_option maxHeartbeats 4000000 in
set_option maxRecDepth 100000 in
theorem c_X13_hangs {l : Launch} {D : va_G} {ad : Nat → Nat} {cy : Nat → ClassId} {A : Nat → Prop} {g : CG} {q : SE} (M : MM) (a0 : Nat) (k0 : ok g a0 13 0) {Z : (Int32 × MM)} (h : f_X13_hangs M a0 = some Z) : Met l yX13_hangs wsX13_hangs ({ frames := 4, cells := 0, slots := 0, locals := 98 }) (va_Pc [.ref (ad a0)] (Wd D ad cy A g q M)) (va_Qi (fun r u => r = Z.1 ∧ u = Z.2) (Wd D ad cy A g q) A) 0 0 A := by
  refine Met.ofW (cc := cX13_hangs) (maxL := 3) (ret := (some .int)) (by decide) rfl ?_
  intro p e s m args below meth c s₁ B hml hv
  obtain ⟨rfl, hP, hK, hD, hT, hG⟩ := hv
  have hx := B.exec
  have hb := B.bytes
  have hr := B.returns
  have hts := atoms_spec (ws := wsX13_hangs) B.pre
  have hown : s.vm.findClass RX13 = some m.cls := findClass_of_methodNamed B.named
  have hlocks := B.notSynchronized
  have in12 : ∀ w ∈ u_ws RX12 TX12 48, w ∈ wsX13_hangs := fun w h => List.mem_cons_of_mem _ (List.mem_append_right _ h)
  have in13 : ∀ w ∈ u_ws RX13 TX13 29, w ∈ wsX13_hangs := fun w h => List.mem_cons_of_mem _ (List.mem_append_left _ (List.mem_append_right _ h))
  have hS : va_S A s.heap s.heap [] := va_S.rf
  have hl := lv_entry ([.ref (ad a0)]) (n := 3) (Nat.le_of_ble_eq_true rfl)
  rw [lg_entry_eq]
  generalize (lg_sl ([.ref (ad a0)]) ++ List.replicate (3 - (lg_sl ([.ref (ad a0)])).length) Slot.unset).toArray = ls at hl ⊢
  have hl : lv_has ls 3 [(0, .ref (ad a0))] := hl
  unfold f_X13_hangs at h
  refine lv_aload_n hx hb dX13_hangs_0 rfl (lv_at hl 0 rfl) ?_
  refine lv_iconst (v := 0) hx hb dX13_hangs_1 rfl ?_
  refine r_putI (T := TX13) (ty := .int) (v := 0) hx hb hts in13 tyX13 tyX13_ok nmX13 hown hK hP hD hT hS k0 (by decide) rfl 0 (by decide) (hts (.fieldLink RX13 30 "StoneWalkModel" "thrown" "I") (List.mem_of_getElem? (i := 1) (by decide +kernel))) rfl rfl (tyX13_ok 0 (by decide)) rfl rfl rfl dX13_hangs_2 (fun H locs hP hD hT hS => ?_)
  refine lv_aload_n hx hb dX13_hangs_5 rfl (lv_at hl 0 rfl) ?_
  rcases hN1 : gR (pI M a0 0 0) a0 3 with _ | b1
  · replace h := oc_n hN1 h
    refine r_get (T := TX13) (v := .null) hx hb hts in13 hown hK hP k0 (by decide) rfl 3 (by decide) (hts (.fieldLink RX13 431 "StoneWalkModel" "island" "LStoneWalkModel$Island;") (List.mem_of_getElem? (i := 2) (by decide +kernel))) rfl (t := 2) rfl (by show va_rf _ = _; rw [hN1]; rfl) dX13_hangs_6 ?_
    refine lv_ifnonnullN hx hb dX13_hangs_9 ?_
    refine lv_aload_n hx hb dX13_hangs_12 rfl (lv_at hl 0 rfl) ?_
    refine lv_iconst (v := 1) hx hb dX13_hangs_13 rfl ?_
    obtain ⟨z2, h2, h⟩ := ob_some h
    refine k_i (va_runV (As := [.int 1]) (rest := []) ⟨hx, hb, hml, hown, hts⟩ (c_X13_refused (l := l) (pI M a0 0 0) a0 1 k0 h2) (cwV 1 hts gX13_hangs_X13_refused rfl rfl rfl hdV_X13_refused ⟨Nat.le_of_ble_eq_true rfl, Nat.le_of_ble_eq_true rfl⟩) (pV (T := TX13) hP hK hD hT hG hS k0 (by decide) rfl) rfl rfl hl.1 rfl (lv_room (Nat.le_of_ble_eq_true rfl)) dX13_hangs_14 ⟨Nat.zero_le _, Nat.zero_le _⟩) hS (fun H locs hP hD hT hS => ?_)
    have hZ := Option.some.inj h
    exact r_iret hx hb hr hlocks hP hK hD hT hG hS (congrArg Prod.fst hZ) (congrArg Prod.snd hZ) dX13_hangs_17
  · replace h := oc_s hN1 h
    have kb1 := hT.f k0 (k := 3) (t := 12) (n := 0) rfl hN1
    refine r_get (T := TX13) (v := .ref (ad b1)) hx hb hts in13 hown hK hP k0 (by decide) rfl 3 (by decide) (hts (.fieldLink RX13 431 "StoneWalkModel" "island" "LStoneWalkModel$Island;") (List.mem_of_getElem? (i := 2) (by decide +kernel))) rfl (t := 2) rfl (by show va_rf _ = _; rw [hN1]; rfl) dX13_hangs_6 ?_
    refine lv_ifnonnull (tgt := 18) hx hb dX13_hangs_9 rfl ?_
    refine lv_aload_n hx hb dX13_hangs_18 rfl (lv_at hl 0 rfl) ?_
    refine lv_iconst (v := (-1)) hx hb dX13_hangs_19 rfl ?_
    obtain ⟨z3, h3, h⟩ := ob_some h
    refine k_i (va_runV (As := [.int (-1)]) (rest := []) ⟨hx, hb, hml, hown, hts⟩ (c_X13_likeliestOf (l := l) (pI M a0 0 0) a0 (-1) k0 h3) (cwV 1 hts gX13_hangs_X13_likeliestOf rfl rfl rfl hdV_X13_likeliestOf ⟨Nat.le_of_ble_eq_true rfl, Nat.le_of_ble_eq_true rfl⟩) (pV (T := TX13) hP hK hD hT hG hS k0 (by decide) rfl) rfl rfl hl.1 rfl (lv_room (Nat.le_of_ble_eq_true rfl)) dX13_hangs_20 ⟨Nat.zero_le _, Nat.zero_le _⟩) hS (fun H locs hP hD hT hS => ?_)
    refine lv_istore_n (lv' := [(1, .int z3), (0, .ref (ad a0))]) hx hb dX13_hangs_23 rfl hl (by decide) rfl (fun ls hl => ?_)
    refine lv_iconst (v := 0) hx hb dX13_hangs_24 rfl ?_
    refine lv_istore_n (lv' := [(2, .int 0), (1, .int z3), (0, .ref (ad a0))]) hx hb dX13_hangs_25 rfl hl (by decide) rfl (fun ls hl => ?_)
    have L4 : ∀ n4 : Nat, ∀ (M4 : MM) (y4_0 : Nat) (y4_1 : Int32) (y4_2 : Int32) (ky4_0 : ok g y4_0 13 0) (H : Heap) (locs : List Loc), f_X13_hangs_L26 n4 M4 y4_0 y4_1 y4_2 = some Z → va_P D vwCl (wd ad cy g M4) H → va_D A (wd ad cy g M4) → WT g M4 → va_S A s.heap H locs → ∀ (ls : Array Slot), lv_has ls 3 [(0, .ref (ad y4_0)), (1, .int y4_1), (2, .int y4_2)] → W p l e ((headSpec wsX13_hangs ({ frames := 4, cells := 0, slots := 0, locals := 98 })).room) s m (([.ref (ad a0)] : List Value).toArray) below meth c H locs 0 0 (MQ below (va_Qi (fun r u => r = Z.1 ∧ u = Z.2) (Wd D ad cy A g q) A) ([.ref (ad a0)]).toArray s 0 0 A) (F0 m 26 ls []) := by
      intro n4
      induction n4 with
      | zero => intro M4 y4_0 y4_1 y4_2 ky4_0 H locs h; exact absurd h (by simp [f_X13_hangs_L26])
      | succ n4 ih4 =>
        intro M4 y4_0 y4_1 y4_2 ky4_0 H locs h hP hD hT hS ls hl
        rw [f_X13_hangs_L26] at h
        refine lv_iload_n hx hb dX13_hangs_26 rfl (lv_at hl 2 rfl) ?_
        refine lv_aload_n hx hb dX13_hangs_27 rfl (lv_at hl 0 rfl) ?_
        rcases hN5 : gR M4 y4_0 3 with _ | b5
        · replace h := oc_n hN5 h
          refine r_get (T := TX13) (v := .null) hx hb hts in13 hown hK hP ky4_0 (by decide) rfl 3 (by decide) (hts (.fieldLink RX13 431 "StoneWalkModel" "island" "LStoneWalkModel$Island;") (List.mem_of_getElem? (i := 2) (by decide +kernel))) rfl (t := 2) rfl (by show va_rf _ = _; rw [hN5]; rfl) dX13_hangs_28 ?_
          exact absurd h (by simp)
        · replace h := oc_s hN5 h
          have kb5 := hT.f ky4_0 (k := 3) (t := 12) (n := 0) rfl hN5
          refine r_get (T := TX13) (v := .ref (ad b5)) hx hb hts in13 hown hK hP ky4_0 (by decide) rfl 3 (by decide) (hts (.fieldLink RX13 431 "StoneWalkModel" "island" "LStoneWalkModel$Island;") (List.mem_of_getElem? (i := 2) (by decide +kernel))) rfl (t := 2) rfl (by show va_rf _ = _; rw [hN5]; rfl) dX13_hangs_28 ?_
          refine r_getN (T := TX12) (v := .int (gI M4 b5 2)) hx hb hts in12 hown hK hP kb5 (by decide) rfl 2 (by decide) (hG.2.2.1 _ (List.mem_of_getElem? (i := 7) rfl)) rfl (t := 0) rfl rfl dX13_hangs_31 ?_
          refine lv_icmp_ge (tgt := 71) hx hb dX13_hangs_34 rfl (fun c6 => ?_) (fun c6 => ?_)
          · replace h := ite_t c6 h
            refine lv_aload_n hx hb dX13_hangs_71 rfl (lv_at hl 0 rfl) ?_
            refine lv_bipush (v := (-2)) hx hb dX13_hangs_72 rfl ?_
            obtain ⟨z7, h7, h⟩ := ob_some h
            refine k_i (va_runV (As := [.int (-2)]) (rest := []) ⟨hx, hb, hml, hown, hts⟩ (c_X13_done (l := l) M4 y4_0 (-2) ky4_0 h7) (cwV 1 hts gX13_hangs_X13_done rfl rfl rfl hdV_X13_done ⟨Nat.le_of_ble_eq_true rfl, Nat.le_of_ble_eq_true rfl⟩) (pV (T := TX13) hP hK hD hT hG hS ky4_0 (by decide) rfl) rfl rfl hl.1 rfl (lv_room (Nat.le_of_ble_eq_true rfl)) dX13_hangs_74 ⟨Nat.zero_le _, Nat.zero_le _⟩) hS (fun H locs hP hD hT hS => ?_)
            have hZ := Option.some.inj h
            exact r_iret hx hb hr hlocks hP hK hD hT hG hS (congrArg Prod.fst hZ) (congrArg Prod.snd hZ) dX13_hangs_77
          · replace h := ite_f c6 h
            refine lv_aload_n hx hb dX13_hangs_37 rfl (lv_at hl 0 rfl) ?_
            rcases hN8 : gR M4 y4_0 3 with _ | b8
            · replace h := oc_n hN8 h
              refine r_get (T := TX13) (v := .null) hx hb hts in13 hown hK hP ky4_0 (by decide) rfl 3 (by decide) (hts (.fieldLink RX13 431 "StoneWalkModel" "island" "LStoneWalkModel$Island;") (List.mem_of_getElem? (i := 2) (by decide +kernel))) rfl (t := 2) rfl (by show va_rf _ = _; rw [hN8]; rfl) dX13_hangs_38 ?_
              exact absurd h (by simp)
            · replace h := oc_s hN8 h
              have kb8 := hT.f ky4_0 (k := 3) (t := 12) (n := 0) rfl hN8
              refine r_get (T := TX13) (v := .ref (ad b8)) hx hb hts in13 hown hK hP ky4_0 (by decide) rfl 3 (by decide) (hts (.fieldLink RX13 431 "StoneWalkModel" "island" "LStoneWalkModel$Island;") (List.mem_of_getElem? (i := 2) (by decide +kernel))) rfl (t := 2) rfl (by show va_rf _ = _; rw [hN8]; rfl) dX13_hangs_38 ?_
              rcases hN9 : gR M4 b8 18 with _ | b9
              · exact absurd (oc_n hN9 h) (by simp)
              replace h := oc_s hN9 h
              have kb9 := hT.f kb8 (k := 18) (t := 15) (n := 10) rfl hN9
              refine r_getN (T := TX12) (v := .ref (ad b9)) hx hb hts in12 hown hK hP kb8 (by decide) rfl 18 (by decide) (hG.2.2.1 _ (List.mem_of_getElem? (i := 18) rfl)) rfl (t := 2) rfl (by show va_rf _ = _; rw [hN9]; rfl) dX13_hangs_41 ?_
              refine lv_iload_n hx hb dX13_hangs_44 rfl (lv_at hl 2 rfl) ?_
              obtain ⟨hn10, h⟩ := chk_some h
              refine r_iald hx hb hK hP kb9 hn10 dX13_hangs_45 ?_
              refine lv_iconst (v := 5) hx hb dX13_hangs_46 rfl ?_
              refine lv_icmp_ne (tgt := 65) hx hb dX13_hangs_47 rfl (fun c11 => ?_) (fun c11 => ?_)
              · replace h := ite_f c11 h
                refine lv_iinc (v := y4_2 + 1) (lv' := [(2, .int (y4_2 + 1)), (0, .ref (ad y4_0)), (1, .int y4_1)]) hx hb dX13_hangs_65 hl (k := 2) rfl rfl (by decide) rfl (fun ls hl => ?_)
                refine lv_goto (tgt := 26) hx hb dX13_hangs_68 rfl ?_
                exact ih4 M4 y4_0 y4_1 (y4_2 + 1) ky4_0 _ _ h hP hD hT hS ls (lv_sub hl [1, 2, 0] rfl)
              · replace h := ite_t c11 h
                refine lv_aload_n hx hb dX13_hangs_50 rfl (lv_at hl 0 rfl) ?_
                refine lv_iload_n hx hb dX13_hangs_51 rfl (lv_at hl 2 rfl) ?_
                obtain ⟨z12, h12, h⟩ := ob_some h
                refine k_i (va_runV (As := [.int y4_2]) (rest := []) ⟨hx, hb, hml, hown, hts⟩ (c_X13_likeliestOf (l := l) M4 y4_0 y4_2 ky4_0 h12) (cwV 1 hts gX13_hangs_X13_likeliestOf rfl rfl rfl hdV_X13_likeliestOf ⟨Nat.le_of_ble_eq_true rfl, Nat.le_of_ble_eq_true rfl⟩) (pV (T := TX13) hP hK hD hT hG hS ky4_0 (by decide) rfl) rfl rfl hl.1 rfl (lv_room (Nat.le_of_ble_eq_true rfl)) dX13_hangs_52 ⟨Nat.zero_le _, Nat.zero_le _⟩) hS (fun H locs hP hD hT hS => ?_)
                refine lv_iload_n hx hb dX13_hangs_55 rfl (lv_at hl 1 rfl) ?_
                refine lv_icmp_eq (tgt := 65) hx hb dX13_hangs_56 rfl (fun c13 => ?_) (fun c13 => ?_)
                · replace h := ite_t c13 h
                  refine lv_iinc (v := y4_2 + 1) (lv' := [(2, .int (y4_2 + 1)), (0, .ref (ad y4_0)), (1, .int y4_1)]) hx hb dX13_hangs_65 hl (k := 2) rfl rfl (by decide) rfl (fun ls hl => ?_)
                  refine lv_goto (tgt := 26) hx hb dX13_hangs_68 rfl ?_
                  exact ih4 M4 y4_0 y4_1 (y4_2 + 1) ky4_0 _ _ h hP hD hT hS ls (lv_sub hl [1, 2, 0] rfl)
                · replace h := ite_f c13 h
                  refine lv_aload_n hx hb dX13_hangs_59 rfl (lv_at hl 0 rfl) ?_
                  refine lv_iload_n hx hb dX13_hangs_60 rfl (lv_at hl 2 rfl) ?_
                  obtain ⟨z14, h14, h⟩ := ob_some h
                  refine k_i (va_runV (As := [.int y4_2]) (rest := []) ⟨hx, hb, hml, hown, hts⟩ (c_X13_done (l := l) M4 y4_0 y4_2 ky4_0 h14) (cwV 1 hts gX13_hangs_X13_done rfl rfl rfl hdV_X13_done ⟨Nat.le_of_ble_eq_true rfl, Nat.le_of_ble_eq_true rfl⟩) (pV (T := TX13) hP hK hD hT hG hS ky4_0 (by decide) rfl) rfl rfl hl.1 rfl (lv_room (Nat.le_of_ble_eq_true rfl)) dX13_hangs_61 ⟨Nat.zero_le _, Nat.zero_le _⟩) hS (fun H locs hP hD hT hS => ?_)
                  have hZ := Option.some.inj h
                  exact r_iret hx hb hr hlocks hP hK hD hT hG hS (congrArg Prod.fst hZ) (congrArg Prod.snd hZ) dX13_hangs_64
    exact L4 FU (pI M a0 0 0) a0 z3 0 k0 _ _ h hP hD hT hS ls (lv_sub hl [2, 1, 0] rfl)
set_option maxHeartbeats 4000000 in
set_option maxRecDepth 100000 in
theorem c_X13_tryout {l : Launch} {D : va_G} {ad : Nat → Nat} {cy : Nat → ClassId} {A : Nat → Prop} {g : CG} {q : SE} (M : MM) (a0 : Nat) (k0 : ok g a0 13 0) {Z : (Int32 × MM)} (h : f_X13_tryout M a0 = some Z) : Met l yX13_tryout wsX13_tryout ({ frames := 3, cells := 0, slots := 0, locals := 75 }) (va_Pc [.ref (ad a0)] (Wd D ad cy A g q M)) (va_Qi (fun r u => r = Z.1 ∧ u = Z.2) (Wd D ad cy A g q) A) 0 0 A := by
  refine Met.ofW (cc := cX13_tryout) (maxL := 11) (ret := (some .int)) (by decide) rfl ?_
  intro p e s m args below meth c s₁ B hml hv
  obtain ⟨rfl, hP, hK, hD, hT, hG⟩ := hv
  have hx := B.exec
  have hb := B.bytes
  have hr := B.returns
  have hts := atoms_spec (ws := wsX13_tryout) B.pre
  have hown : s.vm.findClass RX13 = some m.cls := findClass_of_methodNamed B.named
  have hlocks := B.notSynchronized
  have in12 : ∀ w ∈ u_ws RX12 TX12 48, w ∈ wsX13_tryout := fun w h => List.mem_cons_of_mem _ (List.mem_append_right _ h)
  have in13 : ∀ w ∈ u_ws RX13 TX13 29, w ∈ wsX13_tryout := fun w h => List.mem_cons_of_mem _ (List.mem_append_left _ (List.mem_append_right _ h))
  have hS : va_S A s.heap s.heap [] := va_S.rf
  have hl := lv_entry ([.ref (ad a0)]) (n := 11) (Nat.le_of_ble_eq_true rfl)
  rw [lg_entry_eq]
  generalize (lg_sl ([.ref (ad a0)]) ++ List.replicate (11 - (lg_sl ([.ref (ad a0)])).length) Slot.unset).toArray = ls at hl ⊢
  have hl : lv_has ls 11 [(0, .ref (ad a0))] := hl
  unfold f_X13_tryout at h
  refine lv_aload_n hx hb dX13_tryout_0 rfl (lv_at hl 0 rfl) ?_
  refine lv_iconst (v := 0) hx hb dX13_tryout_1 rfl ?_
  refine r_putI (T := TX13) (ty := .int) (v := 0) hx hb hts in13 tyX13 tyX13_ok nmX13 hown hK hP hD hT hS k0 (by decide) rfl 0 (by decide) (hts (.fieldLink RX13 30 "StoneWalkModel" "thrown" "I") (List.mem_of_getElem? (i := 1) (by decide +kernel))) rfl rfl (tyX13_ok 0 (by decide)) rfl rfl rfl dX13_tryout_2 (fun H locs hP hD hT hS => ?_)
  refine lv_aload_n hx hb dX13_tryout_5 rfl (lv_at hl 0 rfl) ?_
  rcases hN1 : gR (pI M a0 0 0) a0 3 with _ | b1
  · replace h := oc_n hN1 h
    refine r_get (T := TX13) (v := .null) hx hb hts in13 hown hK hP k0 (by decide) rfl 3 (by decide) (hts (.fieldLink RX13 431 "StoneWalkModel" "island" "LStoneWalkModel$Island;") (List.mem_of_getElem? (i := 2) (by decide +kernel))) rfl (t := 2) rfl (by show va_rf _ = _; rw [hN1]; rfl) dX13_tryout_6 ?_
    refine lv_ifnonnullN hx hb dX13_tryout_9 ?_
    refine lv_aload_n hx hb dX13_tryout_12 rfl (lv_at hl 0 rfl) ?_
    refine lv_iconst (v := 1) hx hb dX13_tryout_13 rfl ?_
    obtain ⟨z2, h2, h⟩ := ob_some h
    refine k_i (va_runV (As := [.int 1]) (rest := []) ⟨hx, hb, hml, hown, hts⟩ (c_X13_refused (l := l) (pI M a0 0 0) a0 1 k0 h2) (cwV 1 hts gX13_tryout_X13_refused rfl rfl rfl hdV_X13_refused ⟨Nat.le_of_ble_eq_true rfl, Nat.le_of_ble_eq_true rfl⟩) (pV (T := TX13) hP hK hD hT hG hS k0 (by decide) rfl) rfl rfl hl.1 rfl (lv_room (Nat.le_of_ble_eq_true rfl)) dX13_tryout_14 ⟨Nat.zero_le _, Nat.zero_le _⟩) hS (fun H locs hP hD hT hS => ?_)
    have hZ := Option.some.inj h
    exact r_iret hx hb hr hlocks hP hK hD hT hG hS (congrArg Prod.fst hZ) (congrArg Prod.snd hZ) dX13_tryout_17
  · replace h := oc_s hN1 h
    have kb1 := hT.f k0 (k := 3) (t := 12) (n := 0) rfl hN1
    refine r_get (T := TX13) (v := .ref (ad b1)) hx hb hts in13 hown hK hP k0 (by decide) rfl 3 (by decide) (hts (.fieldLink RX13 431 "StoneWalkModel" "island" "LStoneWalkModel$Island;") (List.mem_of_getElem? (i := 2) (by decide +kernel))) rfl (t := 2) rfl (by show va_rf _ = _; rw [hN1]; rfl) dX13_tryout_6 ?_
    refine lv_ifnonnull (tgt := 18) hx hb dX13_tryout_9 rfl ?_
    refine lv_aload_n hx hb dX13_tryout_18 rfl (lv_at hl 0 rfl) ?_
    rcases hN3 : gR (pI M a0 0 0) a0 3 with _ | b3
    · replace h := oc_n hN3 h
      refine r_get (T := TX13) (v := .null) hx hb hts in13 hown hK hP k0 (by decide) rfl 3 (by decide) (hts (.fieldLink RX13 431 "StoneWalkModel" "island" "LStoneWalkModel$Island;") (List.mem_of_getElem? (i := 2) (by decide +kernel))) rfl (t := 2) rfl (by show va_rf _ = _; rw [hN3]; rfl) dX13_tryout_19 ?_
      exact absurd h (by simp)
    · replace h := oc_s hN3 h
      have kb3 := hT.f k0 (k := 3) (t := 12) (n := 0) rfl hN3
      refine r_get (T := TX13) (v := .ref (ad b3)) hx hb hts in13 hown hK hP k0 (by decide) rfl 3 (by decide) (hts (.fieldLink RX13 431 "StoneWalkModel" "island" "LStoneWalkModel$Island;") (List.mem_of_getElem? (i := 2) (by decide +kernel))) rfl (t := 2) rfl (by show va_rf _ = _; rw [hN3]; rfl) dX13_tryout_19 ?_
      refine r_getN (T := TX12) (v := .int (gI (pI M a0 0 0) b3 7)) hx hb hts in12 hown hK hP kb3 (by decide) rfl 7 (by decide) (hG.2.2.1 _ (List.mem_of_getElem? (i := 44) rfl)) rfl (t := 0) rfl rfl dX13_tryout_22 ?_
      refine lv_if_ne (tgt := 35) hx hb dX13_tryout_25 rfl (fun c4 => ?_) (fun c4 => ?_)
      · replace h := ite_f c4 h
        refine lv_iconst (v := 0) hx hb dX13_tryout_35 rfl ?_
        refine lv_istore_n (lv' := [(1, .int 0), (0, .ref (ad a0))]) hx hb dX13_tryout_36 rfl hl (by decide) rfl (fun ls hl => ?_)
        refine lv_lconst (v := 0) hx hb dX13_tryout_37 rfl ?_
        refine lv_lstore_n (lv' := [(2, .long 0), (1, .int 0), (0, .ref (ad a0))]) hx hb dX13_tryout_38 rfl hl (by decide) rfl (fun ls hl => ?_)
        refine lv_iconst (v := 0) hx hb dX13_tryout_39 rfl ?_
        refine lv_istore (lv' := [(4, .int 0), (2, .long 0), (1, .int 0), (0, .ref (ad a0))]) hx hb dX13_tryout_40 hl (by decide) rfl (fun ls hl => ?_)
        have L5 : ∀ n5 : Nat, ∀ (M5 : MM) (y5_0 : Nat) (y5_1 : Int32) (y5_2 : Int64) (y5_4 : Int32) (ky5_0 : ok g y5_0 13 0) (H : Heap) (locs : List Loc), f_X13_tryout_L42 n5 M5 y5_0 y5_1 y5_2 y5_4 = some Z → va_P D vwCl (wd ad cy g M5) H → va_D A (wd ad cy g M5) → WT g M5 → va_S A s.heap H locs → ∀ (ls : Array Slot), lv_has ls 11 [(0, .ref (ad y5_0)), (1, .int y5_1), (2, .long y5_2), (4, .int y5_4)] → W p l e ((headSpec wsX13_tryout ({ frames := 3, cells := 0, slots := 0, locals := 75 })).room) s m (([.ref (ad a0)] : List Value).toArray) below meth c H locs 0 0 (MQ below (va_Qi (fun r u => r = Z.1 ∧ u = Z.2) (Wd D ad cy A g q) A) ([.ref (ad a0)]).toArray s 0 0 A) (F0 m 42 ls []) := by
          intro n5
          induction n5 with
          | zero => intro M5 y5_0 y5_1 y5_2 y5_4 ky5_0 H locs h; exact absurd h (by simp [f_X13_tryout_L42])
          | succ n5 ih5 =>
            intro M5 y5_0 y5_1 y5_2 y5_4 ky5_0 H locs h hP hD hT hS ls hl
            rw [f_X13_tryout_L42] at h
            refine lv_iload hx hb dX13_tryout_42 (lv_at hl 3 rfl) ?_
            refine lv_aload_n hx hb dX13_tryout_44 rfl (lv_at hl 0 rfl) ?_
            rcases hN6 : gR M5 y5_0 3 with _ | b6
            · replace h := oc_n hN6 h
              refine r_get (T := TX13) (v := .null) hx hb hts in13 hown hK hP ky5_0 (by decide) rfl 3 (by decide) (hts (.fieldLink RX13 431 "StoneWalkModel" "island" "LStoneWalkModel$Island;") (List.mem_of_getElem? (i := 2) (by decide +kernel))) rfl (t := 2) rfl (by show va_rf _ = _; rw [hN6]; rfl) dX13_tryout_45 ?_
              exact absurd h (by simp)
            · replace h := oc_s hN6 h
              have kb6 := hT.f ky5_0 (k := 3) (t := 12) (n := 0) rfl hN6
              refine r_get (T := TX13) (v := .ref (ad b6)) hx hb hts in13 hown hK hP ky5_0 (by decide) rfl 3 (by decide) (hts (.fieldLink RX13 431 "StoneWalkModel" "island" "LStoneWalkModel$Island;") (List.mem_of_getElem? (i := 2) (by decide +kernel))) rfl (t := 2) rfl (by show va_rf _ = _; rw [hN6]; rfl) dX13_tryout_45 ?_
              refine r_getN (T := TX12) (v := .int (gI M5 b6 7)) hx hb hts in12 hown hK hP kb6 (by decide) rfl 7 (by decide) (hG.2.2.1 _ (List.mem_of_getElem? (i := 44) rfl)) rfl (t := 0) rfl rfl dX13_tryout_48 ?_
              refine lv_icmp_ge (tgt := 222) hx hb dX13_tryout_51 rfl (fun c7 => ?_) (fun c7 => ?_)
              · replace h := ite_t c7 h
                refine lv_aload_n hx hb dX13_tryout_222 rfl (lv_at hl 0 rfl) ?_
                refine lv_iload_n hx hb dX13_tryout_223 rfl (lv_at hl 1 rfl) ?_
                obtain ⟨z8, h8, h⟩ := ob_some h
                refine k_i (va_runV (As := [.int y5_1]) (rest := []) ⟨hx, hb, hml, hown, hts⟩ (c_X13_done (l := l) M5 y5_0 y5_1 ky5_0 h8) (cwV 1 hts gX13_tryout_X13_done rfl rfl rfl hdV_X13_done ⟨Nat.le_of_ble_eq_true rfl, Nat.le_of_ble_eq_true rfl⟩) (pV (T := TX13) hP hK hD hT hG hS ky5_0 (by decide) rfl) rfl rfl hl.1 rfl (lv_room (Nat.le_of_ble_eq_true rfl)) dX13_tryout_224 ⟨Nat.zero_le _, Nat.zero_le _⟩) hS (fun H locs hP hD hT hS => ?_)
                have hZ := Option.some.inj h
                exact r_iret hx hb hr hlocks hP hK hD hT hG hS (congrArg Prod.fst hZ) (congrArg Prod.snd hZ) dX13_tryout_227
              · replace h := ite_f c7 h
                refine lv_lconst (v := 0) hx hb dX13_tryout_54 rfl ?_
                refine lv_lstore (lv' := [(5, .long 0), (0, .ref (ad y5_0)), (1, .int y5_1), (2, .long y5_2), (4, .int y5_4)]) hx hb dX13_tryout_55 hl (by decide) rfl (fun ls hl => ?_)
                refine lv_lconst (v := 0) hx hb dX13_tryout_57 rfl ?_
                refine lv_lstore (lv' := [(7, .long 0), (5, .long 0), (0, .ref (ad y5_0)), (1, .int y5_1), (2, .long y5_2), (4, .int y5_4)]) hx hb dX13_tryout_58 hl (by decide) rfl (fun ls hl => ?_)
                refine lv_iconst (v := 0) hx hb dX13_tryout_60 rfl ?_
                refine lv_istore (lv' := [(9, .int 0), (7, .long 0), (5, .long 0), (0, .ref (ad y5_0)), (1, .int y5_1), (2, .long y5_2), (4, .int y5_4)]) hx hb dX13_tryout_61 hl (by decide) rfl (fun ls hl => ?_)
                have L9 : ∀ n9 : Nat, ∀ (M9 : MM) (y9_0 : Nat) (y9_1 : Int32) (y9_2 : Int64) (y9_4 : Int32) (y9_5 : Int64) (y9_7 : Int64) (y9_9 : Int32) (ky9_0 : ok g y9_0 13 0) (H : Heap) (locs : List Loc), f_X13_tryout_L63 (fun M y5_0 y5_1 y5_2 y5_4 => f_X13_tryout_L42 n5 M y5_0 y5_1 y5_2 y5_4) n9 M9 y9_0 y9_1 y9_2 y9_4 y9_5 y9_7 y9_9 = some Z → va_P D vwCl (wd ad cy g M9) H → va_D A (wd ad cy g M9) → WT g M9 → va_S A s.heap H locs → ∀ (ls : Array Slot), lv_has ls 11 [(0, .ref (ad y9_0)), (1, .int y9_1), (2, .long y9_2), (4, .int y9_4), (5, .long y9_5), (7, .long y9_7), (9, .int y9_9)] → W p l e ((headSpec wsX13_tryout ({ frames := 3, cells := 0, slots := 0, locals := 75 })).room) s m (([.ref (ad a0)] : List Value).toArray) below meth c H locs 0 0 (MQ below (va_Qi (fun r u => r = Z.1 ∧ u = Z.2) (Wd D ad cy A g q) A) ([.ref (ad a0)]).toArray s 0 0 A) (F0 m 63 ls []) := by
                  intro n9
                  induction n9 with
                  | zero => intro M9 y9_0 y9_1 y9_2 y9_4 y9_5 y9_7 y9_9 ky9_0 H locs h; exact absurd h (by simp [f_X13_tryout_L63])
                  | succ n9 ih9 =>
                    intro M9 y9_0 y9_1 y9_2 y9_4 y9_5 y9_7 y9_9 ky9_0 H locs h hP hD hT hS ls hl
                    rw [f_X13_tryout_L63] at h
                    refine lv_iload hx hb dX13_tryout_63 (lv_at hl 6 rfl) ?_
                    refine lv_aload_n hx hb dX13_tryout_65 rfl (lv_at hl 0 rfl) ?_
                    rcases hN10 : gR M9 y9_0 3 with _ | b10
                    · replace h := oc_n hN10 h
                      refine r_get (T := TX13) (v := .null) hx hb hts in13 hown hK hP ky9_0 (by decide) rfl 3 (by decide) (hts (.fieldLink RX13 431 "StoneWalkModel" "island" "LStoneWalkModel$Island;") (List.mem_of_getElem? (i := 2) (by decide +kernel))) rfl (t := 2) rfl (by show va_rf _ = _; rw [hN10]; rfl) dX13_tryout_66 ?_
                      exact absurd h (by simp)
                    · replace h := oc_s hN10 h
                      have kb10 := hT.f ky9_0 (k := 3) (t := 12) (n := 0) rfl hN10
                      refine r_get (T := TX13) (v := .ref (ad b10)) hx hb hts in13 hown hK hP ky9_0 (by decide) rfl 3 (by decide) (hts (.fieldLink RX13 431 "StoneWalkModel" "island" "LStoneWalkModel$Island;") (List.mem_of_getElem? (i := 2) (by decide +kernel))) rfl (t := 2) rfl (by show va_rf _ = _; rw [hN10]; rfl) dX13_tryout_66 ?_
                      refine r_getN (T := TX12) (v := .int (gI M9 b10 0)) hx hb hts in12 hown hK hP kb10 (by decide) rfl 0 (by decide) (hG.2.2.1 _ (List.mem_of_getElem? (i := 5) rfl)) rfl (t := 0) rfl rfl dX13_tryout_69 ?_
                      refine lv_icmp_ge (tgt := 178) hx hb dX13_tryout_72 rfl (fun c11 => ?_) (fun c11 => ?_)
                      · replace h := ite_t c11 h
                        refine lv_lload hx hb dX13_tryout_178 (lv_at hl 4 rfl) ?_
                        refine lv_lload hx hb dX13_tryout_180 (lv_at hl 5 rfl) ?_
                        refine W.lcmp hx hb dX13_tryout_182 ?_
                        refine lv_if_le (tgt := 191) hx hb dX13_tryout_183 rfl (fun c12 => ?_) (fun c12 => ?_)
                        · replace h := ite_t c12 h
                          refine lv_lload hx hb dX13_tryout_191 (lv_at hl 5 rfl) ?_
                          refine lv_lstore (lv' := [(9, .long y9_7), (0, .ref (ad y9_0)), (1, .int y9_1), (2, .long y9_2), (4, .int y9_4), (5, .long y9_5), (7, .long y9_7)]) hx hb dX13_tryout_193 hl (by decide) rfl (fun ls hl => ?_)
                          refine lv_iload hx hb dX13_tryout_195 (lv_at hl 4 rfl) ?_
                          refine lv_if_le (tgt := 210) hx hb dX13_tryout_197 rfl (fun c13 => ?_) (fun c13 => ?_)
                          · replace h := ite_t c13 h
                            refine lv_lload hx hb dX13_tryout_210 (lv_at hl 0 rfl) ?_
                            refine lv_lstore_n (lv' := [(2, .long y9_7), (9, .long y9_7), (0, .ref (ad y9_0)), (1, .int y9_1), (4, .int y9_4), (5, .long y9_5), (7, .long y9_7)]) hx hb dX13_tryout_212 rfl hl (by decide) rfl (fun ls hl => ?_)
                            refine lv_iload hx hb dX13_tryout_213 (lv_at hl 4 rfl) ?_
                            refine lv_istore_n (lv' := [(1, .int y9_4), (2, .long y9_7), (9, .long y9_7), (0, .ref (ad y9_0)), (4, .int y9_4), (5, .long y9_5), (7, .long y9_7)]) hx hb dX13_tryout_215 rfl hl (by decide) rfl (fun ls hl => ?_)
                            refine lv_iinc (v := y9_4 + 1) (lv' := [(4, .int (y9_4 + 1)), (1, .int y9_4), (2, .long y9_7), (9, .long y9_7), (0, .ref (ad y9_0)), (5, .long y9_5), (7, .long y9_7)]) hx hb dX13_tryout_216 hl (k := 4) rfl rfl (by decide) rfl (fun ls hl => ?_)
                            refine lv_goto (tgt := 42) hx hb dX13_tryout_219 rfl ?_
                            exact ih5 M9 y9_0 y9_4 y9_7 (y9_4 + 1) ky9_0 _ _ h hP hD hT hS ls (lv_sub hl [4, 1, 2, 0] rfl)
                          · replace h := ite_f c13 h
                            refine lv_lload hx hb dX13_tryout_200 (lv_at hl 0 rfl) ?_
                            refine lv_lload_n hx hb dX13_tryout_202 rfl (lv_at hl 3 rfl) ?_
                            refine W.lcmp hx hb dX13_tryout_203 ?_
                            refine lv_if_lt (tgt := 210) hx hb dX13_tryout_204 rfl (fun c14 => ?_) (fun c14 => ?_)
                            · replace h := ite_t c14 h
                              refine lv_lload hx hb dX13_tryout_210 (lv_at hl 0 rfl) ?_
                              refine lv_lstore_n (lv' := [(2, .long y9_7), (9, .long y9_7), (0, .ref (ad y9_0)), (1, .int y9_1), (4, .int y9_4), (5, .long y9_5), (7, .long y9_7)]) hx hb dX13_tryout_212 rfl hl (by decide) rfl (fun ls hl => ?_)
                              refine lv_iload hx hb dX13_tryout_213 (lv_at hl 4 rfl) ?_
                              refine lv_istore_n (lv' := [(1, .int y9_4), (2, .long y9_7), (9, .long y9_7), (0, .ref (ad y9_0)), (4, .int y9_4), (5, .long y9_5), (7, .long y9_7)]) hx hb dX13_tryout_215 rfl hl (by decide) rfl (fun ls hl => ?_)
                              refine lv_iinc (v := y9_4 + 1) (lv' := [(4, .int (y9_4 + 1)), (1, .int y9_4), (2, .long y9_7), (9, .long y9_7), (0, .ref (ad y9_0)), (5, .long y9_5), (7, .long y9_7)]) hx hb dX13_tryout_216 hl (k := 4) rfl rfl (by decide) rfl (fun ls hl => ?_)
                              refine lv_goto (tgt := 42) hx hb dX13_tryout_219 rfl ?_
                              exact ih5 M9 y9_0 y9_4 y9_7 (y9_4 + 1) ky9_0 _ _ h hP hD hT hS ls (lv_sub hl [4, 1, 2, 0] rfl)
                            · replace h := ite_f c14 h
                              refine lv_goto (tgt := 216) hx hb dX13_tryout_207 rfl ?_
                              refine lv_iinc (v := y9_4 + 1) (lv' := [(4, .int (y9_4 + 1)), (9, .long y9_7), (0, .ref (ad y9_0)), (1, .int y9_1), (2, .long y9_2), (5, .long y9_5), (7, .long y9_7)]) hx hb dX13_tryout_216 hl (k := 4) rfl rfl (by decide) rfl (fun ls hl => ?_)
                              refine lv_goto (tgt := 42) hx hb dX13_tryout_219 rfl ?_
                              exact ih5 M9 y9_0 y9_1 y9_2 (y9_4 + 1) ky9_0 _ _ h hP hD hT hS ls (lv_sub hl [2, 3, 4, 0] rfl)
                        · replace h := ite_f c12 h
                          refine lv_lload hx hb dX13_tryout_186 (lv_at hl 4 rfl) ?_
                          refine lv_goto (tgt := 193) hx hb dX13_tryout_188 rfl ?_
                          refine lv_lstore (lv' := [(9, .long y9_5), (0, .ref (ad y9_0)), (1, .int y9_1), (2, .long y9_2), (4, .int y9_4), (5, .long y9_5), (7, .long y9_7)]) hx hb dX13_tryout_193 hl (by decide) rfl (fun ls hl => ?_)
                          refine lv_iload hx hb dX13_tryout_195 (lv_at hl 4 rfl) ?_
                          refine lv_if_le (tgt := 210) hx hb dX13_tryout_197 rfl (fun c15 => ?_) (fun c15 => ?_)
                          · replace h := ite_t c15 h
                            refine lv_lload hx hb dX13_tryout_210 (lv_at hl 0 rfl) ?_
                            refine lv_lstore_n (lv' := [(2, .long y9_5), (9, .long y9_5), (0, .ref (ad y9_0)), (1, .int y9_1), (4, .int y9_4), (5, .long y9_5), (7, .long y9_7)]) hx hb dX13_tryout_212 rfl hl (by decide) rfl (fun ls hl => ?_)
                            refine lv_iload hx hb dX13_tryout_213 (lv_at hl 4 rfl) ?_
                            refine lv_istore_n (lv' := [(1, .int y9_4), (2, .long y9_5), (9, .long y9_5), (0, .ref (ad y9_0)), (4, .int y9_4), (5, .long y9_5), (7, .long y9_7)]) hx hb dX13_tryout_215 rfl hl (by decide) rfl (fun ls hl => ?_)
                            refine lv_iinc (v := y9_4 + 1) (lv' := [(4, .int (y9_4 + 1)), (1, .int y9_4), (2, .long y9_5), (9, .long y9_5), (0, .ref (ad y9_0)), (5, .long y9_5), (7, .long y9_7)]) hx hb dX13_tryout_216 hl (k := 4) rfl rfl (by decide) rfl (fun ls hl => ?_)
                            refine lv_goto (tgt := 42) hx hb dX13_tryout_219 rfl ?_
                            exact ih5 M9 y9_0 y9_4 y9_5 (y9_4 + 1) ky9_0 _ _ h hP hD hT hS ls (lv_sub hl [4, 1, 2, 0] rfl)
                          · replace h := ite_f c15 h
                            refine lv_lload hx hb dX13_tryout_200 (lv_at hl 0 rfl) ?_
                            refine lv_lload_n hx hb dX13_tryout_202 rfl (lv_at hl 3 rfl) ?_
                            refine W.lcmp hx hb dX13_tryout_203 ?_
                            refine lv_if_lt (tgt := 210) hx hb dX13_tryout_204 rfl (fun c16 => ?_) (fun c16 => ?_)
                            · replace h := ite_t c16 h
                              refine lv_lload hx hb dX13_tryout_210 (lv_at hl 0 rfl) ?_
                              refine lv_lstore_n (lv' := [(2, .long y9_5), (9, .long y9_5), (0, .ref (ad y9_0)), (1, .int y9_1), (4, .int y9_4), (5, .long y9_5), (7, .long y9_7)]) hx hb dX13_tryout_212 rfl hl (by decide) rfl (fun ls hl => ?_)
                              refine lv_iload hx hb dX13_tryout_213 (lv_at hl 4 rfl) ?_
                              refine lv_istore_n (lv' := [(1, .int y9_4), (2, .long y9_5), (9, .long y9_5), (0, .ref (ad y9_0)), (4, .int y9_4), (5, .long y9_5), (7, .long y9_7)]) hx hb dX13_tryout_215 rfl hl (by decide) rfl (fun ls hl => ?_)
                              refine lv_iinc (v := y9_4 + 1) (lv' := [(4, .int (y9_4 + 1)), (1, .int y9_4), (2, .long y9_5), (9, .long y9_5), (0, .ref (ad y9_0)), (5, .long y9_5), (7, .long y9_7)]) hx hb dX13_tryout_216 hl (k := 4) rfl rfl (by decide) rfl (fun ls hl => ?_)
                              refine lv_goto (tgt := 42) hx hb dX13_tryout_219 rfl ?_
                              exact ih5 M9 y9_0 y9_4 y9_5 (y9_4 + 1) ky9_0 _ _ h hP hD hT hS ls (lv_sub hl [4, 1, 2, 0] rfl)
                            · replace h := ite_f c16 h
                              refine lv_goto (tgt := 216) hx hb dX13_tryout_207 rfl ?_
                              refine lv_iinc (v := y9_4 + 1) (lv' := [(4, .int (y9_4 + 1)), (9, .long y9_5), (0, .ref (ad y9_0)), (1, .int y9_1), (2, .long y9_2), (5, .long y9_5), (7, .long y9_7)]) hx hb dX13_tryout_216 hl (k := 4) rfl rfl (by decide) rfl (fun ls hl => ?_)
                              refine lv_goto (tgt := 42) hx hb dX13_tryout_219 rfl ?_
                              exact ih5 M9 y9_0 y9_1 y9_2 (y9_4 + 1) ky9_0 _ _ h hP hD hT hS ls (lv_sub hl [2, 3, 4, 0] rfl)
                      · replace h := ite_f c11 h
                        refine lv_aload_n hx hb dX13_tryout_75 rfl (lv_at hl 0 rfl) ?_
                        rcases hN17 : gR M9 y9_0 3 with _ | b17
                        · replace h := oc_n hN17 h
                          refine r_get (T := TX13) (v := .null) hx hb hts in13 hown hK hP ky9_0 (by decide) rfl 3 (by decide) (hts (.fieldLink RX13 431 "StoneWalkModel" "island" "LStoneWalkModel$Island;") (List.mem_of_getElem? (i := 2) (by decide +kernel))) rfl (t := 2) rfl (by show va_rf _ = _; rw [hN17]; rfl) dX13_tryout_76 ?_
                          exact absurd h (by simp)
                        · replace h := oc_s hN17 h
                          have kb17 := hT.f ky9_0 (k := 3) (t := 12) (n := 0) rfl hN17
                          refine r_get (T := TX13) (v := .ref (ad b17)) hx hb hts in13 hown hK hP ky9_0 (by decide) rfl 3 (by decide) (hts (.fieldLink RX13 431 "StoneWalkModel" "island" "LStoneWalkModel$Island;") (List.mem_of_getElem? (i := 2) (by decide +kernel))) rfl (t := 2) rfl (by show va_rf _ = _; rw [hN17]; rfl) dX13_tryout_76 ?_
                          rcases hN18 : gR M9 b17 9 with _ | b18
                          · exact absurd (oc_n hN18 h) (by simp)
                          replace h := oc_s hN18 h
                          have kb18 := hT.f kb17 (k := 9) (t := 15) (n := 4) rfl hN18
                          refine r_getN (T := TX12) (v := .ref (ad b18)) hx hb hts in12 hown hK hP kb17 (by decide) rfl 9 (by decide) (hG.2.2.1 _ (List.mem_of_getElem? (i := 8) rfl)) rfl (t := 2) rfl (by show va_rf _ = _; rw [hN18]; rfl) dX13_tryout_79 ?_
                          refine lv_iload hx hb dX13_tryout_82 (lv_at hl 6 rfl) ?_
                          obtain ⟨hn19, h⟩ := chk_some h
                          refine r_iald hx hb hK hP kb18 hn19 dX13_tryout_84 ?_
                          refine lv_aload_n hx hb dX13_tryout_85 rfl (lv_at hl 0 rfl) ?_
                          rcases hN20 : gR M9 y9_0 3 with _ | b20
                          · replace h := oc_n hN20 h
                            refine r_get (T := TX13) (v := .null) hx hb hts in13 hown hK hP ky9_0 (by decide) rfl 3 (by decide) (hts (.fieldLink RX13 431 "StoneWalkModel" "island" "LStoneWalkModel$Island;") (List.mem_of_getElem? (i := 2) (by decide +kernel))) rfl (t := 2) rfl (by show va_rf _ = _; rw [hN20]; rfl) dX13_tryout_86 ?_
                            exact absurd h (by simp)
                          · replace h := oc_s hN20 h
                            have kb20 := hT.f ky9_0 (k := 3) (t := 12) (n := 0) rfl hN20
                            refine r_get (T := TX13) (v := .ref (ad b20)) hx hb hts in13 hown hK hP ky9_0 (by decide) rfl 3 (by decide) (hts (.fieldLink RX13 431 "StoneWalkModel" "island" "LStoneWalkModel$Island;") (List.mem_of_getElem? (i := 2) (by decide +kernel))) rfl (t := 2) rfl (by show va_rf _ = _; rw [hN20]; rfl) dX13_tryout_86 ?_
                            rcases hN21 : gR M9 b20 40 with _ | b21
                            · exact absurd (oc_n hN21 h) (by simp)
                            replace h := oc_s hN21 h
                            have kb21 := hT.f kb20 (k := 40) (t := 15) (n := 5) rfl hN21
                            refine r_getN (T := TX12) (v := .ref (ad b21)) hx hb hts in12 hown hK hP kb20 (by decide) rfl 40 (by decide) (hG.2.2.1 _ (List.mem_of_getElem? (i := 45) rfl)) rfl (t := 2) rfl (by show va_rf _ = _; rw [hN21]; rfl) dX13_tryout_89 ?_
                            refine lv_iload hx hb dX13_tryout_92 (lv_at hl 3 rfl) ?_
                            obtain ⟨hn22, h⟩ := chk_some h
                            refine r_iald hx hb hK hP kb21 hn22 dX13_tryout_94 ?_
                            refine lv_aload_n hx hb dX13_tryout_95 rfl (lv_at hl 0 rfl) ?_
                            rcases hN23 : gR M9 y9_0 3 with _ | b23
                            · replace h := oc_n hN23 h
                              refine r_get (T := TX13) (v := .null) hx hb hts in13 hown hK hP ky9_0 (by decide) rfl 3 (by decide) (hts (.fieldLink RX13 431 "StoneWalkModel" "island" "LStoneWalkModel$Island;") (List.mem_of_getElem? (i := 2) (by decide +kernel))) rfl (t := 2) rfl (by show va_rf _ = _; rw [hN23]; rfl) dX13_tryout_96 ?_
                              exact absurd h (by simp)
                            · replace h := oc_s hN23 h
                              have kb23 := hT.f ky9_0 (k := 3) (t := 12) (n := 0) rfl hN23
                              refine r_get (T := TX13) (v := .ref (ad b23)) hx hb hts in13 hown hK hP ky9_0 (by decide) rfl 3 (by decide) (hts (.fieldLink RX13 431 "StoneWalkModel" "island" "LStoneWalkModel$Island;") (List.mem_of_getElem? (i := 2) (by decide +kernel))) rfl (t := 2) rfl (by show va_rf _ = _; rw [hN23]; rfl) dX13_tryout_96 ?_
                              rcases hN24 : gR M9 b23 41 with _ | b24
                              · exact absurd (oc_n hN24 h) (by simp)
                              replace h := oc_s hN24 h
                              have kb24 := hT.f kb23 (k := 41) (t := 15) (n := 5) rfl hN24
                              refine r_getN (T := TX12) (v := .ref (ad b24)) hx hb hts in12 hown hK hP kb23 (by decide) rfl 41 (by decide) (hG.2.2.1 _ (List.mem_of_getElem? (i := 46) rfl)) rfl (t := 2) rfl (by show va_rf _ = _; rw [hN24]; rfl) dX13_tryout_99 ?_
                              refine lv_iload hx hb dX13_tryout_102 (lv_at hl 3 rfl) ?_
                              obtain ⟨hn25, h⟩ := chk_some h
                              refine r_iald hx hb hK hP kb24 hn25 dX13_tryout_104 ?_
                              refine lv_aload_n hx hb dX13_tryout_105 rfl (lv_at hl 0 rfl) ?_
                              rcases hN26 : gR M9 y9_0 3 with _ | b26
                              · replace h := oc_n hN26 h
                                refine r_get (T := TX13) (v := .null) hx hb hts in13 hown hK hP ky9_0 (by decide) rfl 3 (by decide) (hts (.fieldLink RX13 431 "StoneWalkModel" "island" "LStoneWalkModel$Island;") (List.mem_of_getElem? (i := 2) (by decide +kernel))) rfl (t := 2) rfl (by show va_rf _ = _; rw [hN26]; rfl) dX13_tryout_106 ?_
                                exact absurd h (by simp)
                              · replace h := oc_s hN26 h
                                have kb26 := hT.f ky9_0 (k := 3) (t := 12) (n := 0) rfl hN26
                                refine r_get (T := TX13) (v := .ref (ad b26)) hx hb hts in13 hown hK hP ky9_0 (by decide) rfl 3 (by decide) (hts (.fieldLink RX13 431 "StoneWalkModel" "island" "LStoneWalkModel$Island;") (List.mem_of_getElem? (i := 2) (by decide +kernel))) rfl (t := 2) rfl (by show va_rf _ = _; rw [hN26]; rfl) dX13_tryout_106 ?_
                                rcases hN27 : gR M9 b26 42 with _ | b27
                                · exact absurd (oc_n hN27 h) (by simp)
                                replace h := oc_s hN27 h
                                have kb27 := hT.f kb26 (k := 42) (t := 15) (n := 5) rfl hN27
                                refine r_getN (T := TX12) (v := .ref (ad b27)) hx hb hts in12 hown hK hP kb26 (by decide) rfl 42 (by decide) (hG.2.2.1 _ (List.mem_of_getElem? (i := 47) rfl)) rfl (t := 2) rfl (by show va_rf _ = _; rw [hN27]; rfl) dX13_tryout_109 ?_
                                refine lv_iload hx hb dX13_tryout_112 (lv_at hl 3 rfl) ?_
                                obtain ⟨hn28, h⟩ := chk_some h
                                refine r_iald hx hb hK hP kb27 hn28 dX13_tryout_114 ?_
                                refine lv_aload_n hx hb dX13_tryout_115 rfl (lv_at hl 0 rfl) ?_
                                rcases hN29 : gR M9 y9_0 3 with _ | b29
                                · replace h := oc_n hN29 h
                                  refine r_get (T := TX13) (v := .null) hx hb hts in13 hown hK hP ky9_0 (by decide) rfl 3 (by decide) (hts (.fieldLink RX13 431 "StoneWalkModel" "island" "LStoneWalkModel$Island;") (List.mem_of_getElem? (i := 2) (by decide +kernel))) rfl (t := 2) rfl (by show va_rf _ = _; rw [hN29]; rfl) dX13_tryout_116 ?_
                                  exact absurd h (by simp)
                                · replace h := oc_s hN29 h
                                  have kb29 := hT.f ky9_0 (k := 3) (t := 12) (n := 0) rfl hN29
                                  refine r_get (T := TX13) (v := .ref (ad b29)) hx hb hts in13 hown hK hP ky9_0 (by decide) rfl 3 (by decide) (hts (.fieldLink RX13 431 "StoneWalkModel" "island" "LStoneWalkModel$Island;") (List.mem_of_getElem? (i := 2) (by decide +kernel))) rfl (t := 2) rfl (by show va_rf _ = _; rw [hN29]; rfl) dX13_tryout_116 ?_
                                  rcases hN30 : gR M9 b29 43 with _ | b30
                                  · exact absurd (oc_n hN30 h) (by simp)
                                  replace h := oc_s hN30 h
                                  have kb30 := hT.f kb29 (k := 43) (t := 15) (n := 5) rfl hN30
                                  refine r_getN (T := TX12) (v := .ref (ad b30)) hx hb hts in12 hown hK hP kb29 (by decide) rfl 43 (by decide) (hG.2.2.1 _ (List.mem_of_getElem? (i := 48) rfl)) rfl (t := 2) rfl (by show va_rf _ = _; rw [hN30]; rfl) dX13_tryout_119 ?_
                                  refine lv_iload hx hb dX13_tryout_122 (lv_at hl 3 rfl) ?_
                                  obtain ⟨hn31, h⟩ := chk_some h
                                  refine r_iald hx hb hK hP kb30 hn31 dX13_tryout_124 ?_
                                  obtain ⟨z32, h32, h⟩ := ob_some h
                                  refine k_z (va_runS (As := [.int (gI M9 b18 (ix y9_9)), .int (gI M9 b21 (ix y9_4)), .int (gI M9 b24 (ix y9_4)), .int (gI M9 b27 (ix y9_4)), .int (gI M9 b30 (ix y9_4))]) (rest := []) ⟨hx, hb, hml, hown, hts⟩ (c_X13_canGo (l := l) M9 (gI M9 b18 (ix y9_9)) (gI M9 b21 (ix y9_4)) (gI M9 b24 (ix y9_4)) (gI M9 b27 (ix y9_4)) (gI M9 b30 (ix y9_4)) h32) (va_cwS 5 hts gX13_tryout_X13_canGo rfl rfl rfl hdS_X13_canGo ⟨Nat.le_of_ble_eq_true rfl, Nat.le_of_ble_eq_true rfl⟩) (pS hP hK hD hT hG hS) rfl rfl hl.1 rfl (lv_room (Nat.le_of_ble_eq_true rfl)) dX13_tryout_125 ⟨Nat.zero_le _, Nat.zero_le _⟩) hS (fun H locs hz32 hP hD hT hS => ?_)
                                  refine lv_istore (lv' := [(10, .int z32), (0, .ref (ad y9_0)), (1, .int y9_1), (2, .long y9_2), (4, .int y9_4), (5, .long y9_5), (7, .long y9_7), (9, .int y9_9)]) hx hb dX13_tryout_128 hl (by decide) rfl (fun ls hl => ?_)
                                  refine lv_lload hx hb dX13_tryout_130 (lv_at hl 5 rfl) ?_
                                  refine lv_iload hx hb dX13_tryout_132 (lv_at hl 0 rfl) ?_
                                  refine lv_if_eq (tgt := 147) hx hb dX13_tryout_134 rfl (fun c33 => ?_) (fun c33 => ?_)
                                  · replace h := ite_t c33 h
                                    refine lv_lconst (v := 0) hx hb dX13_tryout_147 rfl ?_
                                    refine lv_ladd hx hb dX13_tryout_148 ?_
                                    refine lv_lstore (lv' := [(5, .long (y9_5 + 0)), (10, .int z32), (0, .ref (ad y9_0)), (1, .int y9_1), (2, .long y9_2), (4, .int y9_4), (7, .long y9_7), (9, .int y9_9)]) hx hb dX13_tryout_149 hl (by decide) rfl (fun ls hl => ?_)
                                    refine lv_lload hx hb dX13_tryout_151 (lv_at hl 6 rfl) ?_
                                    refine lv_iload hx hb dX13_tryout_153 (lv_at hl 1 rfl) ?_
                                    refine lv_if_eq (tgt := 162) hx hb dX13_tryout_155 rfl (fun c34 => ?_) (fun c34 => ?_)
                                    · replace h := ite_t c34 h
                                      refine lv_aload_n hx hb dX13_tryout_162 rfl (lv_at hl 2 rfl) ?_
                                      refine lv_iload hx hb dX13_tryout_163 (lv_at hl 7 rfl) ?_
                                      refine lv_iconst (v := (-1)) hx hb dX13_tryout_165 rfl ?_
                                      obtain ⟨z35, h35, h⟩ := ob_some h
                                      refine k_l (va_runV (As := [.int y9_9, .int (-1)]) (rest := [.long y9_7]) ⟨hx, hb, hml, hown, hts⟩ (c_X13_oddsOf (l := l) M9 y9_0 y9_9 (-1) ky9_0 h35) (cwV 2 hts gX13_tryout_X13_oddsOf rfl rfl rfl hdV_X13_oddsOf ⟨Nat.le_of_ble_eq_true rfl, Nat.le_of_ble_eq_true rfl⟩) (pV (T := TX13) hP hK hD hT hG hS ky9_0 (by decide) rfl) rfl rfl hl.1 rfl (lv_room (Nat.le_of_ble_eq_true rfl)) dX13_tryout_166 ⟨Nat.zero_le _, Nat.zero_le _⟩) hS (fun H locs hP hD hT hS => ?_)
                                      refine lv_ladd hx hb dX13_tryout_169 ?_
                                      refine lv_lstore (lv' := [(7, .long (y9_7 + z35)), (5, .long (y9_5 + 0)), (10, .int z32), (0, .ref (ad y9_0)), (1, .int y9_1), (2, .long y9_2), (4, .int y9_4), (9, .int y9_9)]) hx hb dX13_tryout_170 hl (by decide) rfl (fun ls hl => ?_)
                                      refine lv_iinc (v := y9_9 + 1) (lv' := [(9, .int (y9_9 + 1)), (7, .long (y9_7 + z35)), (5, .long (y9_5 + 0)), (10, .int z32), (0, .ref (ad y9_0)), (1, .int y9_1), (2, .long y9_2), (4, .int y9_4)]) hx hb dX13_tryout_172 hl (k := 7) rfl rfl (by decide) rfl (fun ls hl => ?_)
                                      refine lv_goto (tgt := 63) hx hb dX13_tryout_175 rfl ?_
                                      exact ih9 M9 y9_0 y9_1 y9_2 y9_4 (y9_5 + 0) (y9_7 + z35) (y9_9 + 1) ky9_0 _ _ h hP hD hT hS ls (lv_sub hl [4, 5, 6, 7, 2, 1, 0] rfl)
                                    · replace h := ite_f c34 h
                                      refine lv_lconst (v := 0) hx hb dX13_tryout_158 rfl ?_
                                      refine lv_goto (tgt := 169) hx hb dX13_tryout_159 rfl ?_
                                      refine lv_ladd hx hb dX13_tryout_169 ?_
                                      refine lv_lstore (lv' := [(7, .long (y9_7 + 0)), (5, .long (y9_5 + 0)), (10, .int z32), (0, .ref (ad y9_0)), (1, .int y9_1), (2, .long y9_2), (4, .int y9_4), (9, .int y9_9)]) hx hb dX13_tryout_170 hl (by decide) rfl (fun ls hl => ?_)
                                      refine lv_iinc (v := y9_9 + 1) (lv' := [(9, .int (y9_9 + 1)), (7, .long (y9_7 + 0)), (5, .long (y9_5 + 0)), (10, .int z32), (0, .ref (ad y9_0)), (1, .int y9_1), (2, .long y9_2), (4, .int y9_4)]) hx hb dX13_tryout_172 hl (k := 7) rfl rfl (by decide) rfl (fun ls hl => ?_)
                                      refine lv_goto (tgt := 63) hx hb dX13_tryout_175 rfl ?_
                                      exact ih9 M9 y9_0 y9_1 y9_2 y9_4 (y9_5 + 0) (y9_7 + 0) (y9_9 + 1) ky9_0 _ _ h hP hD hT hS ls (lv_sub hl [4, 5, 6, 7, 2, 1, 0] rfl)
                                  · replace h := ite_f c33 h
                                    refine lv_aload_n hx hb dX13_tryout_137 rfl (lv_at hl 1 rfl) ?_
                                    refine lv_iload hx hb dX13_tryout_138 (lv_at hl 7 rfl) ?_
                                    refine lv_iconst (v := (-1)) hx hb dX13_tryout_140 rfl ?_
                                    obtain ⟨z36, h36, h⟩ := ob_some h
                                    refine k_l (va_runV (As := [.int y9_9, .int (-1)]) (rest := [.long y9_5]) ⟨hx, hb, hml, hown, hts⟩ (c_X13_oddsOf (l := l) M9 y9_0 y9_9 (-1) ky9_0 h36) (cwV 2 hts gX13_tryout_X13_oddsOf rfl rfl rfl hdV_X13_oddsOf ⟨Nat.le_of_ble_eq_true rfl, Nat.le_of_ble_eq_true rfl⟩) (pV (T := TX13) hP hK hD hT hG hS ky9_0 (by decide) rfl) rfl rfl hl.1 rfl (lv_room (Nat.le_of_ble_eq_true rfl)) dX13_tryout_141 ⟨Nat.zero_le _, Nat.zero_le _⟩) hS (fun H locs hP hD hT hS => ?_)
                                    refine lv_goto (tgt := 148) hx hb dX13_tryout_144 rfl ?_
                                    refine lv_ladd hx hb dX13_tryout_148 ?_
                                    refine lv_lstore (lv' := [(5, .long (y9_5 + z36)), (10, .int z32), (0, .ref (ad y9_0)), (1, .int y9_1), (2, .long y9_2), (4, .int y9_4), (7, .long y9_7), (9, .int y9_9)]) hx hb dX13_tryout_149 hl (by decide) rfl (fun ls hl => ?_)
                                    refine lv_lload hx hb dX13_tryout_151 (lv_at hl 6 rfl) ?_
                                    refine lv_iload hx hb dX13_tryout_153 (lv_at hl 1 rfl) ?_
                                    refine lv_if_eq (tgt := 162) hx hb dX13_tryout_155 rfl (fun c37 => ?_) (fun c37 => ?_)
                                    · replace h := ite_t c37 h
                                      refine lv_aload_n hx hb dX13_tryout_162 rfl (lv_at hl 2 rfl) ?_
                                      refine lv_iload hx hb dX13_tryout_163 (lv_at hl 7 rfl) ?_
                                      refine lv_iconst (v := (-1)) hx hb dX13_tryout_165 rfl ?_
                                      obtain ⟨z38, h38, h⟩ := ob_some h
                                      refine k_l (va_runV (As := [.int y9_9, .int (-1)]) (rest := [.long y9_7]) ⟨hx, hb, hml, hown, hts⟩ (c_X13_oddsOf (l := l) M9 y9_0 y9_9 (-1) ky9_0 h38) (cwV 2 hts gX13_tryout_X13_oddsOf rfl rfl rfl hdV_X13_oddsOf ⟨Nat.le_of_ble_eq_true rfl, Nat.le_of_ble_eq_true rfl⟩) (pV (T := TX13) hP hK hD hT hG hS ky9_0 (by decide) rfl) rfl rfl hl.1 rfl (lv_room (Nat.le_of_ble_eq_true rfl)) dX13_tryout_166 ⟨Nat.zero_le _, Nat.zero_le _⟩) hS (fun H locs hP hD hT hS => ?_)
                                      refine lv_ladd hx hb dX13_tryout_169 ?_
                                      refine lv_lstore (lv' := [(7, .long (y9_7 + z38)), (5, .long (y9_5 + z36)), (10, .int z32), (0, .ref (ad y9_0)), (1, .int y9_1), (2, .long y9_2), (4, .int y9_4), (9, .int y9_9)]) hx hb dX13_tryout_170 hl (by decide) rfl (fun ls hl => ?_)
                                      refine lv_iinc (v := y9_9 + 1) (lv' := [(9, .int (y9_9 + 1)), (7, .long (y9_7 + z38)), (5, .long (y9_5 + z36)), (10, .int z32), (0, .ref (ad y9_0)), (1, .int y9_1), (2, .long y9_2), (4, .int y9_4)]) hx hb dX13_tryout_172 hl (k := 7) rfl rfl (by decide) rfl (fun ls hl => ?_)
                                      refine lv_goto (tgt := 63) hx hb dX13_tryout_175 rfl ?_
                                      exact ih9 M9 y9_0 y9_1 y9_2 y9_4 (y9_5 + z36) (y9_7 + z38) (y9_9 + 1) ky9_0 _ _ h hP hD hT hS ls (lv_sub hl [4, 5, 6, 7, 2, 1, 0] rfl)
                                    · replace h := ite_f c37 h
                                      refine lv_lconst (v := 0) hx hb dX13_tryout_158 rfl ?_
                                      refine lv_goto (tgt := 169) hx hb dX13_tryout_159 rfl ?_
                                      refine lv_ladd hx hb dX13_tryout_169 ?_
                                      refine lv_lstore (lv' := [(7, .long (y9_7 + 0)), (5, .long (y9_5 + z36)), (10, .int z32), (0, .ref (ad y9_0)), (1, .int y9_1), (2, .long y9_2), (4, .int y9_4), (9, .int y9_9)]) hx hb dX13_tryout_170 hl (by decide) rfl (fun ls hl => ?_)
                                      refine lv_iinc (v := y9_9 + 1) (lv' := [(9, .int (y9_9 + 1)), (7, .long (y9_7 + 0)), (5, .long (y9_5 + z36)), (10, .int z32), (0, .ref (ad y9_0)), (1, .int y9_1), (2, .long y9_2), (4, .int y9_4)]) hx hb dX13_tryout_172 hl (k := 7) rfl rfl (by decide) rfl (fun ls hl => ?_)
                                      refine lv_goto (tgt := 63) hx hb dX13_tryout_175 rfl ?_
                                      exact ih9 M9 y9_0 y9_1 y9_2 y9_4 (y9_5 + z36) (y9_7 + 0) (y9_9 + 1) ky9_0 _ _ h hP hD hT hS ls (lv_sub hl [4, 5, 6, 7, 2, 1, 0] rfl)
                exact L9 FU M5 y5_0 y5_1 y5_2 y5_4 0 0 0 ky5_0 _ _ h hP hD hT hS ls (lv_sub hl [3, 4, 5, 6, 2, 1, 0] rfl)
        exact L5 FU (pI M a0 0 0) a0 0 0 0 k0 _ _ h hP hD hT hS ls (lv_sub hl [3, 2, 1, 0] rfl)
      · replace h := ite_t c4 h
        refine lv_aload_n hx hb dX13_tryout_28 rfl (lv_at hl 0 rfl) ?_
        refine lv_bipush (v := 6) hx hb dX13_tryout_29 rfl ?_
        obtain ⟨z39, h39, h⟩ := ob_some h
        refine k_i (va_runV (As := [.int 6]) (rest := []) ⟨hx, hb, hml, hown, hts⟩ (c_X13_refused (l := l) (pI M a0 0 0) a0 6 k0 h39) (cwV 1 hts gX13_tryout_X13_refused rfl rfl rfl hdV_X13_refused ⟨Nat.le_of_ble_eq_true rfl, Nat.le_of_ble_eq_true rfl⟩) (pV (T := TX13) hP hK hD hT hG hS k0 (by decide) rfl) rfl rfl hl.1 rfl (lv_room (Nat.le_of_ble_eq_true rfl)) dX13_tryout_31 ⟨Nat.zero_le _, Nat.zero_le _⟩) hS (fun H locs hP hD hT hS => ?_)
        have hZ := Option.some.inj h
        exact r_iret hx hb hr hlocks hP hK hD hT hG hS (congrArg Prod.fst hZ) (congrArg Prod.snd hZ) dX13_tryout_34
set_option maxHeartbeats 4000000 in
set_option maxRecDepth 100000 in
theorem c_X13_people {l : Launch} {D : va_G} {ad : Nat → Nat} {cy : Nat → ClassId} {A : Nat → Prop} {g : CG} {q : SE} (M : MM) (a0 : Nat) (x1 : Int32) (x2 : Int32) (x3 : Int32) (k0 : ok g a0 13 0) {Z : (Int32 × MM)} (h : f_X13_people M a0 x1 x2 x3 = some Z) : Met l yX13_people wsX13_people ({ frames := 1, cells := 0, slots := 0, locals := 22 }) (va_Pc [.ref (ad a0), .int x1, .int x2, .int x3] (Wd D ad cy A g q M)) (va_Qi (fun r u => r = Z.1 ∧ u = Z.2) (Wd D ad cy A g q) A) 0 0 A := by
  refine Met.ofW (cc := cX13_people) (maxL := 8) (ret := (some .int)) (by decide) rfl ?_
  intro p e s m args below meth c s₁ B hml hv
  obtain ⟨rfl, hP, hK, hD, hT, hG⟩ := hv
  have hx := B.exec
  have hb := B.bytes
  have hr := B.returns
  have hts := atoms_spec (ws := wsX13_people) B.pre
  have hown : s.vm.findClass RX13 = some m.cls := findClass_of_methodNamed B.named
  have hlocks := B.notSynchronized
  have in12 : ∀ w ∈ u_ws RX12 TX12 48, w ∈ wsX13_people := fun w h => List.mem_cons_of_mem _ (List.mem_append_right _ h)
  have in13 : ∀ w ∈ u_ws RX13 TX13 29, w ∈ wsX13_people := fun w h => List.mem_cons_of_mem _ (List.mem_append_left _ (List.mem_append_right _ h))
  have hS : va_S A s.heap s.heap [] := va_S.rf
  have hl := lv_entry ([.ref (ad a0), .int x1, .int x2, .int x3]) (n := 8) (Nat.le_of_ble_eq_true rfl)
  rw [lg_entry_eq]
  generalize (lg_sl ([.ref (ad a0), .int x1, .int x2, .int x3]) ++ List.replicate (8 - (lg_sl ([.ref (ad a0), .int x1, .int x2, .int x3])).length) Slot.unset).toArray = ls at hl ⊢
  have hl : lv_has ls 8 [(0, .ref (ad a0)), (1, .int x1), (2, .int x2), (3, .int x3)] := hl
  unfold f_X13_people at h
  refine lv_aload_n hx hb dX13_people_0 rfl (lv_at hl 0 rfl) ?_
  refine lv_iconst (v := 0) hx hb dX13_people_1 rfl ?_
  refine r_putI (T := TX13) (ty := .int) (v := 0) hx hb hts in13 tyX13 tyX13_ok nmX13 hown hK hP hD hT hS k0 (by decide) rfl 0 (by decide) (hts (.fieldLink RX13 30 "StoneWalkModel" "thrown" "I") (List.mem_of_getElem? (i := 1) (by decide +kernel))) rfl rfl (tyX13_ok 0 (by decide)) rfl rfl rfl dX13_people_2 (fun H locs hP hD hT hS => ?_)
  refine lv_aload_n hx hb dX13_people_5 rfl (lv_at hl 0 rfl) ?_
  refine lv_iload_n hx hb dX13_people_6 rfl (lv_at hl 1 rfl) ?_
  obtain ⟨z1, h1, h⟩ := ob_some h
  refine k_z (va_runV (As := [.int x1]) (rest := []) ⟨hx, hb, hml, hown, hts⟩ (c_X13_isWay (l := l) (pI M a0 0 0) a0 x1 k0 h1) (cwV 1 hts gX13_people_X13_isWay rfl rfl rfl hdV_X13_isWay ⟨Nat.le_of_ble_eq_true rfl, Nat.le_of_ble_eq_true rfl⟩) (pV (T := TX13) hP hK hD hT hG hS k0 (by decide) rfl) rfl rfl hl.1 rfl (lv_room (Nat.le_of_ble_eq_true rfl)) dX13_people_7 ⟨Nat.zero_le _, Nat.zero_le _⟩) hS (fun H locs hz1 hP hD hT hS => ?_)
  refine lv_if_ne (tgt := 19) hx hb dX13_people_10 rfl (fun c2 => ?_) (fun c2 => ?_)
  · replace h := ite_f c2 h
    refine lv_iload_n hx hb dX13_people_19 rfl (lv_at hl 2 rfl) ?_
    refine lv_iconst (v := 1) hx hb dX13_people_20 rfl ?_
    refine lv_sipush (v := 400) hx hb dX13_people_21 rfl ?_
    obtain ⟨z3, h3, h⟩ := ob_some h
    refine k_z (va_runS (As := [.int x2, .int 1, .int 400]) (rest := []) ⟨hx, hb, hml, hown, hts⟩ (c_X13_in (l := l) (pI M a0 0 0) x2 1 400 h3) (va_cwS 3 hts gX13_people_X13_in rfl rfl rfl hdS_X13_in ⟨Nat.le_of_ble_eq_true rfl, Nat.le_of_ble_eq_true rfl⟩) (pS hP hK hD hT hG hS) rfl rfl hl.1 rfl (lv_room (Nat.le_of_ble_eq_true rfl)) dX13_people_24 ⟨Nat.zero_le _, Nat.zero_le _⟩) hS (fun H locs hz3 hP hD hT hS => ?_)
    refine lv_if_ne (tgt := 36) hx hb dX13_people_27 rfl (fun c4 => ?_) (fun c4 => ?_)
    · replace h := ite_f c4 h
      refine lv_iconst (v := (-1)) hx hb dX13_people_36 rfl ?_
      refine lv_istore (lv' := [(4, .int (-1)), (0, .ref (ad a0)), (1, .int x1), (2, .int x2), (3, .int x3)]) hx hb dX13_people_37 hl (by decide) rfl (fun ls hl => ?_)
      refine lv_iconst (v := 0) hx hb dX13_people_39 rfl ?_
      refine lv_istore (lv' := [(5, .int 0), (4, .int (-1)), (0, .ref (ad a0)), (1, .int x1), (2, .int x2), (3, .int x3)]) hx hb dX13_people_40 hl (by decide) rfl (fun ls hl => ?_)
      refine lv_iconst (v := 0) hx hb dX13_people_42 rfl ?_
      refine lv_istore (lv' := [(6, .int 0), (5, .int 0), (4, .int (-1)), (0, .ref (ad a0)), (1, .int x1), (2, .int x2), (3, .int x3)]) hx hb dX13_people_43 hl (by decide) rfl (fun ls hl => ?_)
      have L5 : ∀ n5 : Nat, ∀ (M5 : MM) (y5_0 : Nat) (y5_1 : Int32) (y5_2 : Int32) (y5_3 : Int32) (y5_4 : Int32) (y5_5 : Int32) (y5_6 : Int32) (ky5_0 : ok g y5_0 13 0) (H : Heap) (locs : List Loc), f_X13_people_L45 n5 M5 y5_0 y5_1 y5_2 y5_3 y5_4 y5_5 y5_6 = some Z → va_P D vwCl (wd ad cy g M5) H → va_D A (wd ad cy g M5) → WT g M5 → va_S A s.heap H locs → ∀ (ls : Array Slot), lv_has ls 8 [(0, .ref (ad y5_0)), (1, .int y5_1), (2, .int y5_2), (3, .int y5_3), (4, .int y5_4), (5, .int y5_5), (6, .int y5_6)] → W p l e ((headSpec wsX13_people ({ frames := 1, cells := 0, slots := 0, locals := 22 })).room) s m (([.ref (ad a0), .int x1, .int x2, .int x3] : List Value).toArray) below meth c H locs 0 0 (MQ below (va_Qi (fun r u => r = Z.1 ∧ u = Z.2) (Wd D ad cy A g q) A) ([.ref (ad a0), .int x1, .int x2, .int x3]).toArray s 0 0 A) (F0 m 45 ls []) := by
        intro n5
        induction n5 with
        | zero => intro M5 y5_0 y5_1 y5_2 y5_3 y5_4 y5_5 y5_6 ky5_0 H locs h; exact absurd h (by simp [f_X13_people_L45])
        | succ n5 ih5 =>
          intro M5 y5_0 y5_1 y5_2 y5_3 y5_4 y5_5 y5_6 ky5_0 H locs h hP hD hT hS ls hl
          rw [f_X13_people_L45] at h
          refine lv_iload hx hb dX13_people_45 (lv_at hl 6 rfl) ?_
          refine lv_aload_n hx hb dX13_people_47 rfl (lv_at hl 0 rfl) ?_
          rcases hN6 : gR M5 y5_0 3 with _ | b6
          · replace h := oc_n hN6 h
            refine r_get (T := TX13) (v := .null) hx hb hts in13 hown hK hP ky5_0 (by decide) rfl 3 (by decide) (hts (.fieldLink RX13 431 "StoneWalkModel" "island" "LStoneWalkModel$Island;") (List.mem_of_getElem? (i := 2) (by decide +kernel))) rfl (t := 2) rfl (by show va_rf _ = _; rw [hN6]; rfl) dX13_people_48 ?_
            exact absurd h (by simp)
          · replace h := oc_s hN6 h
            have kb6 := hT.f ky5_0 (k := 3) (t := 12) (n := 0) rfl hN6
            refine r_get (T := TX13) (v := .ref (ad b6)) hx hb hts in13 hown hK hP ky5_0 (by decide) rfl 3 (by decide) (hts (.fieldLink RX13 431 "StoneWalkModel" "island" "LStoneWalkModel$Island;") (List.mem_of_getElem? (i := 2) (by decide +kernel))) rfl (t := 2) rfl (by show va_rf _ = _; rw [hN6]; rfl) dX13_people_48 ?_
            refine r_getN (T := TX12) (v := .int (gI M5 b6 4)) hx hb hts in12 hown hK hP kb6 (by decide) rfl 4 (by decide) (hG.2.2.1 _ (List.mem_of_getElem? (i := 22) rfl)) rfl (t := 0) rfl rfl dX13_people_51 ?_
            refine lv_icmp_ge (tgt := 175) hx hb dX13_people_54 rfl (fun c7 => ?_) (fun c7 => ?_)
            · replace h := ite_t c7 h
              refine lv_iload hx hb dX13_people_175 (lv_at hl 4 rfl) ?_
              refine lv_iconst (v := (-1)) hx hb dX13_people_177 rfl ?_
              refine lv_icmp_eq (tgt := 189) hx hb dX13_people_178 rfl (fun c8 => ?_) (fun c8 => ?_)
              · replace h := ite_t c8 h
                refine lv_aload_n hx hb dX13_people_189 rfl (lv_at hl 0 rfl) ?_
                refine lv_bipush (v := 6) hx hb dX13_people_190 rfl ?_
                obtain ⟨z9, h9, h⟩ := ob_some h
                refine k_i (va_runV (As := [.int 6]) (rest := []) ⟨hx, hb, hml, hown, hts⟩ (c_X13_refused (l := l) M5 y5_0 6 ky5_0 h9) (cwV 1 hts gX13_people_X13_refused rfl rfl rfl hdV_X13_refused ⟨Nat.le_of_ble_eq_true rfl, Nat.le_of_ble_eq_true rfl⟩) (pV (T := TX13) hP hK hD hT hG hS ky5_0 (by decide) rfl) rfl rfl hl.1 rfl (lv_room (Nat.le_of_ble_eq_true rfl)) dX13_people_192 ⟨Nat.zero_le _, Nat.zero_le _⟩) hS (fun H locs hP hD hT hS => ?_)
                refine lv_goto (tgt := 204) hx hb dX13_people_195 rfl ?_
                have hZ := Option.some.inj h
                exact r_iret hx hb hr hlocks hP hK hD hT hG hS (congrArg Prod.fst hZ) (congrArg Prod.snd hZ) dX13_people_204
              · replace h := ite_f c8 h
                refine lv_iload_n hx hb dX13_people_181 rfl (lv_at hl 2 rfl) ?_
                refine lv_iconst (v := 4) hx hb dX13_people_182 rfl ?_
                refine lv_iload hx hb dX13_people_183 (lv_at hl 5 rfl) ?_
                refine lv_imul hx hb dX13_people_185 ?_
                refine lv_icmp_le (tgt := 198) hx hb dX13_people_186 rfl (fun c10 => ?_) (fun c10 => ?_)
                · replace h := ite_t c10 h
                  refine lv_aload_n hx hb dX13_people_198 rfl (lv_at hl 0 rfl) ?_
                  refine lv_iload hx hb dX13_people_199 (lv_at hl 4 rfl) ?_
                  obtain ⟨z11, h11, h⟩ := ob_some h
                  refine k_i (va_runV (As := [.int y5_4]) (rest := []) ⟨hx, hb, hml, hown, hts⟩ (c_X13_done (l := l) M5 y5_0 y5_4 ky5_0 h11) (cwV 1 hts gX13_people_X13_done rfl rfl rfl hdV_X13_done ⟨Nat.le_of_ble_eq_true rfl, Nat.le_of_ble_eq_true rfl⟩) (pV (T := TX13) hP hK hD hT hG hS ky5_0 (by decide) rfl) rfl rfl hl.1 rfl (lv_room (Nat.le_of_ble_eq_true rfl)) dX13_people_201 ⟨Nat.zero_le _, Nat.zero_le _⟩) hS (fun H locs hP hD hT hS => ?_)
                  have hZ := Option.some.inj h
                  exact r_iret hx hb hr hlocks hP hK hD hT hG hS (congrArg Prod.fst hZ) (congrArg Prod.snd hZ) dX13_people_204
                · replace h := ite_f c10 h
                  refine lv_aload_n hx hb dX13_people_189 rfl (lv_at hl 0 rfl) ?_
                  refine lv_bipush (v := 6) hx hb dX13_people_190 rfl ?_
                  obtain ⟨z12, h12, h⟩ := ob_some h
                  refine k_i (va_runV (As := [.int 6]) (rest := []) ⟨hx, hb, hml, hown, hts⟩ (c_X13_refused (l := l) M5 y5_0 6 ky5_0 h12) (cwV 1 hts gX13_people_X13_refused rfl rfl rfl hdV_X13_refused ⟨Nat.le_of_ble_eq_true rfl, Nat.le_of_ble_eq_true rfl⟩) (pV (T := TX13) hP hK hD hT hG hS ky5_0 (by decide) rfl) rfl rfl hl.1 rfl (lv_room (Nat.le_of_ble_eq_true rfl)) dX13_people_192 ⟨Nat.zero_le _, Nat.zero_le _⟩) hS (fun H locs hP hD hT hS => ?_)
                  refine lv_goto (tgt := 204) hx hb dX13_people_195 rfl ?_
                  have hZ := Option.some.inj h
                  exact r_iret hx hb hr hlocks hP hK hD hT hG hS (congrArg Prod.fst hZ) (congrArg Prod.snd hZ) dX13_people_204
            · replace h := ite_f c7 h
              refine lv_aload_n hx hb dX13_people_57 rfl (lv_at hl 0 rfl) ?_
              rcases hN13 : gR M5 y5_0 3 with _ | b13
              · replace h := oc_n hN13 h
                refine r_get (T := TX13) (v := .null) hx hb hts in13 hown hK hP ky5_0 (by decide) rfl 3 (by decide) (hts (.fieldLink RX13 431 "StoneWalkModel" "island" "LStoneWalkModel$Island;") (List.mem_of_getElem? (i := 2) (by decide +kernel))) rfl (t := 2) rfl (by show va_rf _ = _; rw [hN13]; rfl) dX13_people_58 ?_
                exact absurd h (by simp)
              · replace h := oc_s hN13 h
                have kb13 := hT.f ky5_0 (k := 3) (t := 12) (n := 0) rfl hN13
                refine r_get (T := TX13) (v := .ref (ad b13)) hx hb hts in13 hown hK hP ky5_0 (by decide) rfl 3 (by decide) (hts (.fieldLink RX13 431 "StoneWalkModel" "island" "LStoneWalkModel$Island;") (List.mem_of_getElem? (i := 2) (by decide +kernel))) rfl (t := 2) rfl (by show va_rf _ = _; rw [hN13]; rfl) dX13_people_58 ?_
                rcases hN14 : gR M5 b13 22 with _ | b14
                · exact absurd (oc_n hN14 h) (by simp)
                replace h := oc_s hN14 h
                have kb14 := hT.f kb13 (k := 22) (t := 15) (n := 5) rfl hN14
                refine r_getN (T := TX12) (v := .ref (ad b14)) hx hb hts in12 hown hK hP kb13 (by decide) rfl 22 (by decide) (hG.2.2.1 _ (List.mem_of_getElem? (i := 23) rfl)) rfl (t := 2) rfl (by show va_rf _ = _; rw [hN14]; rfl) dX13_people_61 ?_
                refine lv_iload hx hb dX13_people_64 (lv_at hl 6 rfl) ?_
                obtain ⟨hn15, h⟩ := chk_some h
                refine r_iald hx hb hK hP kb14 hn15 dX13_people_66 ?_
                refine lv_iload_n hx hb dX13_people_67 rfl (lv_at hl 1 rfl) ?_
                refine lv_icmp_eq (tgt := 74) hx hb dX13_people_68 rfl (fun c16 => ?_) (fun c16 => ?_)
                · replace h := ite_t c16 h
                  refine lv_iload_n hx hb dX13_people_74 rfl (lv_at hl 2 rfl) ?_
                  refine lv_aload_n hx hb dX13_people_75 rfl (lv_at hl 0 rfl) ?_
                  rcases hN17 : gR M5 y5_0 3 with _ | b17
                  · replace h := oc_n hN17 h
                    refine r_get (T := TX13) (v := .null) hx hb hts in13 hown hK hP ky5_0 (by decide) rfl 3 (by decide) (hts (.fieldLink RX13 431 "StoneWalkModel" "island" "LStoneWalkModel$Island;") (List.mem_of_getElem? (i := 2) (by decide +kernel))) rfl (t := 2) rfl (by show va_rf _ = _; rw [hN17]; rfl) dX13_people_76 ?_
                    exact absurd h (by simp)
                  · replace h := oc_s hN17 h
                    have kb17 := hT.f ky5_0 (k := 3) (t := 12) (n := 0) rfl hN17
                    refine r_get (T := TX13) (v := .ref (ad b17)) hx hb hts in13 hown hK hP ky5_0 (by decide) rfl 3 (by decide) (hts (.fieldLink RX13 431 "StoneWalkModel" "island" "LStoneWalkModel$Island;") (List.mem_of_getElem? (i := 2) (by decide +kernel))) rfl (t := 2) rfl (by show va_rf _ = _; rw [hN17]; rfl) dX13_people_76 ?_
                    rcases hN18 : gR M5 b17 24 with _ | b18
                    · exact absurd (oc_n hN18 h) (by simp)
                    replace h := oc_s hN18 h
                    have kb18 := hT.f kb17 (k := 24) (t := 15) (n := 5) rfl hN18
                    refine r_getN (T := TX12) (v := .ref (ad b18)) hx hb hts in12 hown hK hP kb17 (by decide) rfl 24 (by decide) (hG.2.2.1 _ (List.mem_of_getElem? (i := 25) rfl)) rfl (t := 2) rfl (by show va_rf _ = _; rw [hN18]; rfl) dX13_people_79 ?_
                    refine lv_iload hx hb dX13_people_82 (lv_at hl 6 rfl) ?_
                    obtain ⟨hn19, h⟩ := chk_some h
                    refine r_iald hx hb hK hP kb18 hn19 dX13_people_84 ?_
                    refine lv_imul hx hb dX13_people_85 ?_
                    refine lv_aload_n hx hb dX13_people_86 rfl (lv_at hl 0 rfl) ?_
                    rcases hN20 : gR M5 y5_0 3 with _ | b20
                    · replace h := oc_n hN20 h
                      refine r_get (T := TX13) (v := .null) hx hb hts in13 hown hK hP ky5_0 (by decide) rfl 3 (by decide) (hts (.fieldLink RX13 431 "StoneWalkModel" "island" "LStoneWalkModel$Island;") (List.mem_of_getElem? (i := 2) (by decide +kernel))) rfl (t := 2) rfl (by show va_rf _ = _; rw [hN20]; rfl) dX13_people_87 ?_
                      exact absurd h (by simp)
                    · replace h := oc_s hN20 h
                      have kb20 := hT.f ky5_0 (k := 3) (t := 12) (n := 0) rfl hN20
                      refine r_get (T := TX13) (v := .ref (ad b20)) hx hb hts in13 hown hK hP ky5_0 (by decide) rfl 3 (by decide) (hts (.fieldLink RX13 431 "StoneWalkModel" "island" "LStoneWalkModel$Island;") (List.mem_of_getElem? (i := 2) (by decide +kernel))) rfl (t := 2) rfl (by show va_rf _ = _; rw [hN20]; rfl) dX13_people_87 ?_
                      rcases hN21 : gR M5 b20 23 with _ | b21
                      · exact absurd (oc_n hN21 h) (by simp)
                      replace h := oc_s hN21 h
                      have kb21 := hT.f kb20 (k := 23) (t := 15) (n := 5) rfl hN21
                      refine r_getN (T := TX12) (v := .ref (ad b21)) hx hb hts in12 hown hK hP kb20 (by decide) rfl 23 (by decide) (hG.2.2.1 _ (List.mem_of_getElem? (i := 24) rfl)) rfl (t := 2) rfl (by show va_rf _ = _; rw [hN21]; rfl) dX13_people_90 ?_
                      refine lv_iload hx hb dX13_people_93 (lv_at hl 6 rfl) ?_
                      obtain ⟨hn22, h⟩ := chk_some h
                      refine r_iald hx hb hK hP kb21 hn22 dX13_people_95 ?_
                      obtain ⟨z23, h23, h⟩ := ob_some h
                      refine k_i (va_runS (As := [.int (y5_2 * (gI M5 b18 (ix y5_6))), .int (gI M5 b21 (ix y5_6))]) (rest := []) ⟨hx, hb, hml, hown, hts⟩ (c_X13_up (l := l) M5 (y5_2 * (gI M5 b18 (ix y5_6))) (gI M5 b21 (ix y5_6)) h23) (va_cwS 2 hts gX13_people_X13_up rfl rfl rfl hdS_X13_up ⟨Nat.le_of_ble_eq_true rfl, Nat.le_of_ble_eq_true rfl⟩) (pS hP hK hD hT hG hS) rfl rfl hl.1 rfl (lv_room (Nat.le_of_ble_eq_true rfl)) dX13_people_96 ⟨Nat.zero_le _, Nat.zero_le _⟩) hS (fun H locs hP hD hT hS => ?_)
                      refine lv_istore (lv' := [(7, .int z23), (0, .ref (ad y5_0)), (1, .int y5_1), (2, .int y5_2), (3, .int y5_3), (4, .int y5_4), (5, .int y5_5), (6, .int y5_6)]) hx hb dX13_people_99 hl (by decide) rfl (fun ls hl => ?_)
                      refine lv_iload hx hb dX13_people_101 (lv_at hl 5 rfl) ?_
                      refine lv_iconst (v := (-1)) hx hb dX13_people_103 rfl ?_
                      refine lv_icmp_eq (tgt := 128) hx hb dX13_people_104 rfl (fun c24 => ?_) (fun c24 => ?_)
                      · replace h := ite_t c24 h
                        refine lv_iload hx hb dX13_people_128 (lv_at hl 0 rfl) ?_
                        refine lv_goto (tgt := 135) hx hb dX13_people_130 rfl ?_
                        refine lv_istore (lv' := [(4, .int z23), (7, .int z23), (0, .ref (ad y5_0)), (1, .int y5_1), (2, .int y5_2), (3, .int y5_3), (5, .int y5_5), (6, .int y5_6)]) hx hb dX13_people_135 hl (by decide) rfl (fun ls hl => ?_)
                        refine lv_aload_n hx hb dX13_people_137 rfl (lv_at hl 2 rfl) ?_
                        rcases hN25 : gR M5 y5_0 3 with _ | b25
                        · replace h := oc_n hN25 h
                          refine r_get (T := TX13) (v := .null) hx hb hts in13 hown hK hP ky5_0 (by decide) rfl 3 (by decide) (hts (.fieldLink RX13 431 "StoneWalkModel" "island" "LStoneWalkModel$Island;") (List.mem_of_getElem? (i := 2) (by decide +kernel))) rfl (t := 2) rfl (by show va_rf _ = _; rw [hN25]; rfl) dX13_people_138 ?_
                          exact absurd h (by simp)
                        · replace h := oc_s hN25 h
                          have kb25 := hT.f ky5_0 (k := 3) (t := 12) (n := 0) rfl hN25
                          refine r_get (T := TX13) (v := .ref (ad b25)) hx hb hts in13 hown hK hP ky5_0 (by decide) rfl 3 (by decide) (hts (.fieldLink RX13 431 "StoneWalkModel" "island" "LStoneWalkModel$Island;") (List.mem_of_getElem? (i := 2) (by decide +kernel))) rfl (t := 2) rfl (by show va_rf _ = _; rw [hN25]; rfl) dX13_people_138 ?_
                          rcases hN26 : gR M5 b25 23 with _ | b26
                          · exact absurd (oc_n hN26 h) (by simp)
                          replace h := oc_s hN26 h
                          have kb26 := hT.f kb25 (k := 23) (t := 15) (n := 5) rfl hN26
                          refine r_getN (T := TX12) (v := .ref (ad b26)) hx hb hts in12 hown hK hP kb25 (by decide) rfl 23 (by decide) (hG.2.2.1 _ (List.mem_of_getElem? (i := 24) rfl)) rfl (t := 2) rfl (by show va_rf _ = _; rw [hN26]; rfl) dX13_people_141 ?_
                          refine lv_iload hx hb dX13_people_144 (lv_at hl 7 rfl) ?_
                          obtain ⟨hn27, h⟩ := chk_some h
                          refine r_iald hx hb hK hP kb26 hn27 dX13_people_146 ?_
                          refine lv_iload hx hb dX13_people_147 (lv_at hl 6 rfl) ?_
                          refine lv_icmp_le (tgt := 165) hx hb dX13_people_149 rfl (fun c28 => ?_) (fun c28 => ?_)
                          · replace h := ite_t c28 h
                            refine lv_iload hx hb dX13_people_165 (lv_at hl 6 rfl) ?_
                            refine lv_istore (lv' := [(5, .int y5_5), (4, .int z23), (7, .int z23), (0, .ref (ad y5_0)), (1, .int y5_1), (2, .int y5_2), (3, .int y5_3), (6, .int y5_6)]) hx hb dX13_people_167 hl (by decide) rfl (fun ls hl => ?_)
                            refine lv_iinc (v := y5_6 + 1) (lv' := [(6, .int (y5_6 + 1)), (5, .int y5_5), (4, .int z23), (7, .int z23), (0, .ref (ad y5_0)), (1, .int y5_1), (2, .int y5_2), (3, .int y5_3)]) hx hb dX13_people_169 hl (k := 7) rfl rfl (by decide) rfl (fun ls hl => ?_)
                            refine lv_goto (tgt := 45) hx hb dX13_people_172 rfl ?_
                            exact ih5 M5 y5_0 y5_1 y5_2 y5_3 z23 y5_5 (y5_6 + 1) ky5_0 _ _ h hP hD hT hS ls (lv_sub hl [4, 5, 6, 7, 2, 1, 0] rfl)
                          · replace h := ite_f c28 h
                            refine lv_aload_n hx hb dX13_people_152 rfl (lv_at hl 2 rfl) ?_
                            rcases hN29 : gR M5 y5_0 3 with _ | b29
                            · replace h := oc_n hN29 h
                              refine r_get (T := TX13) (v := .null) hx hb hts in13 hown hK hP ky5_0 (by decide) rfl 3 (by decide) (hts (.fieldLink RX13 431 "StoneWalkModel" "island" "LStoneWalkModel$Island;") (List.mem_of_getElem? (i := 2) (by decide +kernel))) rfl (t := 2) rfl (by show va_rf _ = _; rw [hN29]; rfl) dX13_people_153 ?_
                              exact absurd h (by simp)
                            · replace h := oc_s hN29 h
                              have kb29 := hT.f ky5_0 (k := 3) (t := 12) (n := 0) rfl hN29
                              refine r_get (T := TX13) (v := .ref (ad b29)) hx hb hts in13 hown hK hP ky5_0 (by decide) rfl 3 (by decide) (hts (.fieldLink RX13 431 "StoneWalkModel" "island" "LStoneWalkModel$Island;") (List.mem_of_getElem? (i := 2) (by decide +kernel))) rfl (t := 2) rfl (by show va_rf _ = _; rw [hN29]; rfl) dX13_people_153 ?_
                              rcases hN30 : gR M5 b29 23 with _ | b30
                              · exact absurd (oc_n hN30 h) (by simp)
                              replace h := oc_s hN30 h
                              have kb30 := hT.f kb29 (k := 23) (t := 15) (n := 5) rfl hN30
                              refine r_getN (T := TX12) (v := .ref (ad b30)) hx hb hts in12 hown hK hP kb29 (by decide) rfl 23 (by decide) (hG.2.2.1 _ (List.mem_of_getElem? (i := 24) rfl)) rfl (t := 2) rfl (by show va_rf _ = _; rw [hN30]; rfl) dX13_people_156 ?_
                              refine lv_iload hx hb dX13_people_159 (lv_at hl 7 rfl) ?_
                              obtain ⟨hn31, h⟩ := chk_some h
                              refine r_iald hx hb hK hP kb30 hn31 dX13_people_161 ?_
                              refine lv_goto (tgt := 167) hx hb dX13_people_162 rfl ?_
                              refine lv_istore (lv' := [(5, .int (gI M5 b30 (ix y5_6))), (4, .int z23), (7, .int z23), (0, .ref (ad y5_0)), (1, .int y5_1), (2, .int y5_2), (3, .int y5_3), (6, .int y5_6)]) hx hb dX13_people_167 hl (by decide) rfl (fun ls hl => ?_)
                              refine lv_iinc (v := y5_6 + 1) (lv' := [(6, .int (y5_6 + 1)), (5, .int (gI M5 b30 (ix y5_6))), (4, .int z23), (7, .int z23), (0, .ref (ad y5_0)), (1, .int y5_1), (2, .int y5_2), (3, .int y5_3)]) hx hb dX13_people_169 hl (k := 7) rfl rfl (by decide) rfl (fun ls hl => ?_)
                              refine lv_goto (tgt := 45) hx hb dX13_people_172 rfl ?_
                              exact ih5 M5 y5_0 y5_1 y5_2 y5_3 z23 (gI M5 b30 (ix y5_6)) (y5_6 + 1) ky5_0 _ _ h hP hD hT hS ls (lv_sub hl [4, 5, 6, 7, 2, 1, 0] rfl)
                      · replace h := ite_f c24 h
                        refine lv_iload_n hx hb dX13_people_107 rfl (lv_at hl 4 rfl) ?_
                        refine lv_if_eq (tgt := 121) hx hb dX13_people_108 rfl (fun c32 => ?_) (fun c32 => ?_)
                        · replace h := ite_t c32 h
                          refine lv_iload hx hb dX13_people_121 (lv_at hl 0 rfl) ?_
                          refine lv_iload hx hb dX13_people_123 (lv_at hl 5 rfl) ?_
                          refine lv_icmp_ge (tgt := 133) hx hb dX13_people_125 rfl (fun c33 => ?_) (fun c33 => ?_)
                          · replace h := ite_t c33 h
                            refine lv_iload hx hb dX13_people_133 (lv_at hl 5 rfl) ?_
                            refine lv_istore (lv' := [(4, .int y5_4), (7, .int z23), (0, .ref (ad y5_0)), (1, .int y5_1), (2, .int y5_2), (3, .int y5_3), (5, .int y5_5), (6, .int y5_6)]) hx hb dX13_people_135 hl (by decide) rfl (fun ls hl => ?_)
                            refine lv_aload_n hx hb dX13_people_137 rfl (lv_at hl 2 rfl) ?_
                            rcases hN34 : gR M5 y5_0 3 with _ | b34
                            · replace h := oc_n hN34 h
                              refine r_get (T := TX13) (v := .null) hx hb hts in13 hown hK hP ky5_0 (by decide) rfl 3 (by decide) (hts (.fieldLink RX13 431 "StoneWalkModel" "island" "LStoneWalkModel$Island;") (List.mem_of_getElem? (i := 2) (by decide +kernel))) rfl (t := 2) rfl (by show va_rf _ = _; rw [hN34]; rfl) dX13_people_138 ?_
                              exact absurd h (by simp)
                            · replace h := oc_s hN34 h
                              have kb34 := hT.f ky5_0 (k := 3) (t := 12) (n := 0) rfl hN34
                              refine r_get (T := TX13) (v := .ref (ad b34)) hx hb hts in13 hown hK hP ky5_0 (by decide) rfl 3 (by decide) (hts (.fieldLink RX13 431 "StoneWalkModel" "island" "LStoneWalkModel$Island;") (List.mem_of_getElem? (i := 2) (by decide +kernel))) rfl (t := 2) rfl (by show va_rf _ = _; rw [hN34]; rfl) dX13_people_138 ?_
                              rcases hN35 : gR M5 b34 23 with _ | b35
                              · exact absurd (oc_n hN35 h) (by simp)
                              replace h := oc_s hN35 h
                              have kb35 := hT.f kb34 (k := 23) (t := 15) (n := 5) rfl hN35
                              refine r_getN (T := TX12) (v := .ref (ad b35)) hx hb hts in12 hown hK hP kb34 (by decide) rfl 23 (by decide) (hG.2.2.1 _ (List.mem_of_getElem? (i := 24) rfl)) rfl (t := 2) rfl (by show va_rf _ = _; rw [hN35]; rfl) dX13_people_141 ?_
                              refine lv_iload hx hb dX13_people_144 (lv_at hl 7 rfl) ?_
                              obtain ⟨hn36, h⟩ := chk_some h
                              refine r_iald hx hb hK hP kb35 hn36 dX13_people_146 ?_
                              refine lv_iload hx hb dX13_people_147 (lv_at hl 6 rfl) ?_
                              refine lv_icmp_le (tgt := 165) hx hb dX13_people_149 rfl (fun c37 => ?_) (fun c37 => ?_)
                              · replace h := ite_t c37 h
                                refine lv_iload hx hb dX13_people_165 (lv_at hl 6 rfl) ?_
                                refine lv_istore (lv' := [(5, .int y5_5), (4, .int y5_4), (7, .int z23), (0, .ref (ad y5_0)), (1, .int y5_1), (2, .int y5_2), (3, .int y5_3), (6, .int y5_6)]) hx hb dX13_people_167 hl (by decide) rfl (fun ls hl => ?_)
                                refine lv_iinc (v := y5_6 + 1) (lv' := [(6, .int (y5_6 + 1)), (5, .int y5_5), (4, .int y5_4), (7, .int z23), (0, .ref (ad y5_0)), (1, .int y5_1), (2, .int y5_2), (3, .int y5_3)]) hx hb dX13_people_169 hl (k := 7) rfl rfl (by decide) rfl (fun ls hl => ?_)
                                refine lv_goto (tgt := 45) hx hb dX13_people_172 rfl ?_
                                exact ih5 M5 y5_0 y5_1 y5_2 y5_3 y5_4 y5_5 (y5_6 + 1) ky5_0 _ _ h hP hD hT hS ls (lv_sub hl [4, 5, 6, 7, 2, 1, 0] rfl)
                              · replace h := ite_f c37 h
                                refine lv_aload_n hx hb dX13_people_152 rfl (lv_at hl 2 rfl) ?_
                                rcases hN38 : gR M5 y5_0 3 with _ | b38
                                · replace h := oc_n hN38 h
                                  refine r_get (T := TX13) (v := .null) hx hb hts in13 hown hK hP ky5_0 (by decide) rfl 3 (by decide) (hts (.fieldLink RX13 431 "StoneWalkModel" "island" "LStoneWalkModel$Island;") (List.mem_of_getElem? (i := 2) (by decide +kernel))) rfl (t := 2) rfl (by show va_rf _ = _; rw [hN38]; rfl) dX13_people_153 ?_
                                  exact absurd h (by simp)
                                · replace h := oc_s hN38 h
                                  have kb38 := hT.f ky5_0 (k := 3) (t := 12) (n := 0) rfl hN38
                                  refine r_get (T := TX13) (v := .ref (ad b38)) hx hb hts in13 hown hK hP ky5_0 (by decide) rfl 3 (by decide) (hts (.fieldLink RX13 431 "StoneWalkModel" "island" "LStoneWalkModel$Island;") (List.mem_of_getElem? (i := 2) (by decide +kernel))) rfl (t := 2) rfl (by show va_rf _ = _; rw [hN38]; rfl) dX13_people_153 ?_
                                  rcases hN39 : gR M5 b38 23 with _ | b39
                                  · exact absurd (oc_n hN39 h) (by simp)
                                  replace h := oc_s hN39 h
                                  have kb39 := hT.f kb38 (k := 23) (t := 15) (n := 5) rfl hN39
                                  refine r_getN (T := TX12) (v := .ref (ad b39)) hx hb hts in12 hown hK hP kb38 (by decide) rfl 23 (by decide) (hG.2.2.1 _ (List.mem_of_getElem? (i := 24) rfl)) rfl (t := 2) rfl (by show va_rf _ = _; rw [hN39]; rfl) dX13_people_156 ?_
                                  refine lv_iload hx hb dX13_people_159 (lv_at hl 7 rfl) ?_
                                  obtain ⟨hn40, h⟩ := chk_some h
                                  refine r_iald hx hb hK hP kb39 hn40 dX13_people_161 ?_
                                  refine lv_goto (tgt := 167) hx hb dX13_people_162 rfl ?_
                                  refine lv_istore (lv' := [(5, .int (gI M5 b39 (ix y5_6))), (4, .int y5_4), (7, .int z23), (0, .ref (ad y5_0)), (1, .int y5_1), (2, .int y5_2), (3, .int y5_3), (6, .int y5_6)]) hx hb dX13_people_167 hl (by decide) rfl (fun ls hl => ?_)
                                  refine lv_iinc (v := y5_6 + 1) (lv' := [(6, .int (y5_6 + 1)), (5, .int (gI M5 b39 (ix y5_6))), (4, .int y5_4), (7, .int z23), (0, .ref (ad y5_0)), (1, .int y5_1), (2, .int y5_2), (3, .int y5_3)]) hx hb dX13_people_169 hl (k := 7) rfl rfl (by decide) rfl (fun ls hl => ?_)
                                  refine lv_goto (tgt := 45) hx hb dX13_people_172 rfl ?_
                                  exact ih5 M5 y5_0 y5_1 y5_2 y5_3 y5_4 (gI M5 b39 (ix y5_6)) (y5_6 + 1) ky5_0 _ _ h hP hD hT hS ls (lv_sub hl [4, 5, 6, 7, 2, 1, 0] rfl)
                          · replace h := ite_f c33 h
                            refine lv_iload hx hb dX13_people_128 (lv_at hl 0 rfl) ?_
                            refine lv_goto (tgt := 135) hx hb dX13_people_130 rfl ?_
                            refine lv_istore (lv' := [(4, .int z23), (7, .int z23), (0, .ref (ad y5_0)), (1, .int y5_1), (2, .int y5_2), (3, .int y5_3), (5, .int y5_5), (6, .int y5_6)]) hx hb dX13_people_135 hl (by decide) rfl (fun ls hl => ?_)
                            refine lv_aload_n hx hb dX13_people_137 rfl (lv_at hl 2 rfl) ?_
                            rcases hN41 : gR M5 y5_0 3 with _ | b41
                            · replace h := oc_n hN41 h
                              refine r_get (T := TX13) (v := .null) hx hb hts in13 hown hK hP ky5_0 (by decide) rfl 3 (by decide) (hts (.fieldLink RX13 431 "StoneWalkModel" "island" "LStoneWalkModel$Island;") (List.mem_of_getElem? (i := 2) (by decide +kernel))) rfl (t := 2) rfl (by show va_rf _ = _; rw [hN41]; rfl) dX13_people_138 ?_
                              exact absurd h (by simp)
                            · replace h := oc_s hN41 h
                              have kb41 := hT.f ky5_0 (k := 3) (t := 12) (n := 0) rfl hN41
                              refine r_get (T := TX13) (v := .ref (ad b41)) hx hb hts in13 hown hK hP ky5_0 (by decide) rfl 3 (by decide) (hts (.fieldLink RX13 431 "StoneWalkModel" "island" "LStoneWalkModel$Island;") (List.mem_of_getElem? (i := 2) (by decide +kernel))) rfl (t := 2) rfl (by show va_rf _ = _; rw [hN41]; rfl) dX13_people_138 ?_
                              rcases hN42 : gR M5 b41 23 with _ | b42
                              · exact absurd (oc_n hN42 h) (by simp)
                              replace h := oc_s hN42 h
                              have kb42 := hT.f kb41 (k := 23) (t := 15) (n := 5) rfl hN42
                              refine r_getN (T := TX12) (v := .ref (ad b42)) hx hb hts in12 hown hK hP kb41 (by decide) rfl 23 (by decide) (hG.2.2.1 _ (List.mem_of_getElem? (i := 24) rfl)) rfl (t := 2) rfl (by show va_rf _ = _; rw [hN42]; rfl) dX13_people_141 ?_
                              refine lv_iload hx hb dX13_people_144 (lv_at hl 7 rfl) ?_
                              obtain ⟨hn43, h⟩ := chk_some h
                              refine r_iald hx hb hK hP kb42 hn43 dX13_people_146 ?_
                              refine lv_iload hx hb dX13_people_147 (lv_at hl 6 rfl) ?_
                              refine lv_icmp_le (tgt := 165) hx hb dX13_people_149 rfl (fun c44 => ?_) (fun c44 => ?_)
                              · replace h := ite_t c44 h
                                refine lv_iload hx hb dX13_people_165 (lv_at hl 6 rfl) ?_
                                refine lv_istore (lv' := [(5, .int y5_5), (4, .int z23), (7, .int z23), (0, .ref (ad y5_0)), (1, .int y5_1), (2, .int y5_2), (3, .int y5_3), (6, .int y5_6)]) hx hb dX13_people_167 hl (by decide) rfl (fun ls hl => ?_)
                                refine lv_iinc (v := y5_6 + 1) (lv' := [(6, .int (y5_6 + 1)), (5, .int y5_5), (4, .int z23), (7, .int z23), (0, .ref (ad y5_0)), (1, .int y5_1), (2, .int y5_2), (3, .int y5_3)]) hx hb dX13_people_169 hl (k := 7) rfl rfl (by decide) rfl (fun ls hl => ?_)
                                refine lv_goto (tgt := 45) hx hb dX13_people_172 rfl ?_
                                exact ih5 M5 y5_0 y5_1 y5_2 y5_3 z23 y5_5 (y5_6 + 1) ky5_0 _ _ h hP hD hT hS ls (lv_sub hl [4, 5, 6, 7, 2, 1, 0] rfl)
                              · replace h := ite_f c44 h
                                refine lv_aload_n hx hb dX13_people_152 rfl (lv_at hl 2 rfl) ?_
                                rcases hN45 : gR M5 y5_0 3 with _ | b45
                                · replace h := oc_n hN45 h
                                  refine r_get (T := TX13) (v := .null) hx hb hts in13 hown hK hP ky5_0 (by decide) rfl 3 (by decide) (hts (.fieldLink RX13 431 "StoneWalkModel" "island" "LStoneWalkModel$Island;") (List.mem_of_getElem? (i := 2) (by decide +kernel))) rfl (t := 2) rfl (by show va_rf _ = _; rw [hN45]; rfl) dX13_people_153 ?_
                                  exact absurd h (by simp)
                                · replace h := oc_s hN45 h
                                  have kb45 := hT.f ky5_0 (k := 3) (t := 12) (n := 0) rfl hN45
                                  refine r_get (T := TX13) (v := .ref (ad b45)) hx hb hts in13 hown hK hP ky5_0 (by decide) rfl 3 (by decide) (hts (.fieldLink RX13 431 "StoneWalkModel" "island" "LStoneWalkModel$Island;") (List.mem_of_getElem? (i := 2) (by decide +kernel))) rfl (t := 2) rfl (by show va_rf _ = _; rw [hN45]; rfl) dX13_people_153 ?_
                                  rcases hN46 : gR M5 b45 23 with _ | b46
                                  · exact absurd (oc_n hN46 h) (by simp)
                                  replace h := oc_s hN46 h
                                  have kb46 := hT.f kb45 (k := 23) (t := 15) (n := 5) rfl hN46
                                  refine r_getN (T := TX12) (v := .ref (ad b46)) hx hb hts in12 hown hK hP kb45 (by decide) rfl 23 (by decide) (hG.2.2.1 _ (List.mem_of_getElem? (i := 24) rfl)) rfl (t := 2) rfl (by show va_rf _ = _; rw [hN46]; rfl) dX13_people_156 ?_
                                  refine lv_iload hx hb dX13_people_159 (lv_at hl 7 rfl) ?_
                                  obtain ⟨hn47, h⟩ := chk_some h
                                  refine r_iald hx hb hK hP kb46 hn47 dX13_people_161 ?_
                                  refine lv_goto (tgt := 167) hx hb dX13_people_162 rfl ?_
                                  refine lv_istore (lv' := [(5, .int (gI M5 b46 (ix y5_6))), (4, .int z23), (7, .int z23), (0, .ref (ad y5_0)), (1, .int y5_1), (2, .int y5_2), (3, .int y5_3), (6, .int y5_6)]) hx hb dX13_people_167 hl (by decide) rfl (fun ls hl => ?_)
                                  refine lv_iinc (v := y5_6 + 1) (lv' := [(6, .int (y5_6 + 1)), (5, .int (gI M5 b46 (ix y5_6))), (4, .int z23), (7, .int z23), (0, .ref (ad y5_0)), (1, .int y5_1), (2, .int y5_2), (3, .int y5_3)]) hx hb dX13_people_169 hl (k := 7) rfl rfl (by decide) rfl (fun ls hl => ?_)
                                  refine lv_goto (tgt := 45) hx hb dX13_people_172 rfl ?_
                                  exact ih5 M5 y5_0 y5_1 y5_2 y5_3 z23 (gI M5 b46 (ix y5_6)) (y5_6 + 1) ky5_0 _ _ h hP hD hT hS ls (lv_sub hl [4, 5, 6, 7, 2, 1, 0] rfl)
                        · replace h := ite_f c32 h
                          refine lv_iload hx hb dX13_people_111 (lv_at hl 0 rfl) ?_
                          refine lv_iload hx hb dX13_people_113 (lv_at hl 5 rfl) ?_
                          refine lv_icmp_le (tgt := 133) hx hb dX13_people_115 rfl (fun c48 => ?_) (fun c48 => ?_)
                          · replace h := ite_t c48 h
                            refine lv_iload hx hb dX13_people_133 (lv_at hl 5 rfl) ?_
                            refine lv_istore (lv' := [(4, .int y5_4), (7, .int z23), (0, .ref (ad y5_0)), (1, .int y5_1), (2, .int y5_2), (3, .int y5_3), (5, .int y5_5), (6, .int y5_6)]) hx hb dX13_people_135 hl (by decide) rfl (fun ls hl => ?_)
                            refine lv_aload_n hx hb dX13_people_137 rfl (lv_at hl 2 rfl) ?_
                            rcases hN49 : gR M5 y5_0 3 with _ | b49
                            · replace h := oc_n hN49 h
                              refine r_get (T := TX13) (v := .null) hx hb hts in13 hown hK hP ky5_0 (by decide) rfl 3 (by decide) (hts (.fieldLink RX13 431 "StoneWalkModel" "island" "LStoneWalkModel$Island;") (List.mem_of_getElem? (i := 2) (by decide +kernel))) rfl (t := 2) rfl (by show va_rf _ = _; rw [hN49]; rfl) dX13_people_138 ?_
                              exact absurd h (by simp)
                            · replace h := oc_s hN49 h
                              have kb49 := hT.f ky5_0 (k := 3) (t := 12) (n := 0) rfl hN49
                              refine r_get (T := TX13) (v := .ref (ad b49)) hx hb hts in13 hown hK hP ky5_0 (by decide) rfl 3 (by decide) (hts (.fieldLink RX13 431 "StoneWalkModel" "island" "LStoneWalkModel$Island;") (List.mem_of_getElem? (i := 2) (by decide +kernel))) rfl (t := 2) rfl (by show va_rf _ = _; rw [hN49]; rfl) dX13_people_138 ?_
                              rcases hN50 : gR M5 b49 23 with _ | b50
                              · exact absurd (oc_n hN50 h) (by simp)
                              replace h := oc_s hN50 h
                              have kb50 := hT.f kb49 (k := 23) (t := 15) (n := 5) rfl hN50
                              refine r_getN (T := TX12) (v := .ref (ad b50)) hx hb hts in12 hown hK hP kb49 (by decide) rfl 23 (by decide) (hG.2.2.1 _ (List.mem_of_getElem? (i := 24) rfl)) rfl (t := 2) rfl (by show va_rf _ = _; rw [hN50]; rfl) dX13_people_141 ?_
                              refine lv_iload hx hb dX13_people_144 (lv_at hl 7 rfl) ?_
                              obtain ⟨hn51, h⟩ := chk_some h
                              refine r_iald hx hb hK hP kb50 hn51 dX13_people_146 ?_
                              refine lv_iload hx hb dX13_people_147 (lv_at hl 6 rfl) ?_
                              refine lv_icmp_le (tgt := 165) hx hb dX13_people_149 rfl (fun c52 => ?_) (fun c52 => ?_)
                              · replace h := ite_t c52 h
                                refine lv_iload hx hb dX13_people_165 (lv_at hl 6 rfl) ?_
                                refine lv_istore (lv' := [(5, .int y5_5), (4, .int y5_4), (7, .int z23), (0, .ref (ad y5_0)), (1, .int y5_1), (2, .int y5_2), (3, .int y5_3), (6, .int y5_6)]) hx hb dX13_people_167 hl (by decide) rfl (fun ls hl => ?_)
                                refine lv_iinc (v := y5_6 + 1) (lv' := [(6, .int (y5_6 + 1)), (5, .int y5_5), (4, .int y5_4), (7, .int z23), (0, .ref (ad y5_0)), (1, .int y5_1), (2, .int y5_2), (3, .int y5_3)]) hx hb dX13_people_169 hl (k := 7) rfl rfl (by decide) rfl (fun ls hl => ?_)
                                refine lv_goto (tgt := 45) hx hb dX13_people_172 rfl ?_
                                exact ih5 M5 y5_0 y5_1 y5_2 y5_3 y5_4 y5_5 (y5_6 + 1) ky5_0 _ _ h hP hD hT hS ls (lv_sub hl [4, 5, 6, 7, 2, 1, 0] rfl)
                              · replace h := ite_f c52 h
                                refine lv_aload_n hx hb dX13_people_152 rfl (lv_at hl 2 rfl) ?_
                                rcases hN53 : gR M5 y5_0 3 with _ | b53
                                · replace h := oc_n hN53 h
                                  refine r_get (T := TX13) (v := .null) hx hb hts in13 hown hK hP ky5_0 (by decide) rfl 3 (by decide) (hts (.fieldLink RX13 431 "StoneWalkModel" "island" "LStoneWalkModel$Island;") (List.mem_of_getElem? (i := 2) (by decide +kernel))) rfl (t := 2) rfl (by show va_rf _ = _; rw [hN53]; rfl) dX13_people_153 ?_
                                  exact absurd h (by simp)
                                · replace h := oc_s hN53 h
                                  have kb53 := hT.f ky5_0 (k := 3) (t := 12) (n := 0) rfl hN53
                                  refine r_get (T := TX13) (v := .ref (ad b53)) hx hb hts in13 hown hK hP ky5_0 (by decide) rfl 3 (by decide) (hts (.fieldLink RX13 431 "StoneWalkModel" "island" "LStoneWalkModel$Island;") (List.mem_of_getElem? (i := 2) (by decide +kernel))) rfl (t := 2) rfl (by show va_rf _ = _; rw [hN53]; rfl) dX13_people_153 ?_
                                  rcases hN54 : gR M5 b53 23 with _ | b54
                                  · exact absurd (oc_n hN54 h) (by simp)
                                  replace h := oc_s hN54 h
                                  have kb54 := hT.f kb53 (k := 23) (t := 15) (n := 5) rfl hN54
                                  refine r_getN (T := TX12) (v := .ref (ad b54)) hx hb hts in12 hown hK hP kb53 (by decide) rfl 23 (by decide) (hG.2.2.1 _ (List.mem_of_getElem? (i := 24) rfl)) rfl (t := 2) rfl (by show va_rf _ = _; rw [hN54]; rfl) dX13_people_156 ?_
                                  refine lv_iload hx hb dX13_people_159 (lv_at hl 7 rfl) ?_
                                  obtain ⟨hn55, h⟩ := chk_some h
                                  refine r_iald hx hb hK hP kb54 hn55 dX13_people_161 ?_
                                  refine lv_goto (tgt := 167) hx hb dX13_people_162 rfl ?_
                                  refine lv_istore (lv' := [(5, .int (gI M5 b54 (ix y5_6))), (4, .int y5_4), (7, .int z23), (0, .ref (ad y5_0)), (1, .int y5_1), (2, .int y5_2), (3, .int y5_3), (6, .int y5_6)]) hx hb dX13_people_167 hl (by decide) rfl (fun ls hl => ?_)
                                  refine lv_iinc (v := y5_6 + 1) (lv' := [(6, .int (y5_6 + 1)), (5, .int (gI M5 b54 (ix y5_6))), (4, .int y5_4), (7, .int z23), (0, .ref (ad y5_0)), (1, .int y5_1), (2, .int y5_2), (3, .int y5_3)]) hx hb dX13_people_169 hl (k := 7) rfl rfl (by decide) rfl (fun ls hl => ?_)
                                  refine lv_goto (tgt := 45) hx hb dX13_people_172 rfl ?_
                                  exact ih5 M5 y5_0 y5_1 y5_2 y5_3 y5_4 (gI M5 b54 (ix y5_6)) (y5_6 + 1) ky5_0 _ _ h hP hD hT hS ls (lv_sub hl [4, 5, 6, 7, 2, 1, 0] rfl)
                          · replace h := ite_f c48 h
                            refine lv_goto (tgt := 128) hx hb dX13_people_118 rfl ?_
                            refine lv_iload hx hb dX13_people_128 (lv_at hl 0 rfl) ?_
                            refine lv_goto (tgt := 135) hx hb dX13_people_130 rfl ?_
                            refine lv_istore (lv' := [(4, .int z23), (7, .int z23), (0, .ref (ad y5_0)), (1, .int y5_1), (2, .int y5_2), (3, .int y5_3), (5, .int y5_5), (6, .int y5_6)]) hx hb dX13_people_135 hl (by decide) rfl (fun ls hl => ?_)
                            refine lv_aload_n hx hb dX13_people_137 rfl (lv_at hl 2 rfl) ?_
                            rcases hN56 : gR M5 y5_0 3 with _ | b56
                            · replace h := oc_n hN56 h
                              refine r_get (T := TX13) (v := .null) hx hb hts in13 hown hK hP ky5_0 (by decide) rfl 3 (by decide) (hts (.fieldLink RX13 431 "StoneWalkModel" "island" "LStoneWalkModel$Island;") (List.mem_of_getElem? (i := 2) (by decide +kernel))) rfl (t := 2) rfl (by show va_rf _ = _; rw [hN56]; rfl) dX13_people_138 ?_
                              exact absurd h (by simp)
                            · replace h := oc_s hN56 h
                              have kb56 := hT.f ky5_0 (k := 3) (t := 12) (n := 0) rfl hN56
                              refine r_get (T := TX13) (v := .ref (ad b56)) hx hb hts in13 hown hK hP ky5_0 (by decide) rfl 3 (by decide) (hts (.fieldLink RX13 431 "StoneWalkModel" "island" "LStoneWalkModel$Island;") (List.mem_of_getElem? (i := 2) (by decide +kernel))) rfl (t := 2) rfl (by show va_rf _ = _; rw [hN56]; rfl) dX13_people_138 ?_
                              rcases hN57 : gR M5 b56 23 with _ | b57
                              · exact absurd (oc_n hN57 h) (by simp)
                              replace h := oc_s hN57 h
                              have kb57 := hT.f kb56 (k := 23) (t := 15) (n := 5) rfl hN57
                              refine r_getN (T := TX12) (v := .ref (ad b57)) hx hb hts in12 hown hK hP kb56 (by decide) rfl 23 (by decide) (hG.2.2.1 _ (List.mem_of_getElem? (i := 24) rfl)) rfl (t := 2) rfl (by show va_rf _ = _; rw [hN57]; rfl) dX13_people_141 ?_
                              refine lv_iload hx hb dX13_people_144 (lv_at hl 7 rfl) ?_
                              obtain ⟨hn58, h⟩ := chk_some h
                              refine r_iald hx hb hK hP kb57 hn58 dX13_people_146 ?_
                              refine lv_iload hx hb dX13_people_147 (lv_at hl 6 rfl) ?_
                              refine lv_icmp_le (tgt := 165) hx hb dX13_people_149 rfl (fun c59 => ?_) (fun c59 => ?_)
                              · replace h := ite_t c59 h
                                refine lv_iload hx hb dX13_people_165 (lv_at hl 6 rfl) ?_
                                refine lv_istore (lv' := [(5, .int y5_5), (4, .int z23), (7, .int z23), (0, .ref (ad y5_0)), (1, .int y5_1), (2, .int y5_2), (3, .int y5_3), (6, .int y5_6)]) hx hb dX13_people_167 hl (by decide) rfl (fun ls hl => ?_)
                                refine lv_iinc (v := y5_6 + 1) (lv' := [(6, .int (y5_6 + 1)), (5, .int y5_5), (4, .int z23), (7, .int z23), (0, .ref (ad y5_0)), (1, .int y5_1), (2, .int y5_2), (3, .int y5_3)]) hx hb dX13_people_169 hl (k := 7) rfl rfl (by decide) rfl (fun ls hl => ?_)
                                refine lv_goto (tgt := 45) hx hb dX13_people_172 rfl ?_
                                exact ih5 M5 y5_0 y5_1 y5_2 y5_3 z23 y5_5 (y5_6 + 1) ky5_0 _ _ h hP hD hT hS ls (lv_sub hl [4, 5, 6, 7, 2, 1, 0] rfl)
                              · replace h := ite_f c59 h
                                refine lv_aload_n hx hb dX13_people_152 rfl (lv_at hl 2 rfl) ?_
                                rcases hN60 : gR M5 y5_0 3 with _ | b60
                                · replace h := oc_n hN60 h
                                  refine r_get (T := TX13) (v := .null) hx hb hts in13 hown hK hP ky5_0 (by decide) rfl 3 (by decide) (hts (.fieldLink RX13 431 "StoneWalkModel" "island" "LStoneWalkModel$Island;") (List.mem_of_getElem? (i := 2) (by decide +kernel))) rfl (t := 2) rfl (by show va_rf _ = _; rw [hN60]; rfl) dX13_people_153 ?_
                                  exact absurd h (by simp)
                                · replace h := oc_s hN60 h
                                  have kb60 := hT.f ky5_0 (k := 3) (t := 12) (n := 0) rfl hN60
                                  refine r_get (T := TX13) (v := .ref (ad b60)) hx hb hts in13 hown hK hP ky5_0 (by decide) rfl 3 (by decide) (hts (.fieldLink RX13 431 "StoneWalkModel" "island" "LStoneWalkModel$Island;") (List.mem_of_getElem? (i := 2) (by decide +kernel))) rfl (t := 2) rfl (by show va_rf _ = _; rw [hN60]; rfl) dX13_people_153 ?_
                                  rcases hN61 : gR M5 b60 23 with _ | b61
                                  · exact absurd (oc_n hN61 h) (by simp)
                                  replace h := oc_s hN61 h
                                  have kb61 := hT.f kb60 (k := 23) (t := 15) (n := 5) rfl hN61
                                  refine r_getN (T := TX12) (v := .ref (ad b61)) hx hb hts in12 hown hK hP kb60 (by decide) rfl 23 (by decide) (hG.2.2.1 _ (List.mem_of_getElem? (i := 24) rfl)) rfl (t := 2) rfl (by show va_rf _ = _; rw [hN61]; rfl) dX13_people_156 ?_
                                  refine lv_iload hx hb dX13_people_159 (lv_at hl 7 rfl) ?_
                                  obtain ⟨hn62, h⟩ := chk_some h
                                  refine r_iald hx hb hK hP kb61 hn62 dX13_people_161 ?_
                                  refine lv_goto (tgt := 167) hx hb dX13_people_162 rfl ?_
                                  refine lv_istore (lv' := [(5, .int (gI M5 b61 (ix y5_6))), (4, .int z23), (7, .int z23), (0, .ref (ad y5_0)), (1, .int y5_1), (2, .int y5_2), (3, .int y5_3), (6, .int y5_6)]) hx hb dX13_people_167 hl (by decide) rfl (fun ls hl => ?_)
                                  refine lv_iinc (v := y5_6 + 1) (lv' := [(6, .int (y5_6 + 1)), (5, .int (gI M5 b61 (ix y5_6))), (4, .int z23), (7, .int z23), (0, .ref (ad y5_0)), (1, .int y5_1), (2, .int y5_2), (3, .int y5_3)]) hx hb dX13_people_169 hl (k := 7) rfl rfl (by decide) rfl (fun ls hl => ?_)
                                  refine lv_goto (tgt := 45) hx hb dX13_people_172 rfl ?_
                                  exact ih5 M5 y5_0 y5_1 y5_2 y5_3 z23 (gI M5 b61 (ix y5_6)) (y5_6 + 1) ky5_0 _ _ h hP hD hT hS ls (lv_sub hl [4, 5, 6, 7, 2, 1, 0] rfl)
                · replace h := ite_f c16 h
                  refine lv_goto (tgt := 169) hx hb dX13_people_71 rfl ?_
                  refine lv_iinc (v := y5_6 + 1) (lv' := [(6, .int (y5_6 + 1)), (0, .ref (ad y5_0)), (1, .int y5_1), (2, .int y5_2), (3, .int y5_3), (4, .int y5_4), (5, .int y5_5)]) hx hb dX13_people_169 hl (k := 6) rfl rfl (by decide) rfl (fun ls hl => ?_)
                  refine lv_goto (tgt := 45) hx hb dX13_people_172 rfl ?_
                  exact ih5 M5 y5_0 y5_1 y5_2 y5_3 y5_4 y5_5 (y5_6 + 1) ky5_0 _ _ h hP hD hT hS ls (lv_sub hl [1, 2, 3, 4, 5, 6, 0] rfl)
      exact L5 FU (pI M a0 0 0) a0 x1 x2 x3 (-1) 0 0 k0 _ _ h hP hD hT hS ls (lv_sub hl [3, 4, 5, 6, 2, 1, 0] rfl)
    · replace h := ite_t c4 h
      refine lv_aload_n hx hb dX13_people_30 rfl (lv_at hl 0 rfl) ?_
      refine lv_iconst (v := 2) hx hb dX13_people_31 rfl ?_
      obtain ⟨z63, h63, h⟩ := ob_some h
      refine k_i (va_runV (As := [.int 2]) (rest := []) ⟨hx, hb, hml, hown, hts⟩ (c_X13_refused (l := l) (pI M a0 0 0) a0 2 k0 h63) (cwV 1 hts gX13_people_X13_refused rfl rfl rfl hdV_X13_refused ⟨Nat.le_of_ble_eq_true rfl, Nat.le_of_ble_eq_true rfl⟩) (pV (T := TX13) hP hK hD hT hG hS k0 (by decide) rfl) rfl rfl hl.1 rfl (lv_room (Nat.le_of_ble_eq_true rfl)) dX13_people_32 ⟨Nat.zero_le _, Nat.zero_le _⟩) hS (fun H locs hP hD hT hS => ?_)
      have hZ := Option.some.inj h
      exact r_iret hx hb hr hlocks hP hK hD hT hG hS (congrArg Prod.fst hZ) (congrArg Prod.snd hZ) dX13_people_35
  · replace h := ite_t c2 h
    refine lv_aload_n hx hb dX13_people_13 rfl (lv_at hl 0 rfl) ?_
    refine lv_iconst (v := 1) hx hb dX13_people_14 rfl ?_
    obtain ⟨z64, h64, h⟩ := ob_some h
    refine k_i (va_runV (As := [.int 1]) (rest := []) ⟨hx, hb, hml, hown, hts⟩ (c_X13_refused (l := l) (pI M a0 0 0) a0 1 k0 h64) (cwV 1 hts gX13_people_X13_refused rfl rfl rfl hdV_X13_refused ⟨Nat.le_of_ble_eq_true rfl, Nat.le_of_ble_eq_true rfl⟩) (pV (T := TX13) hP hK hD hT hG hS k0 (by decide) rfl) rfl rfl hl.1 rfl (lv_room (Nat.le_of_ble_eq_true rfl)) dX13_people_15 ⟨Nat.zero_le _, Nat.zero_le _⟩) hS (fun H locs hP hD hT hS => ?_)
    have hZ := Option.some.inj h
    exact r_iret hx hb hr hlocks hP hK hD hT hG hS (congrArg Prod.fst hZ) (congrArg Prod.snd hZ) dX13_people_18
set_option maxHeartbeats 4000000 in
set_option maxRecDepth 100000 in
theorem c_X13_takes {l : Launch} {D : va_G} {ad : Nat → Nat} {cy : Nat → ClassId} {A : Nat → Prop} {g : CG} {q : SE} (M : MM) (a0 : Nat) (x1 : Int32) (x2 : Int32) (x3 : Int32) (k0 : ok g a0 13 0) {Z : (Int32 × MM)} (h : f_X13_takes M a0 x1 x2 x3 = some Z) : Met l yX13_takes wsX13_takes ({ frames := 1, cells := 0, slots := 0, locals := 22 }) (va_Pc [.ref (ad a0), .int x1, .int x2, .int x3] (Wd D ad cy A g q M)) (va_Qi (fun r u => r = Z.1 ∧ u = Z.2) (Wd D ad cy A g q) A) 0 0 A := by
  refine Met.ofW (cc := cX13_takes) (maxL := 7) (ret := (some .int)) (by decide) rfl ?_
  intro p e s m args below meth c s₁ B hml hv
  obtain ⟨rfl, hP, hK, hD, hT, hG⟩ := hv
  have hx := B.exec
  have hb := B.bytes
  have hr := B.returns
  have hts := atoms_spec (ws := wsX13_takes) B.pre
  have hown : s.vm.findClass RX13 = some m.cls := findClass_of_methodNamed B.named
  have hlocks := B.notSynchronized
  have in12 : ∀ w ∈ u_ws RX12 TX12 48, w ∈ wsX13_takes := fun w h => List.mem_cons_of_mem _ (List.mem_append_right _ h)
  have in13 : ∀ w ∈ u_ws RX13 TX13 29, w ∈ wsX13_takes := fun w h => List.mem_cons_of_mem _ (List.mem_append_left _ (List.mem_append_right _ h))
  have hS : va_S A s.heap s.heap [] := va_S.rf
  have hl := lv_entry ([.ref (ad a0), .int x1, .int x2, .int x3]) (n := 7) (Nat.le_of_ble_eq_true rfl)
  rw [lg_entry_eq]
  generalize (lg_sl ([.ref (ad a0), .int x1, .int x2, .int x3]) ++ List.replicate (7 - (lg_sl ([.ref (ad a0), .int x1, .int x2, .int x3])).length) Slot.unset).toArray = ls at hl ⊢
  have hl : lv_has ls 7 [(0, .ref (ad a0)), (1, .int x1), (2, .int x2), (3, .int x3)] := hl
  unfold f_X13_takes at h
  refine lv_aload_n hx hb dX13_takes_0 rfl (lv_at hl 0 rfl) ?_
  refine lv_iconst (v := 0) hx hb dX13_takes_1 rfl ?_
  refine r_putI (T := TX13) (ty := .int) (v := 0) hx hb hts in13 tyX13 tyX13_ok nmX13 hown hK hP hD hT hS k0 (by decide) rfl 0 (by decide) (hts (.fieldLink RX13 30 "StoneWalkModel" "thrown" "I") (List.mem_of_getElem? (i := 1) (by decide +kernel))) rfl rfl (tyX13_ok 0 (by decide)) rfl rfl rfl dX13_takes_2 (fun H locs hP hD hT hS => ?_)
  refine lv_aload_n hx hb dX13_takes_5 rfl (lv_at hl 0 rfl) ?_
  refine lv_iload_n hx hb dX13_takes_6 rfl (lv_at hl 1 rfl) ?_
  obtain ⟨z1, h1, h⟩ := ob_some h
  refine k_z (va_runV (As := [.int x1]) (rest := []) ⟨hx, hb, hml, hown, hts⟩ (c_X13_isWay (l := l) (pI M a0 0 0) a0 x1 k0 h1) (cwV 1 hts gX13_takes_X13_isWay rfl rfl rfl hdV_X13_isWay ⟨Nat.le_of_ble_eq_true rfl, Nat.le_of_ble_eq_true rfl⟩) (pV (T := TX13) hP hK hD hT hG hS k0 (by decide) rfl) rfl rfl hl.1 rfl (lv_room (Nat.le_of_ble_eq_true rfl)) dX13_takes_7 ⟨Nat.zero_le _, Nat.zero_le _⟩) hS (fun H locs hz1 hP hD hT hS => ?_)
  refine lv_if_ne (tgt := 19) hx hb dX13_takes_10 rfl (fun c2 => ?_) (fun c2 => ?_)
  · replace h := ite_f c2 h
    refine lv_iload_n hx hb dX13_takes_19 rfl (lv_at hl 2 rfl) ?_
    refine lv_iconst (v := 1) hx hb dX13_takes_20 rfl ?_
    refine lv_sipush (v := 9999) hx hb dX13_takes_21 rfl ?_
    obtain ⟨z3, h3, h⟩ := ob_some h
    refine k_z (va_runS (As := [.int x2, .int 1, .int 9999]) (rest := []) ⟨hx, hb, hml, hown, hts⟩ (c_X13_in (l := l) (pI M a0 0 0) x2 1 9999 h3) (va_cwS 3 hts gX13_takes_X13_in rfl rfl rfl hdS_X13_in ⟨Nat.le_of_ble_eq_true rfl, Nat.le_of_ble_eq_true rfl⟩) (pS hP hK hD hT hG hS) rfl rfl hl.1 rfl (lv_room (Nat.le_of_ble_eq_true rfl)) dX13_takes_24 ⟨Nat.zero_le _, Nat.zero_le _⟩) hS (fun H locs hz3 hP hD hT hS => ?_)
    refine lv_if_ne (tgt := 36) hx hb dX13_takes_27 rfl (fun c4 => ?_) (fun c4 => ?_)
    · replace h := ite_f c4 h
      refine lv_iconst (v := (-1)) hx hb dX13_takes_36 rfl ?_
      refine lv_istore (lv' := [(4, .int (-1)), (0, .ref (ad a0)), (1, .int x1), (2, .int x2), (3, .int x3)]) hx hb dX13_takes_37 hl (by decide) rfl (fun ls hl => ?_)
      refine lv_iconst (v := 0) hx hb dX13_takes_39 rfl ?_
      refine lv_istore (lv' := [(5, .int 0), (4, .int (-1)), (0, .ref (ad a0)), (1, .int x1), (2, .int x2), (3, .int x3)]) hx hb dX13_takes_40 hl (by decide) rfl (fun ls hl => ?_)
      have L5 : ∀ n5 : Nat, ∀ (M5 : MM) (y5_0 : Nat) (y5_1 : Int32) (y5_2 : Int32) (y5_3 : Int32) (y5_4 : Int32) (y5_5 : Int32) (ky5_0 : ok g y5_0 13 0) (H : Heap) (locs : List Loc), f_X13_takes_L42 n5 M5 y5_0 y5_1 y5_2 y5_3 y5_4 y5_5 = some Z → va_P D vwCl (wd ad cy g M5) H → va_D A (wd ad cy g M5) → WT g M5 → va_S A s.heap H locs → ∀ (ls : Array Slot), lv_has ls 7 [(0, .ref (ad y5_0)), (1, .int y5_1), (2, .int y5_2), (3, .int y5_3), (4, .int y5_4), (5, .int y5_5)] → W p l e ((headSpec wsX13_takes ({ frames := 1, cells := 0, slots := 0, locals := 22 })).room) s m (([.ref (ad a0), .int x1, .int x2, .int x3] : List Value).toArray) below meth c H locs 0 0 (MQ below (va_Qi (fun r u => r = Z.1 ∧ u = Z.2) (Wd D ad cy A g q) A) ([.ref (ad a0), .int x1, .int x2, .int x3]).toArray s 0 0 A) (F0 m 42 ls []) := by
        intro n5
        induction n5 with
        | zero => intro M5 y5_0 y5_1 y5_2 y5_3 y5_4 y5_5 ky5_0 H locs h; exact absurd h (by simp [f_X13_takes_L42])
        | succ n5 ih5 =>
          intro M5 y5_0 y5_1 y5_2 y5_3 y5_4 y5_5 ky5_0 H locs h hP hD hT hS ls hl
          rw [f_X13_takes_L42] at h
          refine lv_iload hx hb dX13_takes_42 (lv_at hl 5 rfl) ?_
          refine lv_aload_n hx hb dX13_takes_44 rfl (lv_at hl 0 rfl) ?_
          rcases hN6 : gR M5 y5_0 3 with _ | b6
          · replace h := oc_n hN6 h
            refine r_get (T := TX13) (v := .null) hx hb hts in13 hown hK hP ky5_0 (by decide) rfl 3 (by decide) (hts (.fieldLink RX13 431 "StoneWalkModel" "island" "LStoneWalkModel$Island;") (List.mem_of_getElem? (i := 2) (by decide +kernel))) rfl (t := 2) rfl (by show va_rf _ = _; rw [hN6]; rfl) dX13_takes_45 ?_
            exact absurd h (by simp)
          · replace h := oc_s hN6 h
            have kb6 := hT.f ky5_0 (k := 3) (t := 12) (n := 0) rfl hN6
            refine r_get (T := TX13) (v := .ref (ad b6)) hx hb hts in13 hown hK hP ky5_0 (by decide) rfl 3 (by decide) (hts (.fieldLink RX13 431 "StoneWalkModel" "island" "LStoneWalkModel$Island;") (List.mem_of_getElem? (i := 2) (by decide +kernel))) rfl (t := 2) rfl (by show va_rf _ = _; rw [hN6]; rfl) dX13_takes_45 ?_
            refine r_getN (T := TX12) (v := .int (gI M5 b6 4)) hx hb hts in12 hown hK hP kb6 (by decide) rfl 4 (by decide) (hG.2.2.1 _ (List.mem_of_getElem? (i := 22) rfl)) rfl (t := 0) rfl rfl dX13_takes_48 ?_
            refine lv_icmp_ge (tgt := 140) hx hb dX13_takes_51 rfl (fun c7 => ?_) (fun c7 => ?_)
            · replace h := ite_t c7 h
              refine lv_iload hx hb dX13_takes_140 (lv_at hl 4 rfl) ?_
              refine lv_iconst (v := (-1)) hx hb dX13_takes_142 rfl ?_
              refine lv_icmp_ne (tgt := 155) hx hb dX13_takes_143 rfl (fun c8 => ?_) (fun c8 => ?_)
              · replace h := ite_f c8 h
                refine lv_aload_n hx hb dX13_takes_155 rfl (lv_at hl 0 rfl) ?_
                refine lv_iload hx hb dX13_takes_156 (lv_at hl 4 rfl) ?_
                obtain ⟨z9, h9, h⟩ := ob_some h
                refine k_i (va_runV (As := [.int y5_4]) (rest := []) ⟨hx, hb, hml, hown, hts⟩ (c_X13_done (l := l) M5 y5_0 y5_4 ky5_0 h9) (cwV 1 hts gX13_takes_X13_done rfl rfl rfl hdV_X13_done ⟨Nat.le_of_ble_eq_true rfl, Nat.le_of_ble_eq_true rfl⟩) (pV (T := TX13) hP hK hD hT hG hS ky5_0 (by decide) rfl) rfl rfl hl.1 rfl (lv_room (Nat.le_of_ble_eq_true rfl)) dX13_takes_158 ⟨Nat.zero_le _, Nat.zero_le _⟩) hS (fun H locs hP hD hT hS => ?_)
                have hZ := Option.some.inj h
                exact r_iret hx hb hr hlocks hP hK hD hT hG hS (congrArg Prod.fst hZ) (congrArg Prod.snd hZ) dX13_takes_161
              · replace h := ite_t c8 h
                refine lv_aload_n hx hb dX13_takes_146 rfl (lv_at hl 0 rfl) ?_
                refine lv_bipush (v := 6) hx hb dX13_takes_147 rfl ?_
                obtain ⟨z10, h10, h⟩ := ob_some h
                refine k_i (va_runV (As := [.int 6]) (rest := []) ⟨hx, hb, hml, hown, hts⟩ (c_X13_refused (l := l) M5 y5_0 6 ky5_0 h10) (cwV 1 hts gX13_takes_X13_refused rfl rfl rfl hdV_X13_refused ⟨Nat.le_of_ble_eq_true rfl, Nat.le_of_ble_eq_true rfl⟩) (pV (T := TX13) hP hK hD hT hG hS ky5_0 (by decide) rfl) rfl rfl hl.1 rfl (lv_room (Nat.le_of_ble_eq_true rfl)) dX13_takes_149 ⟨Nat.zero_le _, Nat.zero_le _⟩) hS (fun H locs hP hD hT hS => ?_)
                refine lv_goto (tgt := 161) hx hb dX13_takes_152 rfl ?_
                have hZ := Option.some.inj h
                exact r_iret hx hb hr hlocks hP hK hD hT hG hS (congrArg Prod.fst hZ) (congrArg Prod.snd hZ) dX13_takes_161
            · replace h := ite_f c7 h
              refine lv_aload_n hx hb dX13_takes_54 rfl (lv_at hl 0 rfl) ?_
              rcases hN11 : gR M5 y5_0 3 with _ | b11
              · replace h := oc_n hN11 h
                refine r_get (T := TX13) (v := .null) hx hb hts in13 hown hK hP ky5_0 (by decide) rfl 3 (by decide) (hts (.fieldLink RX13 431 "StoneWalkModel" "island" "LStoneWalkModel$Island;") (List.mem_of_getElem? (i := 2) (by decide +kernel))) rfl (t := 2) rfl (by show va_rf _ = _; rw [hN11]; rfl) dX13_takes_55 ?_
                exact absurd h (by simp)
              · replace h := oc_s hN11 h
                have kb11 := hT.f ky5_0 (k := 3) (t := 12) (n := 0) rfl hN11
                refine r_get (T := TX13) (v := .ref (ad b11)) hx hb hts in13 hown hK hP ky5_0 (by decide) rfl 3 (by decide) (hts (.fieldLink RX13 431 "StoneWalkModel" "island" "LStoneWalkModel$Island;") (List.mem_of_getElem? (i := 2) (by decide +kernel))) rfl (t := 2) rfl (by show va_rf _ = _; rw [hN11]; rfl) dX13_takes_55 ?_
                rcases hN12 : gR M5 b11 22 with _ | b12
                · exact absurd (oc_n hN12 h) (by simp)
                replace h := oc_s hN12 h
                have kb12 := hT.f kb11 (k := 22) (t := 15) (n := 5) rfl hN12
                refine r_getN (T := TX12) (v := .ref (ad b12)) hx hb hts in12 hown hK hP kb11 (by decide) rfl 22 (by decide) (hG.2.2.1 _ (List.mem_of_getElem? (i := 23) rfl)) rfl (t := 2) rfl (by show va_rf _ = _; rw [hN12]; rfl) dX13_takes_58 ?_
                refine lv_iload hx hb dX13_takes_61 (lv_at hl 5 rfl) ?_
                obtain ⟨hn13, h⟩ := chk_some h
                refine r_iald hx hb hK hP kb12 hn13 dX13_takes_63 ?_
                refine lv_iload_n hx hb dX13_takes_64 rfl (lv_at hl 1 rfl) ?_
                refine lv_icmp_eq (tgt := 71) hx hb dX13_takes_65 rfl (fun c14 => ?_) (fun c14 => ?_)
                · replace h := ite_t c14 h
                  refine lv_iload_n hx hb dX13_takes_71 rfl (lv_at hl 2 rfl) ?_
                  refine lv_aload_n hx hb dX13_takes_72 rfl (lv_at hl 0 rfl) ?_
                  rcases hN15 : gR M5 y5_0 3 with _ | b15
                  · replace h := oc_n hN15 h
                    refine r_get (T := TX13) (v := .null) hx hb hts in13 hown hK hP ky5_0 (by decide) rfl 3 (by decide) (hts (.fieldLink RX13 431 "StoneWalkModel" "island" "LStoneWalkModel$Island;") (List.mem_of_getElem? (i := 2) (by decide +kernel))) rfl (t := 2) rfl (by show va_rf _ = _; rw [hN15]; rfl) dX13_takes_73 ?_
                    exact absurd h (by simp)
                  · replace h := oc_s hN15 h
                    have kb15 := hT.f ky5_0 (k := 3) (t := 12) (n := 0) rfl hN15
                    refine r_get (T := TX13) (v := .ref (ad b15)) hx hb hts in13 hown hK hP ky5_0 (by decide) rfl 3 (by decide) (hts (.fieldLink RX13 431 "StoneWalkModel" "island" "LStoneWalkModel$Island;") (List.mem_of_getElem? (i := 2) (by decide +kernel))) rfl (t := 2) rfl (by show va_rf _ = _; rw [hN15]; rfl) dX13_takes_73 ?_
                    rcases hN16 : gR M5 b15 26 with _ | b16
                    · exact absurd (oc_n hN16 h) (by simp)
                    replace h := oc_s hN16 h
                    have kb16 := hT.f kb15 (k := 26) (t := 15) (n := 5) rfl hN16
                    refine r_getN (T := TX12) (v := .ref (ad b16)) hx hb hts in12 hown hK hP kb15 (by decide) rfl 26 (by decide) (hG.2.2.1 _ (List.mem_of_getElem? (i := 27) rfl)) rfl (t := 2) rfl (by show va_rf _ = _; rw [hN16]; rfl) dX13_takes_76 ?_
                    refine lv_iload hx hb dX13_takes_79 (lv_at hl 5 rfl) ?_
                    obtain ⟨hn17, h⟩ := chk_some h
                    refine r_iald hx hb hK hP kb16 hn17 dX13_takes_81 ?_
                    refine lv_imul hx hb dX13_takes_82 ?_
                    refine lv_aload_n hx hb dX13_takes_83 rfl (lv_at hl 0 rfl) ?_
                    rcases hN18 : gR M5 y5_0 3 with _ | b18
                    · replace h := oc_n hN18 h
                      refine r_get (T := TX13) (v := .null) hx hb hts in13 hown hK hP ky5_0 (by decide) rfl 3 (by decide) (hts (.fieldLink RX13 431 "StoneWalkModel" "island" "LStoneWalkModel$Island;") (List.mem_of_getElem? (i := 2) (by decide +kernel))) rfl (t := 2) rfl (by show va_rf _ = _; rw [hN18]; rfl) dX13_takes_84 ?_
                      exact absurd h (by simp)
                    · replace h := oc_s hN18 h
                      have kb18 := hT.f ky5_0 (k := 3) (t := 12) (n := 0) rfl hN18
                      refine r_get (T := TX13) (v := .ref (ad b18)) hx hb hts in13 hown hK hP ky5_0 (by decide) rfl 3 (by decide) (hts (.fieldLink RX13 431 "StoneWalkModel" "island" "LStoneWalkModel$Island;") (List.mem_of_getElem? (i := 2) (by decide +kernel))) rfl (t := 2) rfl (by show va_rf _ = _; rw [hN18]; rfl) dX13_takes_84 ?_
                      rcases hN19 : gR M5 b18 25 with _ | b19
                      · exact absurd (oc_n hN19 h) (by simp)
                      replace h := oc_s hN19 h
                      have kb19 := hT.f kb18 (k := 25) (t := 15) (n := 5) rfl hN19
                      refine r_getN (T := TX12) (v := .ref (ad b19)) hx hb hts in12 hown hK hP kb18 (by decide) rfl 25 (by decide) (hG.2.2.1 _ (List.mem_of_getElem? (i := 26) rfl)) rfl (t := 2) rfl (by show va_rf _ = _; rw [hN19]; rfl) dX13_takes_87 ?_
                      refine lv_iload hx hb dX13_takes_90 (lv_at hl 5 rfl) ?_
                      obtain ⟨hn20, h⟩ := chk_some h
                      refine r_iald hx hb hK hP kb19 hn20 dX13_takes_92 ?_
                      obtain ⟨z21, h21, h⟩ := ob_some h
                      refine k_i (va_runS (As := [.int (y5_2 * (gI M5 b16 (ix y5_5))), .int (gI M5 b19 (ix y5_5))]) (rest := []) ⟨hx, hb, hml, hown, hts⟩ (c_X13_up (l := l) M5 (y5_2 * (gI M5 b16 (ix y5_5))) (gI M5 b19 (ix y5_5)) h21) (va_cwS 2 hts gX13_takes_X13_up rfl rfl rfl hdS_X13_up ⟨Nat.le_of_ble_eq_true rfl, Nat.le_of_ble_eq_true rfl⟩) (pS hP hK hD hT hG hS) rfl rfl hl.1 rfl (lv_room (Nat.le_of_ble_eq_true rfl)) dX13_takes_93 ⟨Nat.zero_le _, Nat.zero_le _⟩) hS (fun H locs hP hD hT hS => ?_)
                      refine lv_istore (lv' := [(6, .int z21), (0, .ref (ad y5_0)), (1, .int y5_1), (2, .int y5_2), (3, .int y5_3), (4, .int y5_4), (5, .int y5_5)]) hx hb dX13_takes_96 hl (by decide) rfl (fun ls hl => ?_)
                      refine lv_iload hx hb dX13_takes_98 (lv_at hl 5 rfl) ?_
                      refine lv_iconst (v := (-1)) hx hb dX13_takes_100 rfl ?_
                      refine lv_icmp_eq (tgt := 125) hx hb dX13_takes_101 rfl (fun c22 => ?_) (fun c22 => ?_)
                      · replace h := ite_t c22 h
                        refine lv_iload hx hb dX13_takes_125 (lv_at hl 0 rfl) ?_
                        refine lv_goto (tgt := 132) hx hb dX13_takes_127 rfl ?_
                        refine lv_istore (lv' := [(4, .int z21), (6, .int z21), (0, .ref (ad y5_0)), (1, .int y5_1), (2, .int y5_2), (3, .int y5_3), (5, .int y5_5)]) hx hb dX13_takes_132 hl (by decide) rfl (fun ls hl => ?_)
                        refine lv_iinc (v := y5_5 + 1) (lv' := [(5, .int (y5_5 + 1)), (4, .int z21), (6, .int z21), (0, .ref (ad y5_0)), (1, .int y5_1), (2, .int y5_2), (3, .int y5_3)]) hx hb dX13_takes_134 hl (k := 6) rfl rfl (by decide) rfl (fun ls hl => ?_)
                        refine lv_goto (tgt := 42) hx hb dX13_takes_137 rfl ?_
                        exact ih5 M5 y5_0 y5_1 y5_2 y5_3 z21 (y5_5 + 1) ky5_0 _ _ h hP hD hT hS ls (lv_sub hl [3, 4, 5, 6, 1, 0] rfl)
                      · replace h := ite_f c22 h
                        refine lv_iload_n hx hb dX13_takes_104 rfl (lv_at hl 4 rfl) ?_
                        refine lv_if_eq (tgt := 118) hx hb dX13_takes_105 rfl (fun c23 => ?_) (fun c23 => ?_)
                        · replace h := ite_t c23 h
                          refine lv_iload hx hb dX13_takes_118 (lv_at hl 0 rfl) ?_
                          refine lv_iload hx hb dX13_takes_120 (lv_at hl 5 rfl) ?_
                          refine lv_icmp_ge (tgt := 130) hx hb dX13_takes_122 rfl (fun c24 => ?_) (fun c24 => ?_)
                          · replace h := ite_t c24 h
                            refine lv_iload hx hb dX13_takes_130 (lv_at hl 5 rfl) ?_
                            refine lv_istore (lv' := [(4, .int y5_4), (6, .int z21), (0, .ref (ad y5_0)), (1, .int y5_1), (2, .int y5_2), (3, .int y5_3), (5, .int y5_5)]) hx hb dX13_takes_132 hl (by decide) rfl (fun ls hl => ?_)
                            refine lv_iinc (v := y5_5 + 1) (lv' := [(5, .int (y5_5 + 1)), (4, .int y5_4), (6, .int z21), (0, .ref (ad y5_0)), (1, .int y5_1), (2, .int y5_2), (3, .int y5_3)]) hx hb dX13_takes_134 hl (k := 6) rfl rfl (by decide) rfl (fun ls hl => ?_)
                            refine lv_goto (tgt := 42) hx hb dX13_takes_137 rfl ?_
                            exact ih5 M5 y5_0 y5_1 y5_2 y5_3 y5_4 (y5_5 + 1) ky5_0 _ _ h hP hD hT hS ls (lv_sub hl [3, 4, 5, 6, 1, 0] rfl)
                          · replace h := ite_f c24 h
                            refine lv_iload hx hb dX13_takes_125 (lv_at hl 0 rfl) ?_
                            refine lv_goto (tgt := 132) hx hb dX13_takes_127 rfl ?_
                            refine lv_istore (lv' := [(4, .int z21), (6, .int z21), (0, .ref (ad y5_0)), (1, .int y5_1), (2, .int y5_2), (3, .int y5_3), (5, .int y5_5)]) hx hb dX13_takes_132 hl (by decide) rfl (fun ls hl => ?_)
                            refine lv_iinc (v := y5_5 + 1) (lv' := [(5, .int (y5_5 + 1)), (4, .int z21), (6, .int z21), (0, .ref (ad y5_0)), (1, .int y5_1), (2, .int y5_2), (3, .int y5_3)]) hx hb dX13_takes_134 hl (k := 6) rfl rfl (by decide) rfl (fun ls hl => ?_)
                            refine lv_goto (tgt := 42) hx hb dX13_takes_137 rfl ?_
                            exact ih5 M5 y5_0 y5_1 y5_2 y5_3 z21 (y5_5 + 1) ky5_0 _ _ h hP hD hT hS ls (lv_sub hl [3, 4, 5, 6, 1, 0] rfl)
                        · replace h := ite_f c23 h
                          refine lv_iload hx hb dX13_takes_108 (lv_at hl 0 rfl) ?_
                          refine lv_iload hx hb dX13_takes_110 (lv_at hl 5 rfl) ?_
                          refine lv_icmp_le (tgt := 130) hx hb dX13_takes_112 rfl (fun c25 => ?_) (fun c25 => ?_)
                          · replace h := ite_t c25 h
                            refine lv_iload hx hb dX13_takes_130 (lv_at hl 5 rfl) ?_
                            refine lv_istore (lv' := [(4, .int y5_4), (6, .int z21), (0, .ref (ad y5_0)), (1, .int y5_1), (2, .int y5_2), (3, .int y5_3), (5, .int y5_5)]) hx hb dX13_takes_132 hl (by decide) rfl (fun ls hl => ?_)
                            refine lv_iinc (v := y5_5 + 1) (lv' := [(5, .int (y5_5 + 1)), (4, .int y5_4), (6, .int z21), (0, .ref (ad y5_0)), (1, .int y5_1), (2, .int y5_2), (3, .int y5_3)]) hx hb dX13_takes_134 hl (k := 6) rfl rfl (by decide) rfl (fun ls hl => ?_)
                            refine lv_goto (tgt := 42) hx hb dX13_takes_137 rfl ?_
                            exact ih5 M5 y5_0 y5_1 y5_2 y5_3 y5_4 (y5_5 + 1) ky5_0 _ _ h hP hD hT hS ls (lv_sub hl [3, 4, 5, 6, 1, 0] rfl)
                          · replace h := ite_f c25 h
                            refine lv_goto (tgt := 125) hx hb dX13_takes_115 rfl ?_
                            refine lv_iload hx hb dX13_takes_125 (lv_at hl 0 rfl) ?_
                            refine lv_goto (tgt := 132) hx hb dX13_takes_127 rfl ?_
                            refine lv_istore (lv' := [(4, .int z21), (6, .int z21), (0, .ref (ad y5_0)), (1, .int y5_1), (2, .int y5_2), (3, .int y5_3), (5, .int y5_5)]) hx hb dX13_takes_132 hl (by decide) rfl (fun ls hl => ?_)
                            refine lv_iinc (v := y5_5 + 1) (lv' := [(5, .int (y5_5 + 1)), (4, .int z21), (6, .int z21), (0, .ref (ad y5_0)), (1, .int y5_1), (2, .int y5_2), (3, .int y5_3)]) hx hb dX13_takes_134 hl (k := 6) rfl rfl (by decide) rfl (fun ls hl => ?_)
                            refine lv_goto (tgt := 42) hx hb dX13_takes_137 rfl ?_
                            exact ih5 M5 y5_0 y5_1 y5_2 y5_3 z21 (y5_5 + 1) ky5_0 _ _ h hP hD hT hS ls (lv_sub hl [3, 4, 5, 6, 1, 0] rfl)
                · replace h := ite_f c14 h
                  refine lv_goto (tgt := 134) hx hb dX13_takes_68 rfl ?_
                  refine lv_iinc (v := y5_5 + 1) (lv' := [(5, .int (y5_5 + 1)), (0, .ref (ad y5_0)), (1, .int y5_1), (2, .int y5_2), (3, .int y5_3), (4, .int y5_4)]) hx hb dX13_takes_134 hl (k := 5) rfl rfl (by decide) rfl (fun ls hl => ?_)
                  refine lv_goto (tgt := 42) hx hb dX13_takes_137 rfl ?_
                  exact ih5 M5 y5_0 y5_1 y5_2 y5_3 y5_4 (y5_5 + 1) ky5_0 _ _ h hP hD hT hS ls (lv_sub hl [1, 2, 3, 4, 5, 0] rfl)
      exact L5 FU (pI M a0 0 0) a0 x1 x2 x3 (-1) 0 k0 _ _ h hP hD hT hS ls (lv_sub hl [2, 3, 4, 5, 1, 0] rfl)
    · replace h := ite_t c4 h
      refine lv_aload_n hx hb dX13_takes_30 rfl (lv_at hl 0 rfl) ?_
      refine lv_iconst (v := 2) hx hb dX13_takes_31 rfl ?_
      obtain ⟨z26, h26, h⟩ := ob_some h
      refine k_i (va_runV (As := [.int 2]) (rest := []) ⟨hx, hb, hml, hown, hts⟩ (c_X13_refused (l := l) (pI M a0 0 0) a0 2 k0 h26) (cwV 1 hts gX13_takes_X13_refused rfl rfl rfl hdV_X13_refused ⟨Nat.le_of_ble_eq_true rfl, Nat.le_of_ble_eq_true rfl⟩) (pV (T := TX13) hP hK hD hT hG hS k0 (by decide) rfl) rfl rfl hl.1 rfl (lv_room (Nat.le_of_ble_eq_true rfl)) dX13_takes_32 ⟨Nat.zero_le _, Nat.zero_le _⟩) hS (fun H locs hP hD hT hS => ?_)
      have hZ := Option.some.inj h
      exact r_iret hx hb hr hlocks hP hK hD hT hG hS (congrArg Prod.fst hZ) (congrArg Prod.snd hZ) dX13_takes_35
  · replace h := ite_t c2 h
    refine lv_aload_n hx hb dX13_takes_13 rfl (lv_at hl 0 rfl) ?_
    refine lv_iconst (v := 1) hx hb dX13_takes_14 rfl ?_
    obtain ⟨z27, h27, h⟩ := ob_some h
    refine k_i (va_runV (As := [.int 1]) (rest := []) ⟨hx, hb, hml, hown, hts⟩ (c_X13_refused (l := l) (pI M a0 0 0) a0 1 k0 h27) (cwV 1 hts gX13_takes_X13_refused rfl rfl rfl hdV_X13_refused ⟨Nat.le_of_ble_eq_true rfl, Nat.le_of_ble_eq_true rfl⟩) (pV (T := TX13) hP hK hD hT hG hS k0 (by decide) rfl) rfl rfl hl.1 rfl (lv_room (Nat.le_of_ble_eq_true rfl)) dX13_takes_15 ⟨Nat.zero_le _, Nat.zero_le _⟩) hS (fun H locs hP hD hT hS => ?_)
    have hZ := Option.some.inj h
    exact r_iret hx hb hr hlocks hP hK hD hT hG hS (congrArg Prod.fst hZ) (congrArg Prod.snd hZ) dX13_takes_18
set_option maxHeartbeats 4000000 in
set_option maxRecDepth 100000 in
theorem c_X13_off {l : Launch} {D : va_G} {ad : Nat → Nat} {cy : Nat → ClassId} {A : Nat → Prop} {g : CG} {q : SE} (M : MM) (a0 : Nat) (x1 : Int32) (k0 : ok g a0 13 0) {Z : (Int32 × MM)} (h : f_X13_off M a0 x1 = some Z) : Met l yX13_off wsX13_off ({ frames := 2, cells := 0, slots := 0, locals := 46 }) (va_Pc [.ref (ad a0), .int x1] (Wd D ad cy A g q M)) (va_Qi (fun r u => r = Z.1 ∧ u = Z.2) (Wd D ad cy A g q) A) 0 0 A := by
  refine Met.ofW (cc := cX13_off) (maxL := 2) (ret := (some .int)) (by decide) rfl ?_
  intro p e s m args below meth c s₁ B hml hv
  obtain ⟨rfl, hP, hK, hD, hT, hG⟩ := hv
  have hx := B.exec
  have hb := B.bytes
  have hr := B.returns
  have hts := atoms_spec (ws := wsX13_off) B.pre
  have hown : s.vm.findClass RX13 = some m.cls := findClass_of_methodNamed B.named
  have hlocks := B.notSynchronized
  have in12 : ∀ w ∈ u_ws RX12 TX12 48, w ∈ wsX13_off := fun w h => List.mem_cons_of_mem _ (List.mem_append_right _ h)
  have in13 : ∀ w ∈ u_ws RX13 TX13 29, w ∈ wsX13_off := fun w h => List.mem_cons_of_mem _ (List.mem_append_left _ (List.mem_append_right _ h))
  have hS : va_S A s.heap s.heap [] := va_S.rf
  have hl := lv_entry ([.ref (ad a0), .int x1]) (n := 2) (Nat.le_of_ble_eq_true rfl)
  rw [lg_entry_eq]
  generalize (lg_sl ([.ref (ad a0), .int x1]) ++ List.replicate (2 - (lg_sl ([.ref (ad a0), .int x1])).length) Slot.unset).toArray = ls at hl ⊢
  have hl : lv_has ls 2 [(0, .ref (ad a0)), (1, .int x1)] := hl
  unfold f_X13_off at h
  refine lv_aload_n hx hb dX13_off_0 rfl (lv_at hl 0 rfl) ?_
  refine lv_iconst (v := 0) hx hb dX13_off_1 rfl ?_
  refine r_putI (T := TX13) (ty := .int) (v := 0) hx hb hts in13 tyX13 tyX13_ok nmX13 hown hK hP hD hT hS k0 (by decide) rfl 0 (by decide) (hts (.fieldLink RX13 30 "StoneWalkModel" "thrown" "I") (List.mem_of_getElem? (i := 1) (by decide +kernel))) rfl rfl (tyX13_ok 0 (by decide)) rfl rfl rfl dX13_off_2 (fun H locs hP hD hT hS => ?_)
  refine lv_aload_n hx hb dX13_off_5 rfl (lv_at hl 0 rfl) ?_
  rcases hN1 : gR (pI M a0 0 0) a0 3 with _ | b1
  · replace h := oc_n hN1 h
    refine r_get (T := TX13) (v := .null) hx hb hts in13 hown hK hP k0 (by decide) rfl 3 (by decide) (hts (.fieldLink RX13 431 "StoneWalkModel" "island" "LStoneWalkModel$Island;") (List.mem_of_getElem? (i := 2) (by decide +kernel))) rfl (t := 2) rfl (by show va_rf _ = _; rw [hN1]; rfl) dX13_off_6 ?_
    refine lv_ifnullN (tgt := 27) hx hb dX13_off_9 rfl ?_
    refine lv_aload_n hx hb dX13_off_27 rfl (lv_at hl 0 rfl) ?_
    refine lv_iconst (v := 1) hx hb dX13_off_28 rfl ?_
    obtain ⟨z2, h2, h⟩ := ob_some h
    refine k_i (va_runV (As := [.int 1]) (rest := []) ⟨hx, hb, hml, hown, hts⟩ (c_X13_lost (l := l) (pI M a0 0 0) a0 1 k0 h2) (cwV 1 hts gX13_off_X13_lost rfl rfl rfl hdV_X13_lost ⟨Nat.le_of_ble_eq_true rfl, Nat.le_of_ble_eq_true rfl⟩) (pV (T := TX13) hP hK hD hT hG hS k0 (by decide) rfl) rfl rfl hl.1 rfl (lv_room (Nat.le_of_ble_eq_true rfl)) dX13_off_29 ⟨Nat.zero_le _, Nat.zero_le _⟩) hS (fun H locs hP hD hT hS => ?_)
    have hZ := Option.some.inj h
    exact r_iret hx hb hr hlocks hP hK hD hT hG hS (congrArg Prod.fst hZ) (congrArg Prod.snd hZ) dX13_off_32
  · replace h := oc_s hN1 h
    have kb1 := hT.f k0 (k := 3) (t := 12) (n := 0) rfl hN1
    refine r_get (T := TX13) (v := .ref (ad b1)) hx hb hts in13 hown hK hP k0 (by decide) rfl 3 (by decide) (hts (.fieldLink RX13 431 "StoneWalkModel" "island" "LStoneWalkModel$Island;") (List.mem_of_getElem? (i := 2) (by decide +kernel))) rfl (t := 2) rfl (by show va_rf _ = _; rw [hN1]; rfl) dX13_off_6 ?_
    refine lv_ifnull hx hb dX13_off_9 ?_
    refine lv_iload_n hx hb dX13_off_12 rfl (lv_at hl 1 rfl) ?_
    refine lv_if_lt (tgt := 27) hx hb dX13_off_13 rfl (fun c3 => ?_) (fun c3 => ?_)
    · replace h := ite_t c3 h
      refine lv_aload_n hx hb dX13_off_27 rfl (lv_at hl 0 rfl) ?_
      refine lv_iconst (v := 1) hx hb dX13_off_28 rfl ?_
      obtain ⟨z4, h4, h⟩ := ob_some h
      refine k_i (va_runV (As := [.int 1]) (rest := []) ⟨hx, hb, hml, hown, hts⟩ (c_X13_lost (l := l) (pI M a0 0 0) a0 1 k0 h4) (cwV 1 hts gX13_off_X13_lost rfl rfl rfl hdV_X13_lost ⟨Nat.le_of_ble_eq_true rfl, Nat.le_of_ble_eq_true rfl⟩) (pV (T := TX13) hP hK hD hT hG hS k0 (by decide) rfl) rfl rfl hl.1 rfl (lv_room (Nat.le_of_ble_eq_true rfl)) dX13_off_29 ⟨Nat.zero_le _, Nat.zero_le _⟩) hS (fun H locs hP hD hT hS => ?_)
      have hZ := Option.some.inj h
      exact r_iret hx hb hr hlocks hP hK hD hT hG hS (congrArg Prod.fst hZ) (congrArg Prod.snd hZ) dX13_off_32
    · replace h := ite_f c3 h
      refine lv_iload_n hx hb dX13_off_16 rfl (lv_at hl 1 rfl) ?_
      refine lv_aload_n hx hb dX13_off_17 rfl (lv_at hl 0 rfl) ?_
      rcases hN5 : gR (pI M a0 0 0) a0 3 with _ | b5
      · replace h := oc_n hN5 h
        refine r_get (T := TX13) (v := .null) hx hb hts in13 hown hK hP k0 (by decide) rfl 3 (by decide) (hts (.fieldLink RX13 431 "StoneWalkModel" "island" "LStoneWalkModel$Island;") (List.mem_of_getElem? (i := 2) (by decide +kernel))) rfl (t := 2) rfl (by show va_rf _ = _; rw [hN5]; rfl) dX13_off_18 ?_
        exact absurd h (by simp)
      · replace h := oc_s hN5 h
        have kb5 := hT.f k0 (k := 3) (t := 12) (n := 0) rfl hN5
        refine r_get (T := TX13) (v := .ref (ad b5)) hx hb hts in13 hown hK hP k0 (by decide) rfl 3 (by decide) (hts (.fieldLink RX13 431 "StoneWalkModel" "island" "LStoneWalkModel$Island;") (List.mem_of_getElem? (i := 2) (by decide +kernel))) rfl (t := 2) rfl (by show va_rf _ = _; rw [hN5]; rfl) dX13_off_18 ?_
        refine r_getN (T := TX12) (v := .int (gI (pI M a0 0 0) b5 4)) hx hb hts in12 hown hK hP kb5 (by decide) rfl 4 (by decide) (hG.2.2.1 _ (List.mem_of_getElem? (i := 22) rfl)) rfl (t := 0) rfl rfl dX13_off_21 ?_
        refine lv_icmp_lt (tgt := 33) hx hb dX13_off_24 rfl (fun c6 => ?_) (fun c6 => ?_)
        · replace h := ite_t c6 h
          refine lv_aload_n hx hb dX13_off_33 rfl (lv_at hl 0 rfl) ?_
          refine lv_aload_n hx hb dX13_off_34 rfl (lv_at hl 0 rfl) ?_
          refine lv_aload_n hx hb dX13_off_35 rfl (lv_at hl 0 rfl) ?_
          rcases hN7 : gR (pI M a0 0 0) a0 3 with _ | b7
          · replace h := oc_n hN7 h
            refine r_get (T := TX13) (v := .null) hx hb hts in13 hown hK hP k0 (by decide) rfl 3 (by decide) (hts (.fieldLink RX13 431 "StoneWalkModel" "island" "LStoneWalkModel$Island;") (List.mem_of_getElem? (i := 2) (by decide +kernel))) rfl (t := 2) rfl (by show va_rf _ = _; rw [hN7]; rfl) dX13_off_36 ?_
            exact absurd h (by simp)
          · replace h := oc_s hN7 h
            have kb7 := hT.f k0 (k := 3) (t := 12) (n := 0) rfl hN7
            refine r_get (T := TX13) (v := .ref (ad b7)) hx hb hts in13 hown hK hP k0 (by decide) rfl 3 (by decide) (hts (.fieldLink RX13 431 "StoneWalkModel" "island" "LStoneWalkModel$Island;") (List.mem_of_getElem? (i := 2) (by decide +kernel))) rfl (t := 2) rfl (by show va_rf _ = _; rw [hN7]; rfl) dX13_off_36 ?_
            rcases hN8 : gR (pI M a0 0 0) b7 22 with _ | b8
            · exact absurd (oc_n hN8 h) (by simp)
            replace h := oc_s hN8 h
            have kb8 := hT.f kb7 (k := 22) (t := 15) (n := 5) rfl hN8
            refine r_getN (T := TX12) (v := .ref (ad b8)) hx hb hts in12 hown hK hP kb7 (by decide) rfl 22 (by decide) (hG.2.2.1 _ (List.mem_of_getElem? (i := 23) rfl)) rfl (t := 2) rfl (by show va_rf _ = _; rw [hN8]; rfl) dX13_off_39 ?_
            refine lv_iload_n hx hb dX13_off_42 rfl (lv_at hl 1 rfl) ?_
            obtain ⟨hn9, h⟩ := chk_some h
            refine r_iald hx hb hK hP kb8 hn9 dX13_off_43 ?_
            refine lv_aload_n hx hb dX13_off_44 rfl (lv_at hl 0 rfl) ?_
            rcases hN10 : gR (pI M a0 0 0) a0 3 with _ | b10
            · replace h := oc_n hN10 h
              refine r_get (T := TX13) (v := .null) hx hb hts in13 hown hK hP k0 (by decide) rfl 3 (by decide) (hts (.fieldLink RX13 431 "StoneWalkModel" "island" "LStoneWalkModel$Island;") (List.mem_of_getElem? (i := 2) (by decide +kernel))) rfl (t := 2) rfl (by show va_rf _ = _; rw [hN10]; rfl) dX13_off_45 ?_
              exact absurd h (by simp)
            · replace h := oc_s hN10 h
              have kb10 := hT.f k0 (k := 3) (t := 12) (n := 0) rfl hN10
              refine r_get (T := TX13) (v := .ref (ad b10)) hx hb hts in13 hown hK hP k0 (by decide) rfl 3 (by decide) (hts (.fieldLink RX13 431 "StoneWalkModel" "island" "LStoneWalkModel$Island;") (List.mem_of_getElem? (i := 2) (by decide +kernel))) rfl (t := 2) rfl (by show va_rf _ = _; rw [hN10]; rfl) dX13_off_45 ?_
              rcases hN11 : gR (pI M a0 0 0) b10 23 with _ | b11
              · exact absurd (oc_n hN11 h) (by simp)
              replace h := oc_s hN11 h
              have kb11 := hT.f kb10 (k := 23) (t := 15) (n := 5) rfl hN11
              refine r_getN (T := TX12) (v := .ref (ad b11)) hx hb hts in12 hown hK hP kb10 (by decide) rfl 23 (by decide) (hG.2.2.1 _ (List.mem_of_getElem? (i := 24) rfl)) rfl (t := 2) rfl (by show va_rf _ = _; rw [hN11]; rfl) dX13_off_48 ?_
              refine lv_iload_n hx hb dX13_off_51 rfl (lv_at hl 1 rfl) ?_
              obtain ⟨hn12, h⟩ := chk_some h
              refine r_iald hx hb hK hP kb11 hn12 dX13_off_52 ?_
              refine lv_iconst (v := 0) hx hb dX13_off_53 rfl ?_
              obtain ⟨z13, h13, h⟩ := ob_some h
              refine k_i (va_runV (As := [.int (gI (pI M a0 0 0) b8 (ix x1)), .int (gI (pI M a0 0 0) b11 (ix x1)), .int 0]) (rest := [.ref (ad a0)]) ⟨hx, hb, hml, hown, hts⟩ (c_X13_needBy (l := l) (pI M a0 0 0) a0 (gI (pI M a0 0 0) b8 (ix x1)) (gI (pI M a0 0 0) b11 (ix x1)) 0 k0 h13) (cwV 3 hts gX13_off_X13_needBy rfl rfl rfl hdV_X13_needBy ⟨Nat.le_of_ble_eq_true rfl, Nat.le_of_ble_eq_true rfl⟩) (pV (T := TX13) hP hK hD hT hG hS k0 (by decide) rfl) rfl rfl hl.1 rfl (lv_room (Nat.le_of_ble_eq_true rfl)) dX13_off_54 ⟨Nat.zero_le _, Nat.zero_le _⟩) hS (fun H locs hP hD hT hS => ?_)
              refine lv_aload_n hx hb dX13_off_57 rfl (lv_at hl 0 rfl) ?_
              rcases hN14 : gR (pI M a0 0 0) a0 3 with _ | b14
              · replace h := oc_n hN14 h
                refine r_get (T := TX13) (v := .null) hx hb hts in13 hown hK hP k0 (by decide) rfl 3 (by decide) (hts (.fieldLink RX13 431 "StoneWalkModel" "island" "LStoneWalkModel$Island;") (List.mem_of_getElem? (i := 2) (by decide +kernel))) rfl (t := 2) rfl (by show va_rf _ = _; rw [hN14]; rfl) dX13_off_58 ?_
                exact absurd h (by simp)
              · replace h := oc_s hN14 h
                have kb14 := hT.f k0 (k := 3) (t := 12) (n := 0) rfl hN14
                refine r_get (T := TX13) (v := .ref (ad b14)) hx hb hts in13 hown hK hP k0 (by decide) rfl 3 (by decide) (hts (.fieldLink RX13 431 "StoneWalkModel" "island" "LStoneWalkModel$Island;") (List.mem_of_getElem? (i := 2) (by decide +kernel))) rfl (t := 2) rfl (by show va_rf _ = _; rw [hN14]; rfl) dX13_off_58 ?_
                rcases hN15 : gR (pI M a0 0 0) b14 24 with _ | b15
                · exact absurd (oc_n hN15 h) (by simp)
                replace h := oc_s hN15 h
                have kb15 := hT.f kb14 (k := 24) (t := 15) (n := 5) rfl hN15
                refine r_getN (T := TX12) (v := .ref (ad b15)) hx hb hts in12 hown hK hP kb14 (by decide) rfl 24 (by decide) (hG.2.2.1 _ (List.mem_of_getElem? (i := 25) rfl)) rfl (t := 2) rfl (by show va_rf _ = _; rw [hN15]; rfl) dX13_off_61 ?_
                refine lv_iload_n hx hb dX13_off_64 rfl (lv_at hl 1 rfl) ?_
                obtain ⟨hn16, h⟩ := chk_some h
                refine r_iald hx hb hK hP kb15 hn16 dX13_off_65 ?_
                refine lv_isub hx hb dX13_off_66 ?_
                obtain ⟨z17, h17, h⟩ := ob_some h
                refine k_i (va_runV (As := [.int (z13 - (gI (pI M a0 0 0) b15 (ix x1)))]) (rest := []) ⟨hx, hb, hml, hown, hts⟩ (c_X13_done (l := l) (pI M a0 0 0) a0 (z13 - (gI (pI M a0 0 0) b15 (ix x1))) k0 h17) (cwV 1 hts gX13_off_X13_done rfl rfl rfl hdV_X13_done ⟨Nat.le_of_ble_eq_true rfl, Nat.le_of_ble_eq_true rfl⟩) (pV (T := TX13) hP hK hD hT hG hS k0 (by decide) rfl) rfl rfl hl.1 rfl (lv_room (Nat.le_of_ble_eq_true rfl)) dX13_off_67 ⟨Nat.zero_le _, Nat.zero_le _⟩) hS (fun H locs hP hD hT hS => ?_)
                have hZ := Option.some.inj h
                exact r_iret hx hb hr hlocks hP hK hD hT hG hS (congrArg Prod.fst hZ) (congrArg Prod.snd hZ) dX13_off_70
        · replace h := ite_f c6 h
          refine lv_aload_n hx hb dX13_off_27 rfl (lv_at hl 0 rfl) ?_
          refine lv_iconst (v := 1) hx hb dX13_off_28 rfl ?_
          obtain ⟨z18, h18, h⟩ := ob_some h
          refine k_i (va_runV (As := [.int 1]) (rest := []) ⟨hx, hb, hml, hown, hts⟩ (c_X13_lost (l := l) (pI M a0 0 0) a0 1 k0 h18) (cwV 1 hts gX13_off_X13_lost rfl rfl rfl hdV_X13_lost ⟨Nat.le_of_ble_eq_true rfl, Nat.le_of_ble_eq_true rfl⟩) (pV (T := TX13) hP hK hD hT hG hS k0 (by decide) rfl) rfl rfl hl.1 rfl (lv_room (Nat.le_of_ble_eq_true rfl)) dX13_off_29 ⟨Nat.zero_le _, Nat.zero_le _⟩) hS (fun H locs hP hD hT hS => ?_)
          have hZ := Option.some.inj h
          exact r_iret hx hb hr hlocks hP hK hD hT hG hS (congrArg Prod.fst hZ) (congrArg Prod.snd hZ) dX13_off_32
set_option maxHeartbeats 4000000 in
set_option maxRecDepth 100000 in
theorem c_X13_woodBy {l : Launch} {D : va_G} {ad : Nat → Nat} {cy : Nat → ClassId} {A : Nat → Prop} {g : CG} {q : SE} (M : MM) (a0 : Nat) (x1 : Int32) (k0 : ok g a0 13 0) {Z : Int32} (h : f_X13_woodBy M a0 x1 = some Z) : Met l yX13_woodBy wsX13_woodBy ({ frames := 1, cells := 0, slots := 0, locals := 23 }) (va_Pc [.ref (ad a0), .int x1] (Wd D ad cy A g q M)) (va_Qi (fun r u => r = Z ∧ u = M) (Wd D ad cy A g q) A) 0 0 A := by
  refine Met.ofW (cc := cX13_woodBy) (maxL := 5) (ret := (some .int)) (by decide) rfl ?_
  intro p e s m args below meth c s₁ B hml hv
  obtain ⟨rfl, hP, hK, hD, hT, hG⟩ := hv
  have hx := B.exec
  have hb := B.bytes
  have hr := B.returns
  have hts := atoms_spec (ws := wsX13_woodBy) B.pre
  have hown : s.vm.findClass RX13 = some m.cls := findClass_of_methodNamed B.named
  have hlocks := B.notSynchronized
  have in12 : ∀ w ∈ u_ws RX12 TX12 48, w ∈ wsX13_woodBy := fun w h => List.mem_cons_of_mem _ (List.mem_append_right _ h)
  have in13 : ∀ w ∈ u_ws RX13 TX13 29, w ∈ wsX13_woodBy := fun w h => List.mem_cons_of_mem _ (List.mem_append_left _ (List.mem_append_right _ h))
  have hS : va_S A s.heap s.heap [] := va_S.rf
  have hl := lv_entry ([.ref (ad a0), .int x1]) (n := 5) (Nat.le_of_ble_eq_true rfl)
  rw [lg_entry_eq]
  generalize (lg_sl ([.ref (ad a0), .int x1]) ++ List.replicate (5 - (lg_sl ([.ref (ad a0), .int x1])).length) Slot.unset).toArray = ls at hl ⊢
  have hl : lv_has ls 5 [(0, .ref (ad a0)), (1, .int x1)] := hl
  unfold f_X13_woodBy at h
  refine lv_iconst (v := 0) hx hb dX13_woodBy_0 rfl ?_
  refine lv_istore_n (lv' := [(2, .int 0), (0, .ref (ad a0)), (1, .int x1)]) hx hb dX13_woodBy_1 rfl hl (by decide) rfl (fun ls hl => ?_)
  refine lv_iconst (v := 0) hx hb dX13_woodBy_2 rfl ?_
  refine lv_istore_n (lv' := [(3, .int 0), (2, .int 0), (0, .ref (ad a0)), (1, .int x1)]) hx hb dX13_woodBy_3 rfl hl (by decide) rfl (fun ls hl => ?_)
  have L1 : ∀ n1 : Nat, ∀ (y1_0 : Nat) (y1_1 : Int32) (y1_2 : Int32) (y1_3 : Int32) (ky1_0 : ok g y1_0 13 0) (H : Heap) (locs : List Loc), f_X13_woodBy_L4 n1 M y1_0 y1_1 y1_2 y1_3 = some Z → va_P D vwCl (wd ad cy g M) H → va_D A (wd ad cy g M) → WT g M → va_S A s.heap H locs → ∀ (ls : Array Slot), lv_has ls 5 [(0, .ref (ad y1_0)), (1, .int y1_1), (2, .int y1_2), (3, .int y1_3)] → W p l e ((headSpec wsX13_woodBy ({ frames := 1, cells := 0, slots := 0, locals := 23 })).room) s m (([.ref (ad a0), .int x1] : List Value).toArray) below meth c H locs 0 0 (MQ below (va_Qi (fun r u => r = Z ∧ u = M) (Wd D ad cy A g q) A) ([.ref (ad a0), .int x1]).toArray s 0 0 A) (F0 m 4 ls []) := by
    intro n1
    induction n1 with
    | zero => intro y1_0 y1_1 y1_2 y1_3 ky1_0 H locs h; exact absurd h (by simp [f_X13_woodBy_L4])
    | succ n1 ih1 =>
      intro y1_0 y1_1 y1_2 y1_3 ky1_0 H locs h hP hD hT hS ls hl
      rw [f_X13_woodBy_L4] at h
      refine lv_iload_n hx hb dX13_woodBy_4 rfl (lv_at hl 3 rfl) ?_
      refine lv_aload_n hx hb dX13_woodBy_5 rfl (lv_at hl 0 rfl) ?_
      rcases hN2 : gR M y1_0 3 with _ | b2
      · replace h := oc_n hN2 h
        refine r_get (T := TX13) (v := .null) hx hb hts in13 hown hK hP ky1_0 (by decide) rfl 3 (by decide) (hts (.fieldLink RX13 431 "StoneWalkModel" "island" "LStoneWalkModel$Island;") (List.mem_of_getElem? (i := 1) (by decide +kernel))) rfl (t := 2) rfl (by show va_rf _ = _; rw [hN2]; rfl) dX13_woodBy_6 ?_
        exact absurd h (by simp)
      · replace h := oc_s hN2 h
        have kb2 := hT.f ky1_0 (k := 3) (t := 12) (n := 0) rfl hN2
        refine r_get (T := TX13) (v := .ref (ad b2)) hx hb hts in13 hown hK hP ky1_0 (by decide) rfl 3 (by decide) (hts (.fieldLink RX13 431 "StoneWalkModel" "island" "LStoneWalkModel$Island;") (List.mem_of_getElem? (i := 1) (by decide +kernel))) rfl (t := 2) rfl (by show va_rf _ = _; rw [hN2]; rfl) dX13_woodBy_6 ?_
        refine r_getN (T := TX12) (v := .int (gI M b2 2)) hx hb hts in12 hown hK hP kb2 (by decide) rfl 2 (by decide) (hG.2.2.1 _ (List.mem_of_getElem? (i := 7) rfl)) rfl (t := 0) rfl rfl dX13_woodBy_9 ?_
        refine lv_icmp_ge (tgt := 94) hx hb dX13_woodBy_12 rfl (fun c3 => ?_) (fun c3 => ?_)
        · replace h := ite_t c3 h
          refine lv_iload_n hx hb dX13_woodBy_94 rfl (lv_at hl 2 rfl) ?_
          exact r_iret hx hb hr hlocks hP hK hD hT hG hS (Option.some.inj h) rfl dX13_woodBy_95
        · replace h := ite_f c3 h
          refine lv_aload_n hx hb dX13_woodBy_15 rfl (lv_at hl 0 rfl) ?_
          rcases hN4 : gR M y1_0 3 with _ | b4
          · replace h := oc_n hN4 h
            refine r_get (T := TX13) (v := .null) hx hb hts in13 hown hK hP ky1_0 (by decide) rfl 3 (by decide) (hts (.fieldLink RX13 431 "StoneWalkModel" "island" "LStoneWalkModel$Island;") (List.mem_of_getElem? (i := 1) (by decide +kernel))) rfl (t := 2) rfl (by show va_rf _ = _; rw [hN4]; rfl) dX13_woodBy_16 ?_
            exact absurd h (by simp)
          · replace h := oc_s hN4 h
            have kb4 := hT.f ky1_0 (k := 3) (t := 12) (n := 0) rfl hN4
            refine r_get (T := TX13) (v := .ref (ad b4)) hx hb hts in13 hown hK hP ky1_0 (by decide) rfl 3 (by decide) (hts (.fieldLink RX13 431 "StoneWalkModel" "island" "LStoneWalkModel$Island;") (List.mem_of_getElem? (i := 1) (by decide +kernel))) rfl (t := 2) rfl (by show va_rf _ = _; rw [hN4]; rfl) dX13_woodBy_16 ?_
            rcases hN5 : gR M b4 18 with _ | b5
            · exact absurd (oc_n hN5 h) (by simp)
            replace h := oc_s hN5 h
            have kb5 := hT.f kb4 (k := 18) (t := 15) (n := 10) rfl hN5
            refine r_getN (T := TX12) (v := .ref (ad b5)) hx hb hts in12 hown hK hP kb4 (by decide) rfl 18 (by decide) (hG.2.2.1 _ (List.mem_of_getElem? (i := 18) rfl)) rfl (t := 2) rfl (by show va_rf _ = _; rw [hN5]; rfl) dX13_woodBy_19 ?_
            refine lv_iload_n hx hb dX13_woodBy_22 rfl (lv_at hl 3 rfl) ?_
            obtain ⟨hn6, h⟩ := chk_some h
            refine r_iald hx hb hK hP kb5 hn6 dX13_woodBy_23 ?_
            refine lv_iconst (v := 5) hx hb dX13_woodBy_24 rfl ?_
            refine lv_icmp_ne (tgt := 40) hx hb dX13_woodBy_25 rfl (fun c7 => ?_) (fun c7 => ?_)
            · replace h := ite_f c7 h
              refine lv_aload_n hx hb dX13_woodBy_40 rfl (lv_at hl 0 rfl) ?_
              rcases hN8 : gR M y1_0 3 with _ | b8
              · replace h := oc_n hN8 h
                refine r_get (T := TX13) (v := .null) hx hb hts in13 hown hK hP ky1_0 (by decide) rfl 3 (by decide) (hts (.fieldLink RX13 431 "StoneWalkModel" "island" "LStoneWalkModel$Island;") (List.mem_of_getElem? (i := 1) (by decide +kernel))) rfl (t := 2) rfl (by show va_rf _ = _; rw [hN8]; rfl) dX13_woodBy_41 ?_
                exact absurd h (by simp)
              · replace h := oc_s hN8 h
                have kb8 := hT.f ky1_0 (k := 3) (t := 12) (n := 0) rfl hN8
                refine r_get (T := TX13) (v := .ref (ad b8)) hx hb hts in13 hown hK hP ky1_0 (by decide) rfl 3 (by decide) (hts (.fieldLink RX13 431 "StoneWalkModel" "island" "LStoneWalkModel$Island;") (List.mem_of_getElem? (i := 1) (by decide +kernel))) rfl (t := 2) rfl (by show va_rf _ = _; rw [hN8]; rfl) dX13_woodBy_41 ?_
                rcases hN9 : gR M b8 18 with _ | b9
                · exact absurd (oc_n hN9 h) (by simp)
                replace h := oc_s hN9 h
                have kb9 := hT.f kb8 (k := 18) (t := 15) (n := 10) rfl hN9
                refine r_getN (T := TX12) (v := .ref (ad b9)) hx hb hts in12 hown hK hP kb8 (by decide) rfl 18 (by decide) (hG.2.2.1 _ (List.mem_of_getElem? (i := 18) rfl)) rfl (t := 2) rfl (by show va_rf _ = _; rw [hN9]; rfl) dX13_woodBy_44 ?_
                refine lv_iload_n hx hb dX13_woodBy_47 rfl (lv_at hl 3 rfl) ?_
                obtain ⟨hn10, h⟩ := chk_some h
                refine r_iald hx hb hK hP kb9 hn10 dX13_woodBy_48 ?_
                refine lv_iconst (v := 3) hx hb dX13_woodBy_49 rfl ?_
                refine lv_icmp_ne (tgt := 65) hx hb dX13_woodBy_50 rfl (fun c11 => ?_) (fun c11 => ?_)
                · replace h := ite_f c11 h
                  refine lv_iconst (v := 0) hx hb dX13_woodBy_65 rfl ?_
                  refine lv_istore (lv' := [(4, .int 0), (0, .ref (ad y1_0)), (1, .int y1_1), (2, .int y1_2), (3, .int y1_3)]) hx hb dX13_woodBy_66 hl (by decide) rfl (fun ls hl => ?_)
                  refine lv_iload_n hx hb dX13_woodBy_68 rfl (lv_at hl 3 rfl) ?_
                  refine lv_aload_n hx hb dX13_woodBy_69 rfl (lv_at hl 1 rfl) ?_
                  refine lv_iload_n hx hb dX13_woodBy_70 rfl (lv_at hl 2 rfl) ?_
                  refine lv_aload_n hx hb dX13_woodBy_71 rfl (lv_at hl 1 rfl) ?_
                  rcases hN12 : gR M y1_0 3 with _ | b12
                  · replace h := oc_n hN12 h
                    refine r_get (T := TX13) (v := .null) hx hb hts in13 hown hK hP ky1_0 (by decide) rfl 3 (by decide) (hts (.fieldLink RX13 431 "StoneWalkModel" "island" "LStoneWalkModel$Island;") (List.mem_of_getElem? (i := 1) (by decide +kernel))) rfl (t := 2) rfl (by show va_rf _ = _; rw [hN12]; rfl) dX13_woodBy_72 ?_
                    exact absurd h (by simp)
                  · replace h := oc_s hN12 h
                    have kb12 := hT.f ky1_0 (k := 3) (t := 12) (n := 0) rfl hN12
                    refine r_get (T := TX13) (v := .ref (ad b12)) hx hb hts in13 hown hK hP ky1_0 (by decide) rfl 3 (by decide) (hts (.fieldLink RX13 431 "StoneWalkModel" "island" "LStoneWalkModel$Island;") (List.mem_of_getElem? (i := 1) (by decide +kernel))) rfl (t := 2) rfl (by show va_rf _ = _; rw [hN12]; rfl) dX13_woodBy_72 ?_
                    rcases hN13 : gR M b12 15 with _ | b13
                    · exact absurd (oc_n hN13 h) (by simp)
                    replace h := oc_s hN13 h
                    have kb13 := hT.f kb12 (k := 15) (t := 15) (n := 10) rfl hN13
                    refine r_getN (T := TX12) (v := .ref (ad b13)) hx hb hts in12 hown hK hP kb12 (by decide) rfl 15 (by decide) (hG.2.2.1 _ (List.mem_of_getElem? (i := 15) rfl)) rfl (t := 2) rfl (by show va_rf _ = _; rw [hN13]; rfl) dX13_woodBy_75 ?_
                    refine lv_iload_n hx hb dX13_woodBy_78 rfl (lv_at hl 4 rfl) ?_
                    obtain ⟨hn14, h⟩ := chk_some h
                    refine r_iald hx hb hK hP kb13 hn14 dX13_woodBy_79 ?_
                    obtain ⟨z15, h15, h⟩ := ob_some h
                    refine k_i (va_runV (As := [.int y1_1, .int (gI M b13 (ix y1_3))]) (rest := [.int y1_2]) ⟨hx, hb, hml, hown, hts⟩ (c_X13_woodOf (l := l) M y1_0 y1_1 (gI M b13 (ix y1_3)) ky1_0 h15) (cwV 2 hts gX13_woodBy_X13_woodOf rfl rfl rfl hdV_X13_woodOf ⟨Nat.le_of_ble_eq_true rfl, Nat.le_of_ble_eq_true rfl⟩) (pV (T := TX13) hP hK hD hT hG hS ky1_0 (by decide) rfl) rfl rfl hl.1 rfl (lv_room (Nat.le_of_ble_eq_true rfl)) dX13_woodBy_80 ⟨Nat.zero_le _, Nat.zero_le _⟩) hS (fun H locs hP hD hT hS => ?_)
                    refine lv_iload hx hb dX13_woodBy_83 (lv_at hl 0 rfl) ?_
                    refine lv_imul hx hb dX13_woodBy_85 ?_
                    refine lv_iadd hx hb dX13_woodBy_86 ?_
                    refine lv_istore_n (lv' := [(2, .int (y1_2 + (z15 * 0))), (4, .int 0), (0, .ref (ad y1_0)), (1, .int y1_1), (3, .int y1_3)]) hx hb dX13_woodBy_87 rfl hl (by decide) rfl (fun ls hl => ?_)
                    refine lv_iinc (v := y1_3 + 1) (lv' := [(3, .int (y1_3 + 1)), (2, .int (y1_2 + (z15 * 0))), (4, .int 0), (0, .ref (ad y1_0)), (1, .int y1_1)]) hx hb dX13_woodBy_88 hl (k := 4) rfl rfl (by decide) rfl (fun ls hl => ?_)
                    refine lv_goto (tgt := 4) hx hb dX13_woodBy_91 rfl ?_
                    exact ih1 y1_0 y1_1 (y1_2 + (z15 * 0)) (y1_3 + 1) ky1_0 _ _ h hP hD hT hS ls (lv_sub hl [3, 4, 1, 0] rfl)
                · replace h := ite_t c11 h
                  refine lv_aload_n hx hb dX13_woodBy_53 rfl (lv_at hl 0 rfl) ?_
                  rcases hN16 : gR M y1_0 3 with _ | b16
                  · replace h := oc_n hN16 h
                    refine r_get (T := TX13) (v := .null) hx hb hts in13 hown hK hP ky1_0 (by decide) rfl 3 (by decide) (hts (.fieldLink RX13 431 "StoneWalkModel" "island" "LStoneWalkModel$Island;") (List.mem_of_getElem? (i := 1) (by decide +kernel))) rfl (t := 2) rfl (by show va_rf _ = _; rw [hN16]; rfl) dX13_woodBy_54 ?_
                    exact absurd h (by simp)
                  · replace h := oc_s hN16 h
                    have kb16 := hT.f ky1_0 (k := 3) (t := 12) (n := 0) rfl hN16
                    refine r_get (T := TX13) (v := .ref (ad b16)) hx hb hts in13 hown hK hP ky1_0 (by decide) rfl 3 (by decide) (hts (.fieldLink RX13 431 "StoneWalkModel" "island" "LStoneWalkModel$Island;") (List.mem_of_getElem? (i := 1) (by decide +kernel))) rfl (t := 2) rfl (by show va_rf _ = _; rw [hN16]; rfl) dX13_woodBy_54 ?_
                    rcases hN17 : gR M b16 13 with _ | b17
                    · exact absurd (oc_n hN17 h) (by simp)
                    replace h := oc_s hN17 h
                    have kb17 := hT.f kb16 (k := 13) (t := 15) (n := 3) rfl hN17
                    refine r_getN (T := TX12) (v := .ref (ad b17)) hx hb hts in12 hown hK hP kb16 (by decide) rfl 13 (by decide) (hG.2.2.1 _ (List.mem_of_getElem? (i := 13) rfl)) rfl (t := 2) rfl (by show va_rf _ = _; rw [hN17]; rfl) dX13_woodBy_57 ?_
                    refine lv_iconst (v := 0) hx hb dX13_woodBy_60 rfl ?_
                    refine r_iald hx hb hK hP kb17 (by decide) dX13_woodBy_61 ?_
                    refine lv_goto (tgt := 66) hx hb dX13_woodBy_62 rfl ?_
                    refine lv_istore (lv' := [(4, .int (gI M b17 (ix 0))), (0, .ref (ad y1_0)), (1, .int y1_1), (2, .int y1_2), (3, .int y1_3)]) hx hb dX13_woodBy_66 hl (by decide) rfl (fun ls hl => ?_)
                    refine lv_iload_n hx hb dX13_woodBy_68 rfl (lv_at hl 3 rfl) ?_
                    refine lv_aload_n hx hb dX13_woodBy_69 rfl (lv_at hl 1 rfl) ?_
                    refine lv_iload_n hx hb dX13_woodBy_70 rfl (lv_at hl 2 rfl) ?_
                    refine lv_aload_n hx hb dX13_woodBy_71 rfl (lv_at hl 1 rfl) ?_
                    rcases hN18 : gR M y1_0 3 with _ | b18
                    · replace h := oc_n hN18 h
                      refine r_get (T := TX13) (v := .null) hx hb hts in13 hown hK hP ky1_0 (by decide) rfl 3 (by decide) (hts (.fieldLink RX13 431 "StoneWalkModel" "island" "LStoneWalkModel$Island;") (List.mem_of_getElem? (i := 1) (by decide +kernel))) rfl (t := 2) rfl (by show va_rf _ = _; rw [hN18]; rfl) dX13_woodBy_72 ?_
                      exact absurd h (by simp)
                    · replace h := oc_s hN18 h
                      have kb18 := hT.f ky1_0 (k := 3) (t := 12) (n := 0) rfl hN18
                      refine r_get (T := TX13) (v := .ref (ad b18)) hx hb hts in13 hown hK hP ky1_0 (by decide) rfl 3 (by decide) (hts (.fieldLink RX13 431 "StoneWalkModel" "island" "LStoneWalkModel$Island;") (List.mem_of_getElem? (i := 1) (by decide +kernel))) rfl (t := 2) rfl (by show va_rf _ = _; rw [hN18]; rfl) dX13_woodBy_72 ?_
                      rcases hN19 : gR M b18 15 with _ | b19
                      · exact absurd (oc_n hN19 h) (by simp)
                      replace h := oc_s hN19 h
                      have kb19 := hT.f kb18 (k := 15) (t := 15) (n := 10) rfl hN19
                      refine r_getN (T := TX12) (v := .ref (ad b19)) hx hb hts in12 hown hK hP kb18 (by decide) rfl 15 (by decide) (hG.2.2.1 _ (List.mem_of_getElem? (i := 15) rfl)) rfl (t := 2) rfl (by show va_rf _ = _; rw [hN19]; rfl) dX13_woodBy_75 ?_
                      refine lv_iload_n hx hb dX13_woodBy_78 rfl (lv_at hl 4 rfl) ?_
                      obtain ⟨hn20, h⟩ := chk_some h
                      refine r_iald hx hb hK hP kb19 hn20 dX13_woodBy_79 ?_
                      obtain ⟨z21, h21, h⟩ := ob_some h
                      refine k_i (va_runV (As := [.int y1_1, .int (gI M b19 (ix y1_3))]) (rest := [.int y1_2]) ⟨hx, hb, hml, hown, hts⟩ (c_X13_woodOf (l := l) M y1_0 y1_1 (gI M b19 (ix y1_3)) ky1_0 h21) (cwV 2 hts gX13_woodBy_X13_woodOf rfl rfl rfl hdV_X13_woodOf ⟨Nat.le_of_ble_eq_true rfl, Nat.le_of_ble_eq_true rfl⟩) (pV (T := TX13) hP hK hD hT hG hS ky1_0 (by decide) rfl) rfl rfl hl.1 rfl (lv_room (Nat.le_of_ble_eq_true rfl)) dX13_woodBy_80 ⟨Nat.zero_le _, Nat.zero_le _⟩) hS (fun H locs hP hD hT hS => ?_)
                      refine lv_iload hx hb dX13_woodBy_83 (lv_at hl 0 rfl) ?_
                      refine lv_imul hx hb dX13_woodBy_85 ?_
                      refine lv_iadd hx hb dX13_woodBy_86 ?_
                      refine lv_istore_n (lv' := [(2, .int (y1_2 + (z21 * (gI M b17 (ix 0))))), (4, .int (gI M b17 (ix 0))), (0, .ref (ad y1_0)), (1, .int y1_1), (3, .int y1_3)]) hx hb dX13_woodBy_87 rfl hl (by decide) rfl (fun ls hl => ?_)
                      refine lv_iinc (v := y1_3 + 1) (lv' := [(3, .int (y1_3 + 1)), (2, .int (y1_2 + (z21 * (gI M b17 (ix 0))))), (4, .int (gI M b17 (ix 0))), (0, .ref (ad y1_0)), (1, .int y1_1)]) hx hb dX13_woodBy_88 hl (k := 4) rfl rfl (by decide) rfl (fun ls hl => ?_)
                      refine lv_goto (tgt := 4) hx hb dX13_woodBy_91 rfl ?_
                      exact ih1 y1_0 y1_1 (y1_2 + (z21 * (gI M b17 (ix 0)))) (y1_3 + 1) ky1_0 _ _ h hP hD hT hS ls (lv_sub hl [3, 4, 1, 0] rfl)
            · replace h := ite_t c7 h
              refine lv_aload_n hx hb dX13_woodBy_28 rfl (lv_at hl 0 rfl) ?_
              rcases hN22 : gR M y1_0 3 with _ | b22
              · replace h := oc_n hN22 h
                refine r_get (T := TX13) (v := .null) hx hb hts in13 hown hK hP ky1_0 (by decide) rfl 3 (by decide) (hts (.fieldLink RX13 431 "StoneWalkModel" "island" "LStoneWalkModel$Island;") (List.mem_of_getElem? (i := 1) (by decide +kernel))) rfl (t := 2) rfl (by show va_rf _ = _; rw [hN22]; rfl) dX13_woodBy_29 ?_
                exact absurd h (by simp)
              · replace h := oc_s hN22 h
                have kb22 := hT.f ky1_0 (k := 3) (t := 12) (n := 0) rfl hN22
                refine r_get (T := TX13) (v := .ref (ad b22)) hx hb hts in13 hown hK hP ky1_0 (by decide) rfl 3 (by decide) (hts (.fieldLink RX13 431 "StoneWalkModel" "island" "LStoneWalkModel$Island;") (List.mem_of_getElem? (i := 1) (by decide +kernel))) rfl (t := 2) rfl (by show va_rf _ = _; rw [hN22]; rfl) dX13_woodBy_29 ?_
                rcases hN23 : gR M b22 21 with _ | b23
                · exact absurd (oc_n hN23 h) (by simp)
                replace h := oc_s hN23 h
                have kb23 := hT.f kb22 (k := 21) (t := 15) (n := 10) rfl hN23
                refine r_getN (T := TX12) (v := .ref (ad b23)) hx hb hts in12 hown hK hP kb22 (by decide) rfl 21 (by decide) (hG.2.2.1 _ (List.mem_of_getElem? (i := 21) rfl)) rfl (t := 2) rfl (by show va_rf _ = _; rw [hN23]; rfl) dX13_woodBy_32 ?_
                refine lv_iload_n hx hb dX13_woodBy_35 rfl (lv_at hl 3 rfl) ?_
                obtain ⟨hn24, h⟩ := chk_some h
                refine r_iald hx hb hK hP kb23 hn24 dX13_woodBy_36 ?_
                refine lv_goto (tgt := 66) hx hb dX13_woodBy_37 rfl ?_
                refine lv_istore (lv' := [(4, .int (gI M b23 (ix y1_3))), (0, .ref (ad y1_0)), (1, .int y1_1), (2, .int y1_2), (3, .int y1_3)]) hx hb dX13_woodBy_66 hl (by decide) rfl (fun ls hl => ?_)
                refine lv_iload_n hx hb dX13_woodBy_68 rfl (lv_at hl 3 rfl) ?_
                refine lv_aload_n hx hb dX13_woodBy_69 rfl (lv_at hl 1 rfl) ?_
                refine lv_iload_n hx hb dX13_woodBy_70 rfl (lv_at hl 2 rfl) ?_
                refine lv_aload_n hx hb dX13_woodBy_71 rfl (lv_at hl 1 rfl) ?_
                rcases hN25 : gR M y1_0 3 with _ | b25
                · replace h := oc_n hN25 h
                  refine r_get (T := TX13) (v := .null) hx hb hts in13 hown hK hP ky1_0 (by decide) rfl 3 (by decide) (hts (.fieldLink RX13 431 "StoneWalkModel" "island" "LStoneWalkModel$Island;") (List.mem_of_getElem? (i := 1) (by decide +kernel))) rfl (t := 2) rfl (by show va_rf _ = _; rw [hN25]; rfl) dX13_woodBy_72 ?_
                  exact absurd h (by simp)
                · replace h := oc_s hN25 h
                  have kb25 := hT.f ky1_0 (k := 3) (t := 12) (n := 0) rfl hN25
                  refine r_get (T := TX13) (v := .ref (ad b25)) hx hb hts in13 hown hK hP ky1_0 (by decide) rfl 3 (by decide) (hts (.fieldLink RX13 431 "StoneWalkModel" "island" "LStoneWalkModel$Island;") (List.mem_of_getElem? (i := 1) (by decide +kernel))) rfl (t := 2) rfl (by show va_rf _ = _; rw [hN25]; rfl) dX13_woodBy_72 ?_
                  rcases hN26 : gR M b25 15 with _ | b26
                  · exact absurd (oc_n hN26 h) (by simp)
                  replace h := oc_s hN26 h
                  have kb26 := hT.f kb25 (k := 15) (t := 15) (n := 10) rfl hN26
                  refine r_getN (T := TX12) (v := .ref (ad b26)) hx hb hts in12 hown hK hP kb25 (by decide) rfl 15 (by decide) (hG.2.2.1 _ (List.mem_of_getElem? (i := 15) rfl)) rfl (t := 2) rfl (by show va_rf _ = _; rw [hN26]; rfl) dX13_woodBy_75 ?_
                  refine lv_iload_n hx hb dX13_woodBy_78 rfl (lv_at hl 4 rfl) ?_
                  obtain ⟨hn27, h⟩ := chk_some h
                  refine r_iald hx hb hK hP kb26 hn27 dX13_woodBy_79 ?_
                  obtain ⟨z28, h28, h⟩ := ob_some h
                  refine k_i (va_runV (As := [.int y1_1, .int (gI M b26 (ix y1_3))]) (rest := [.int y1_2]) ⟨hx, hb, hml, hown, hts⟩ (c_X13_woodOf (l := l) M y1_0 y1_1 (gI M b26 (ix y1_3)) ky1_0 h28) (cwV 2 hts gX13_woodBy_X13_woodOf rfl rfl rfl hdV_X13_woodOf ⟨Nat.le_of_ble_eq_true rfl, Nat.le_of_ble_eq_true rfl⟩) (pV (T := TX13) hP hK hD hT hG hS ky1_0 (by decide) rfl) rfl rfl hl.1 rfl (lv_room (Nat.le_of_ble_eq_true rfl)) dX13_woodBy_80 ⟨Nat.zero_le _, Nat.zero_le _⟩) hS (fun H locs hP hD hT hS => ?_)
                  refine lv_iload hx hb dX13_woodBy_83 (lv_at hl 0 rfl) ?_
                  refine lv_imul hx hb dX13_woodBy_85 ?_
                  refine lv_iadd hx hb dX13_woodBy_86 ?_
                  refine lv_istore_n (lv' := [(2, .int (y1_2 + (z28 * (gI M b23 (ix y1_3))))), (4, .int (gI M b23 (ix y1_3))), (0, .ref (ad y1_0)), (1, .int y1_1), (3, .int y1_3)]) hx hb dX13_woodBy_87 rfl hl (by decide) rfl (fun ls hl => ?_)
                  refine lv_iinc (v := y1_3 + 1) (lv' := [(3, .int (y1_3 + 1)), (2, .int (y1_2 + (z28 * (gI M b23 (ix y1_3))))), (4, .int (gI M b23 (ix y1_3))), (0, .ref (ad y1_0)), (1, .int y1_1)]) hx hb dX13_woodBy_88 hl (k := 4) rfl rfl (by decide) rfl (fun ls hl => ?_)
                  refine lv_goto (tgt := 4) hx hb dX13_woodBy_91 rfl ?_
                  exact ih1 y1_0 y1_1 (y1_2 + (z28 * (gI M b23 (ix y1_3)))) (y1_3 + 1) ky1_0 _ _ h hP hD hT hS ls (lv_sub hl [3, 4, 1, 0] rfl)
  exact L1 FU a0 x1 0 0 k0 _ _ h hP hD hT hS ls (lv_sub hl [2, 3, 1, 0] rfl)
set_option maxHeartbeats 4000000 in
set_option maxRecDepth 100000 in
theorem c_X13_wood {l : Launch} {D : va_G} {ad : Nat → Nat} {cy : Nat → ClassId} {A : Nat → Prop} {g : CG} {q : SE} (M : MM) (a0 : Nat) (x1 : Int32) (k0 : ok g a0 13 0) {Z : (Int32 × MM)} (h : f_X13_wood M a0 x1 = some Z) : Met l yX13_wood wsX13_wood ({ frames := 2, cells := 0, slots := 0, locals := 47 }) (va_Pc [.ref (ad a0), .int x1] (Wd D ad cy A g q M)) (va_Qi (fun r u => r = Z.1 ∧ u = Z.2) (Wd D ad cy A g q) A) 0 0 A := by
  refine Met.ofW (cc := cX13_wood) (maxL := 2) (ret := (some .int)) (by decide) rfl ?_
  intro p e s m args below meth c s₁ B hml hv
  obtain ⟨rfl, hP, hK, hD, hT, hG⟩ := hv
  have hx := B.exec
  have hb := B.bytes
  have hr := B.returns
  have hts := atoms_spec (ws := wsX13_wood) B.pre
  have hown : s.vm.findClass RX13 = some m.cls := findClass_of_methodNamed B.named
  have hlocks := B.notSynchronized
  have in13 : ∀ w ∈ u_ws RX13 TX13 29, w ∈ wsX13_wood := fun w h => List.mem_cons_of_mem _ (List.mem_append_left _ (List.mem_append_right _ h))
  have hS : va_S A s.heap s.heap [] := va_S.rf
  have hl := lv_entry ([.ref (ad a0), .int x1]) (n := 2) (Nat.le_of_ble_eq_true rfl)
  rw [lg_entry_eq]
  generalize (lg_sl ([.ref (ad a0), .int x1]) ++ List.replicate (2 - (lg_sl ([.ref (ad a0), .int x1])).length) Slot.unset).toArray = ls at hl ⊢
  have hl : lv_has ls 2 [(0, .ref (ad a0)), (1, .int x1)] := hl
  unfold f_X13_wood at h
  refine lv_aload_n hx hb dX13_wood_0 rfl (lv_at hl 0 rfl) ?_
  refine lv_iconst (v := 0) hx hb dX13_wood_1 rfl ?_
  refine r_putI (T := TX13) (ty := .int) (v := 0) hx hb hts in13 tyX13 tyX13_ok nmX13 hown hK hP hD hT hS k0 (by decide) rfl 0 (by decide) (hts (.fieldLink RX13 30 "StoneWalkModel" "thrown" "I") (List.mem_of_getElem? (i := 1) (by decide +kernel))) rfl rfl (tyX13_ok 0 (by decide)) rfl rfl rfl dX13_wood_2 (fun H locs hP hD hT hS => ?_)
  refine lv_aload_n hx hb dX13_wood_5 rfl (lv_at hl 0 rfl) ?_
  refine lv_iload_n hx hb dX13_wood_6 rfl (lv_at hl 1 rfl) ?_
  obtain ⟨z1, h1, h⟩ := ob_some h
  refine k_z (va_runV (As := [.int x1]) (rest := []) ⟨hx, hb, hml, hown, hts⟩ (c_X13_isWay (l := l) (pI M a0 0 0) a0 x1 k0 h1) (cwV 1 hts gX13_wood_X13_isWay rfl rfl rfl hdV_X13_isWay ⟨Nat.le_of_ble_eq_true rfl, Nat.le_of_ble_eq_true rfl⟩) (pV (T := TX13) hP hK hD hT hG hS k0 (by decide) rfl) rfl rfl hl.1 rfl (lv_room (Nat.le_of_ble_eq_true rfl)) dX13_wood_7 ⟨Nat.zero_le _, Nat.zero_le _⟩) hS (fun H locs hz1 hP hD hT hS => ?_)
  refine lv_if_eq (tgt := 25) hx hb dX13_wood_10 rfl (fun c2 => ?_) (fun c2 => ?_)
  · replace h := ite_t c2 h
    refine lv_aload_n hx hb dX13_wood_25 rfl (lv_at hl 0 rfl) ?_
    refine lv_iconst (v := 1) hx hb dX13_wood_26 rfl ?_
    obtain ⟨z3, h3, h⟩ := ob_some h
    refine k_i (va_runV (As := [.int 1]) (rest := []) ⟨hx, hb, hml, hown, hts⟩ (c_X13_refused (l := l) (pI M a0 0 0) a0 1 k0 h3) (cwV 1 hts gX13_wood_X13_refused rfl rfl rfl hdV_X13_refused ⟨Nat.le_of_ble_eq_true rfl, Nat.le_of_ble_eq_true rfl⟩) (pV (T := TX13) hP hK hD hT hG hS k0 (by decide) rfl) rfl rfl hl.1 rfl (lv_room (Nat.le_of_ble_eq_true rfl)) dX13_wood_27 ⟨Nat.zero_le _, Nat.zero_le _⟩) hS (fun H locs hP hD hT hS => ?_)
    have hZ := Option.some.inj h
    exact r_iret hx hb hr hlocks hP hK hD hT hG hS (congrArg Prod.fst hZ) (congrArg Prod.snd hZ) dX13_wood_30
  · replace h := ite_f c2 h
    refine lv_aload_n hx hb dX13_wood_13 rfl (lv_at hl 0 rfl) ?_
    refine lv_aload_n hx hb dX13_wood_14 rfl (lv_at hl 0 rfl) ?_
    refine lv_iload_n hx hb dX13_wood_15 rfl (lv_at hl 1 rfl) ?_
    obtain ⟨z4, h4, h⟩ := ob_some h
    refine k_i (va_runV (As := [.int x1]) (rest := [.ref (ad a0)]) ⟨hx, hb, hml, hown, hts⟩ (c_X13_woodBy (l := l) (pI M a0 0 0) a0 x1 k0 h4) (cwV 1 hts gX13_wood_X13_woodBy rfl rfl rfl hdV_X13_woodBy ⟨Nat.le_of_ble_eq_true rfl, Nat.le_of_ble_eq_true rfl⟩) (pV (T := TX13) hP hK hD hT hG hS k0 (by decide) rfl) rfl rfl hl.1 rfl (lv_room (Nat.le_of_ble_eq_true rfl)) dX13_wood_16 ⟨Nat.zero_le _, Nat.zero_le _⟩) hS (fun H locs hP hD hT hS => ?_)
    obtain ⟨z5, h5, h⟩ := ob_some h
    refine k_i (va_runV (As := [.int z4]) (rest := []) ⟨hx, hb, hml, hown, hts⟩ (c_X13_done (l := l) (pI M a0 0 0) a0 z4 k0 h5) (cwV 1 hts gX13_wood_X13_done rfl rfl rfl hdV_X13_done ⟨Nat.le_of_ble_eq_true rfl, Nat.le_of_ble_eq_true rfl⟩) (pV (T := TX13) hP hK hD hT hG hS k0 (by decide) rfl) rfl rfl hl.1 rfl (lv_room (Nat.le_of_ble_eq_true rfl)) dX13_wood_19 ⟨Nat.zero_le _, Nat.zero_le _⟩) hS (fun H locs hP hD hT hS => ?_)
    refine lv_goto (tgt := 30) hx hb dX13_wood_22 rfl ?_
    have hZ := Option.some.inj h
    exact r_iret hx hb hr hlocks hP hK hD hT hG hS (congrArg Prod.fst hZ) (congrArg Prod.snd hZ) dX13_wood_30
set_option maxHeartbeats 4000000 in
set_option maxRecDepth 100000 in
theorem c_X13_enough {l : Launch} {D : va_G} {ad : Nat → Nat} {cy : Nat → ClassId} {A : Nat → Prop} {g : CG} {q : SE} (M : MM) (a0 : Nat) (x1 : Int32) (k0 : ok g a0 13 0) {Z : (Int32 × MM)} (h : f_X13_enough M a0 x1 = some Z) : Met l yX13_enough wsX13_enough ({ frames := 2, cells := 0, slots := 0, locals := 47 }) (va_Pc [.ref (ad a0), .int x1] (Wd D ad cy A g q M)) (va_Qi (fun r u => r = Z.1 ∧ u = Z.2) (Wd D ad cy A g q) A) 0 0 A := by
  refine Met.ofW (cc := cX13_enough) (maxL := 2) (ret := (some .int)) (by decide) rfl ?_
  intro p e s m args below meth c s₁ B hml hv
  obtain ⟨rfl, hP, hK, hD, hT, hG⟩ := hv
  have hx := B.exec
  have hb := B.bytes
  have hr := B.returns
  have hts := atoms_spec (ws := wsX13_enough) B.pre
  have hown : s.vm.findClass RX13 = some m.cls := findClass_of_methodNamed B.named
  have hlocks := B.notSynchronized
  have in12 : ∀ w ∈ u_ws RX12 TX12 48, w ∈ wsX13_enough := fun w h => List.mem_cons_of_mem _ (List.mem_append_right _ h)
  have in13 : ∀ w ∈ u_ws RX13 TX13 29, w ∈ wsX13_enough := fun w h => List.mem_cons_of_mem _ (List.mem_append_left _ (List.mem_append_right _ h))
  have hS : va_S A s.heap s.heap [] := va_S.rf
  have hl := lv_entry ([.ref (ad a0), .int x1]) (n := 2) (Nat.le_of_ble_eq_true rfl)
  rw [lg_entry_eq]
  generalize (lg_sl ([.ref (ad a0), .int x1]) ++ List.replicate (2 - (lg_sl ([.ref (ad a0), .int x1])).length) Slot.unset).toArray = ls at hl ⊢
  have hl : lv_has ls 2 [(0, .ref (ad a0)), (1, .int x1)] := hl
  unfold f_X13_enough at h
  refine lv_aload_n hx hb dX13_enough_0 rfl (lv_at hl 0 rfl) ?_
  refine lv_iconst (v := 0) hx hb dX13_enough_1 rfl ?_
  refine r_putI (T := TX13) (ty := .int) (v := 0) hx hb hts in13 tyX13 tyX13_ok nmX13 hown hK hP hD hT hS k0 (by decide) rfl 0 (by decide) (hts (.fieldLink RX13 30 "StoneWalkModel" "thrown" "I") (List.mem_of_getElem? (i := 1) (by decide +kernel))) rfl rfl (tyX13_ok 0 (by decide)) rfl rfl rfl dX13_enough_2 (fun H locs hP hD hT hS => ?_)
  refine lv_aload_n hx hb dX13_enough_5 rfl (lv_at hl 0 rfl) ?_
  refine lv_iload_n hx hb dX13_enough_6 rfl (lv_at hl 1 rfl) ?_
  obtain ⟨z1, h1, h⟩ := ob_some h
  refine k_z (va_runV (As := [.int x1]) (rest := []) ⟨hx, hb, hml, hown, hts⟩ (c_X13_isWay (l := l) (pI M a0 0 0) a0 x1 k0 h1) (cwV 1 hts gX13_enough_X13_isWay rfl rfl rfl hdV_X13_isWay ⟨Nat.le_of_ble_eq_true rfl, Nat.le_of_ble_eq_true rfl⟩) (pV (T := TX13) hP hK hD hT hG hS k0 (by decide) rfl) rfl rfl hl.1 rfl (lv_room (Nat.le_of_ble_eq_true rfl)) dX13_enough_7 ⟨Nat.zero_le _, Nat.zero_le _⟩) hS (fun H locs hz1 hP hD hT hS => ?_)
  refine lv_if_ne (tgt := 19) hx hb dX13_enough_10 rfl (fun c2 => ?_) (fun c2 => ?_)
  · replace h := ite_f c2 h
    refine lv_aload_n hx hb dX13_enough_19 rfl (lv_at hl 0 rfl) ?_
    rcases hN3 : gR (pI M a0 0 0) a0 3 with _ | b3
    · replace h := oc_n hN3 h
      refine r_get (T := TX13) (v := .null) hx hb hts in13 hown hK hP k0 (by decide) rfl 3 (by decide) (hts (.fieldLink RX13 431 "StoneWalkModel" "island" "LStoneWalkModel$Island;") (List.mem_of_getElem? (i := 2) (by decide +kernel))) rfl (t := 2) rfl (by show va_rf _ = _; rw [hN3]; rfl) dX13_enough_20 ?_
      exact absurd h (by simp)
    · replace h := oc_s hN3 h
      have kb3 := hT.f k0 (k := 3) (t := 12) (n := 0) rfl hN3
      refine r_get (T := TX13) (v := .ref (ad b3)) hx hb hts in13 hown hK hP k0 (by decide) rfl 3 (by decide) (hts (.fieldLink RX13 431 "StoneWalkModel" "island" "LStoneWalkModel$Island;") (List.mem_of_getElem? (i := 2) (by decide +kernel))) rfl (t := 2) rfl (by show va_rf _ = _; rw [hN3]; rfl) dX13_enough_20 ?_
      refine r_getN (T := TX12) (v := .int (gI (pI M a0 0 0) b3 27)) hx hb hts in12 hown hK hP kb3 (by decide) rfl 27 (by decide) (hG.2.2.1 _ (List.mem_of_getElem? (i := 28) rfl)) rfl (t := 0) rfl rfl dX13_enough_23 ?_
      refine lv_iconst (v := (-1)) hx hb dX13_enough_26 rfl ?_
      refine lv_icmp_ne (tgt := 39) hx hb dX13_enough_27 rfl (fun c4 => ?_) (fun c4 => ?_)
      · replace h := ite_f c4 h
        refine lv_aload_n hx hb dX13_enough_39 rfl (lv_at hl 0 rfl) ?_
        refine lv_aload_n hx hb dX13_enough_40 rfl (lv_at hl 0 rfl) ?_
        refine lv_iload_n hx hb dX13_enough_41 rfl (lv_at hl 1 rfl) ?_
        obtain ⟨z5, h5, h⟩ := ob_some h
        refine k_i (va_runV (As := [.int x1]) (rest := [.ref (ad a0)]) ⟨hx, hb, hml, hown, hts⟩ (c_X13_woodBy (l := l) (pI M a0 0 0) a0 x1 k0 h5) (cwV 1 hts gX13_enough_X13_woodBy rfl rfl rfl hdV_X13_woodBy ⟨Nat.le_of_ble_eq_true rfl, Nat.le_of_ble_eq_true rfl⟩) (pV (T := TX13) hP hK hD hT hG hS k0 (by decide) rfl) rfl rfl hl.1 rfl (lv_room (Nat.le_of_ble_eq_true rfl)) dX13_enough_42 ⟨Nat.zero_le _, Nat.zero_le _⟩) hS (fun H locs hP hD hT hS => ?_)
        refine lv_bipush (v := 10) hx hb dX13_enough_45 rfl ?_
        refine lv_aload_n hx hb dX13_enough_47 rfl (lv_at hl 0 rfl) ?_
        rcases hN6 : gR (pI M a0 0 0) a0 3 with _ | b6
        · replace h := oc_n hN6 h
          refine r_get (T := TX13) (v := .null) hx hb hts in13 hown hK hP k0 (by decide) rfl 3 (by decide) (hts (.fieldLink RX13 431 "StoneWalkModel" "island" "LStoneWalkModel$Island;") (List.mem_of_getElem? (i := 2) (by decide +kernel))) rfl (t := 2) rfl (by show va_rf _ = _; rw [hN6]; rfl) dX13_enough_48 ?_
          exact absurd h (by simp)
        · replace h := oc_s hN6 h
          have kb6 := hT.f k0 (k := 3) (t := 12) (n := 0) rfl hN6
          refine r_get (T := TX13) (v := .ref (ad b6)) hx hb hts in13 hown hK hP k0 (by decide) rfl 3 (by decide) (hts (.fieldLink RX13 431 "StoneWalkModel" "island" "LStoneWalkModel$Island;") (List.mem_of_getElem? (i := 2) (by decide +kernel))) rfl (t := 2) rfl (by show va_rf _ = _; rw [hN6]; rfl) dX13_enough_48 ?_
          refine r_getN (T := TX12) (v := .int (gI (pI M a0 0 0) b6 27)) hx hb hts in12 hown hK hP kb6 (by decide) rfl 27 (by decide) (hG.2.2.1 _ (List.mem_of_getElem? (i := 28) rfl)) rfl (t := 0) rfl rfl dX13_enough_51 ?_
          refine lv_imul hx hb dX13_enough_54 ?_
          refine lv_icmp_gt (tgt := 62) hx hb dX13_enough_55 rfl (fun c7 => ?_) (fun c7 => ?_)
          · replace h := ite_t c7 h
            refine lv_iconst (v := 0) hx hb dX13_enough_62 rfl ?_
            obtain ⟨z8, h8, h⟩ := ob_some h
            refine k_i (va_runV (As := [.int 0]) (rest := []) ⟨hx, hb, hml, hown, hts⟩ (c_X13_done (l := l) (pI M a0 0 0) a0 0 k0 h8) (cwV 1 hts gX13_enough_X13_done rfl rfl rfl hdV_X13_done ⟨Nat.le_of_ble_eq_true rfl, Nat.le_of_ble_eq_true rfl⟩) (pV (T := TX13) hP hK hD hT hG hS k0 (by decide) rfl) rfl rfl hl.1 rfl (lv_room (Nat.le_of_ble_eq_true rfl)) dX13_enough_63 ⟨Nat.zero_le _, Nat.zero_le _⟩) hS (fun H locs hP hD hT hS => ?_)
            have hZ := Option.some.inj h
            exact r_iret hx hb hr hlocks hP hK hD hT hG hS (congrArg Prod.fst hZ) (congrArg Prod.snd hZ) dX13_enough_66
          · replace h := ite_f c7 h
            refine lv_iconst (v := 1) hx hb dX13_enough_58 rfl ?_
            refine lv_goto (tgt := 63) hx hb dX13_enough_59 rfl ?_
            obtain ⟨z9, h9, h⟩ := ob_some h
            refine k_i (va_runV (As := [.int 1]) (rest := []) ⟨hx, hb, hml, hown, hts⟩ (c_X13_done (l := l) (pI M a0 0 0) a0 1 k0 h9) (cwV 1 hts gX13_enough_X13_done rfl rfl rfl hdV_X13_done ⟨Nat.le_of_ble_eq_true rfl, Nat.le_of_ble_eq_true rfl⟩) (pV (T := TX13) hP hK hD hT hG hS k0 (by decide) rfl) rfl rfl hl.1 rfl (lv_room (Nat.le_of_ble_eq_true rfl)) dX13_enough_63 ⟨Nat.zero_le _, Nat.zero_le _⟩) hS (fun H locs hP hD hT hS => ?_)
            have hZ := Option.some.inj h
            exact r_iret hx hb hr hlocks hP hK hD hT hG hS (congrArg Prod.fst hZ) (congrArg Prod.snd hZ) dX13_enough_66
      · replace h := ite_t c4 h
        refine lv_aload_n hx hb dX13_enough_30 rfl (lv_at hl 0 rfl) ?_
        refine lv_bipush (v := 6) hx hb dX13_enough_31 rfl ?_
        obtain ⟨z10, h10, h⟩ := ob_some h
        refine k_i (va_runV (As := [.int 6]) (rest := []) ⟨hx, hb, hml, hown, hts⟩ (c_X13_refused (l := l) (pI M a0 0 0) a0 6 k0 h10) (cwV 1 hts gX13_enough_X13_refused rfl rfl rfl hdV_X13_refused ⟨Nat.le_of_ble_eq_true rfl, Nat.le_of_ble_eq_true rfl⟩) (pV (T := TX13) hP hK hD hT hG hS k0 (by decide) rfl) rfl rfl hl.1 rfl (lv_room (Nat.le_of_ble_eq_true rfl)) dX13_enough_33 ⟨Nat.zero_le _, Nat.zero_le _⟩) hS (fun H locs hP hD hT hS => ?_)
        refine lv_goto (tgt := 66) hx hb dX13_enough_36 rfl ?_
        have hZ := Option.some.inj h
        exact r_iret hx hb hr hlocks hP hK hD hT hG hS (congrArg Prod.fst hZ) (congrArg Prod.snd hZ) dX13_enough_66
  · replace h := ite_t c2 h
    refine lv_aload_n hx hb dX13_enough_13 rfl (lv_at hl 0 rfl) ?_
    refine lv_iconst (v := 1) hx hb dX13_enough_14 rfl ?_
    obtain ⟨z11, h11, h⟩ := ob_some h
    refine k_i (va_runV (As := [.int 1]) (rest := []) ⟨hx, hb, hml, hown, hts⟩ (c_X13_refused (l := l) (pI M a0 0 0) a0 1 k0 h11) (cwV 1 hts gX13_enough_X13_refused rfl rfl rfl hdV_X13_refused ⟨Nat.le_of_ble_eq_true rfl, Nat.le_of_ble_eq_true rfl⟩) (pV (T := TX13) hP hK hD hT hG hS k0 (by decide) rfl) rfl rfl hl.1 rfl (lv_room (Nat.le_of_ble_eq_true rfl)) dX13_enough_15 ⟨Nat.zero_le _, Nat.zero_le _⟩) hS (fun H locs hP hD hT hS => ?_)
    have hZ := Option.some.inj h
    exact r_iret hx hb hr hlocks hP hK hD hT hG hS (congrArg Prod.fst hZ) (congrArg Prod.snd hZ) dX13_enough_18
set_option maxHeartbeats 4000000 in
set_option maxRecDepth 100000 in
theorem c_X13_treesAfter {l : Launch} {D : va_G} {ad : Nat → Nat} {cy : Nat → ClassId} {A : Nat → Prop} {g : CG} {q : SE} (M : MM) (a0 : Nat) (x1 : Int32) (x2 : Int32) (x3 : Int32) (k0 : ok g a0 13 0) {Z : Int32} (h : f_X13_treesAfter M a0 x1 x2 x3 = some Z) : Met l yX13_treesAfter wsX13_treesAfter ({ frames := 0, cells := 0, slots := 0, locals := 0 }) (va_Pc [.ref (ad a0), .int x1, .int x2, .int x3] (Wd D ad cy A g q M)) (va_Qi (fun r u => r = Z ∧ u = M) (Wd D ad cy A g q) A) 0 0 A := by
  refine Met.ofW (cc := cX13_treesAfter) (maxL := 9) (ret := (some .int)) (by decide) rfl ?_
  intro p e s m args below meth c s₁ B hml hv
  obtain ⟨rfl, hP, hK, hD, hT, hG⟩ := hv
  have hx := B.exec
  have hb := B.bytes
  have hr := B.returns
  have hts := atoms_spec (ws := wsX13_treesAfter) B.pre
  have hown : s.vm.findClass RX13 = some m.cls := findClass_of_methodNamed B.named
  have hlocks := B.notSynchronized
  have in12 : ∀ w ∈ u_ws RX12 TX12 48, w ∈ wsX13_treesAfter := fun w h => List.mem_cons_of_mem _ (List.mem_append_right _ h)
  have in13 : ∀ w ∈ u_ws RX13 TX13 29, w ∈ wsX13_treesAfter := fun w h => List.mem_cons_of_mem _ (List.mem_append_left _ (List.mem_append_right _ h))
  have hS : va_S A s.heap s.heap [] := va_S.rf
  have hl := lv_entry ([.ref (ad a0), .int x1, .int x2, .int x3]) (n := 9) (Nat.le_of_ble_eq_true rfl)
  rw [lg_entry_eq]
  generalize (lg_sl ([.ref (ad a0), .int x1, .int x2, .int x3]) ++ List.replicate (9 - (lg_sl ([.ref (ad a0), .int x1, .int x2, .int x3])).length) Slot.unset).toArray = ls at hl ⊢
  have hl : lv_has ls 9 [(0, .ref (ad a0)), (1, .int x1), (2, .int x2), (3, .int x3)] := hl
  unfold f_X13_treesAfter at h
  refine lv_aload_n hx hb dX13_treesAfter_0 rfl (lv_at hl 0 rfl) ?_
  rcases hN1 : gR M a0 3 with _ | b1
  · replace h := oc_n hN1 h
    refine r_get (T := TX13) (v := .null) hx hb hts in13 hown hK hP k0 (by decide) rfl 3 (by decide) (hts (.fieldLink RX13 431 "StoneWalkModel" "island" "LStoneWalkModel$Island;") (List.mem_of_getElem? (i := 1) (by decide +kernel))) rfl (t := 2) rfl (by show va_rf _ = _; rw [hN1]; rfl) dX13_treesAfter_1 ?_
    exact absurd h (by simp)
  · replace h := oc_s hN1 h
    have kb1 := hT.f k0 (k := 3) (t := 12) (n := 0) rfl hN1
    refine r_get (T := TX13) (v := .ref (ad b1)) hx hb hts in13 hown hK hP k0 (by decide) rfl 3 (by decide) (hts (.fieldLink RX13 431 "StoneWalkModel" "island" "LStoneWalkModel$Island;") (List.mem_of_getElem? (i := 1) (by decide +kernel))) rfl (t := 2) rfl (by show va_rf _ = _; rw [hN1]; rfl) dX13_treesAfter_1 ?_
    rcases hN2 : gR M b1 36 with _ | b2
    · exact absurd (oc_n hN2 h) (by simp)
    replace h := oc_s hN2 h
    have kb2 := hT.f kb1 (k := 36) (t := 15) (n := 5) rfl hN2
    refine r_getN (T := TX12) (v := .ref (ad b2)) hx hb hts in12 hown hK hP kb1 (by decide) rfl 36 (by decide) (hG.2.2.1 _ (List.mem_of_getElem? (i := 38) rfl)) rfl (t := 2) rfl (by show va_rf _ = _; rw [hN2]; rfl) dX13_treesAfter_4 ?_
    refine lv_iload_n hx hb dX13_treesAfter_7 rfl (lv_at hl 1 rfl) ?_
    obtain ⟨hn3, h⟩ := chk_some h
    refine r_iald hx hb hK hP kb2 hn3 dX13_treesAfter_8 ?_
    refine lv_istore (lv' := [(4, .int (gI M b2 (ix x1))), (0, .ref (ad a0)), (1, .int x1), (2, .int x2), (3, .int x3)]) hx hb dX13_treesAfter_9 hl (by decide) rfl (fun ls hl => ?_)
    refine lv_aload_n hx hb dX13_treesAfter_11 rfl (lv_at hl 1 rfl) ?_
    rcases hN4 : gR M a0 3 with _ | b4
    · replace h := oc_n hN4 h
      refine r_get (T := TX13) (v := .null) hx hb hts in13 hown hK hP k0 (by decide) rfl 3 (by decide) (hts (.fieldLink RX13 431 "StoneWalkModel" "island" "LStoneWalkModel$Island;") (List.mem_of_getElem? (i := 1) (by decide +kernel))) rfl (t := 2) rfl (by show va_rf _ = _; rw [hN4]; rfl) dX13_treesAfter_12 ?_
      exact absurd h (by simp)
    · replace h := oc_s hN4 h
      have kb4 := hT.f k0 (k := 3) (t := 12) (n := 0) rfl hN4
      refine r_get (T := TX13) (v := .ref (ad b4)) hx hb hts in13 hown hK hP k0 (by decide) rfl 3 (by decide) (hts (.fieldLink RX13 431 "StoneWalkModel" "island" "LStoneWalkModel$Island;") (List.mem_of_getElem? (i := 1) (by decide +kernel))) rfl (t := 2) rfl (by show va_rf _ = _; rw [hN4]; rfl) dX13_treesAfter_12 ?_
      rcases hN5 : gR M b4 37 with _ | b5
      · exact absurd (oc_n hN5 h) (by simp)
      replace h := oc_s hN5 h
      have kb5 := hT.f kb4 (k := 37) (t := 15) (n := 5) rfl hN5
      refine r_getN (T := TX12) (v := .ref (ad b5)) hx hb hts in12 hown hK hP kb4 (by decide) rfl 37 (by decide) (hG.2.2.1 _ (List.mem_of_getElem? (i := 39) rfl)) rfl (t := 2) rfl (by show va_rf _ = _; rw [hN5]; rfl) dX13_treesAfter_15 ?_
      refine lv_iload_n hx hb dX13_treesAfter_18 rfl (lv_at hl 2 rfl) ?_
      obtain ⟨hn6, h⟩ := chk_some h
      refine r_iald hx hb hK hP kb5 hn6 dX13_treesAfter_19 ?_
      refine lv_istore (lv' := [(5, .int (gI M b5 (ix x1))), (4, .int (gI M b2 (ix x1))), (0, .ref (ad a0)), (1, .int x1), (2, .int x2), (3, .int x3)]) hx hb dX13_treesAfter_20 hl (by decide) rfl (fun ls hl => ?_)
      refine lv_iload_n hx hb dX13_treesAfter_22 rfl (lv_at hl 4 rfl) ?_
      refine lv_aload_n hx hb dX13_treesAfter_23 rfl (lv_at hl 2 rfl) ?_
      rcases hN7 : gR M a0 3 with _ | b7
      · replace h := oc_n hN7 h
        refine r_get (T := TX13) (v := .null) hx hb hts in13 hown hK hP k0 (by decide) rfl 3 (by decide) (hts (.fieldLink RX13 431 "StoneWalkModel" "island" "LStoneWalkModel$Island;") (List.mem_of_getElem? (i := 1) (by decide +kernel))) rfl (t := 2) rfl (by show va_rf _ = _; rw [hN7]; rfl) dX13_treesAfter_24 ?_
        exact absurd h (by simp)
      · replace h := oc_s hN7 h
        have kb7 := hT.f k0 (k := 3) (t := 12) (n := 0) rfl hN7
        refine r_get (T := TX13) (v := .ref (ad b7)) hx hb hts in13 hown hK hP k0 (by decide) rfl 3 (by decide) (hts (.fieldLink RX13 431 "StoneWalkModel" "island" "LStoneWalkModel$Island;") (List.mem_of_getElem? (i := 1) (by decide +kernel))) rfl (t := 2) rfl (by show va_rf _ = _; rw [hN7]; rfl) dX13_treesAfter_24 ?_
        refine r_getN (T := TX12) (v := .int (gI M b7 28)) hx hb hts in12 hown hK hP kb7 (by decide) rfl 28 (by decide) (hG.2.2.1 _ (List.mem_of_getElem? (i := 29) rfl)) rfl (t := 0) rfl rfl dX13_treesAfter_27 ?_
        refine lv_imul hx hb dX13_treesAfter_30 ?_
        refine lv_bipush (v := 100) hx hb dX13_treesAfter_31 rfl ?_
        refine lv_idiv hx hb dX13_treesAfter_33 (by decide) ?_
        refine lv_istore (lv' := [(6, .int ((x2 * (gI M b7 28)) / 100)), (5, .int (gI M b5 (ix x1))), (4, .int (gI M b2 (ix x1))), (0, .ref (ad a0)), (1, .int x1), (2, .int x2), (3, .int x3)]) hx hb dX13_treesAfter_34 hl (by decide) rfl (fun ls hl => ?_)
        refine lv_iload hx hb dX13_treesAfter_36 (lv_at hl 2 rfl) ?_
        refine lv_iconst (v := 1) hx hb dX13_treesAfter_38 rfl ?_
        refine lv_icmp_ne (tgt := 55) hx hb dX13_treesAfter_39 rfl (fun c8 => ?_) (fun c8 => ?_)
        · replace h := ite_f c8 h
          refine lv_iload_n hx hb dX13_treesAfter_55 rfl (lv_at hl 5 rfl) ?_
          refine lv_iconst (v := 2) hx hb dX13_treesAfter_56 rfl ?_
          refine lv_imul hx hb dX13_treesAfter_57 ?_
          refine lv_bipush (v := 100) hx hb dX13_treesAfter_58 rfl ?_
          refine lv_idiv hx hb dX13_treesAfter_60 (by decide) ?_
          refine lv_istore (lv' := [(7, .int ((x2 * 2) / 100)), (6, .int ((x2 * (gI M b7 28)) / 100)), (5, .int (gI M b5 (ix x1))), (4, .int (gI M b2 (ix x1))), (0, .ref (ad a0)), (1, .int x1), (2, .int x2), (3, .int x3)]) hx hb dX13_treesAfter_61 hl (by decide) rfl (fun ls hl => ?_)
          refine lv_iload hx hb dX13_treesAfter_63 (lv_at hl 3 rfl) ?_
          refine lv_if_ne (tgt := 86) hx hb dX13_treesAfter_65 rfl (fun c9 => ?_) (fun c9 => ?_)
          · replace h := ite_f c9 h
            refine lv_iload hx hb dX13_treesAfter_86 (lv_at hl 3 rfl) ?_
            refine lv_iconst (v := 2) hx hb dX13_treesAfter_88 rfl ?_
            refine lv_icmp_ne (tgt := 118) hx hb dX13_treesAfter_89 rfl (fun c10 => ?_) (fun c10 => ?_)
            · replace h := ite_f c10 h
              refine lv_iload_n hx hb dX13_treesAfter_118 rfl (lv_at hl 6 rfl) ?_
              refine lv_iload hx hb dX13_treesAfter_119 (lv_at hl 1 rfl) ?_
              refine lv_iadd hx hb dX13_treesAfter_121 ?_
              refine lv_iload hx hb dX13_treesAfter_122 (lv_at hl 0 rfl) ?_
              refine lv_isub hx hb dX13_treesAfter_124 ?_
              refine lv_istore (lv' := [(8, .int ((x2 + ((x2 * (gI M b7 28)) / 100)) - ((x2 * 2) / 100))), (7, .int ((x2 * 2) / 100)), (6, .int ((x2 * (gI M b7 28)) / 100)), (5, .int (gI M b5 (ix x1))), (4, .int (gI M b2 (ix x1))), (0, .ref (ad a0)), (1, .int x1), (2, .int x2), (3, .int x3)]) hx hb dX13_treesAfter_125 hl (by decide) rfl (fun ls hl => ?_)
              refine lv_iload hx hb dX13_treesAfter_127 (lv_at hl 0 rfl) ?_
              refine lv_if_ge (tgt := 136) hx hb dX13_treesAfter_129 rfl (fun c11 => ?_) (fun c11 => ?_)
              · replace h := ite_t c11 h
                refine lv_iload hx hb dX13_treesAfter_136 (lv_at hl 0 rfl) ?_
                refine lv_sipush (v := 9999) hx hb dX13_treesAfter_138 rfl ?_
                refine lv_icmp_le (tgt := 150) hx hb dX13_treesAfter_141 rfl (fun c12 => ?_) (fun c12 => ?_)
                · replace h := ite_t c12 h
                  refine lv_iload hx hb dX13_treesAfter_150 (lv_at hl 0 rfl) ?_
                  exact r_iret hx hb hr hlocks hP hK hD hT hG hS (Option.some.inj h) rfl dX13_treesAfter_152
                · replace h := ite_f c12 h
                  refine lv_sipush (v := 9999) hx hb dX13_treesAfter_144 rfl ?_
                  refine lv_goto (tgt := 152) hx hb dX13_treesAfter_147 rfl ?_
                  exact r_iret hx hb hr hlocks hP hK hD hT hG hS (Option.some.inj h) rfl dX13_treesAfter_152
              · replace h := ite_f c11 h
                refine lv_iconst (v := 0) hx hb dX13_treesAfter_132 rfl ?_
                refine lv_goto (tgt := 152) hx hb dX13_treesAfter_133 rfl ?_
                exact r_iret hx hb hr hlocks hP hK hD hT hG hS (Option.some.inj h) rfl dX13_treesAfter_152
            · replace h := ite_t c10 h
              refine lv_iload_n hx hb dX13_treesAfter_92 rfl (lv_at hl 7 rfl) ?_
              refine lv_aload_n hx hb dX13_treesAfter_93 rfl (lv_at hl 4 rfl) ?_
              rcases hN13 : gR M a0 3 with _ | b13
              · replace h := oc_n hN13 h
                refine r_get (T := TX13) (v := .null) hx hb hts in13 hown hK hP k0 (by decide) rfl 3 (by decide) (hts (.fieldLink RX13 431 "StoneWalkModel" "island" "LStoneWalkModel$Island;") (List.mem_of_getElem? (i := 1) (by decide +kernel))) rfl (t := 2) rfl (by show va_rf _ = _; rw [hN13]; rfl) dX13_treesAfter_94 ?_
                exact absurd h (by simp)
              · replace h := oc_s hN13 h
                have kb13 := hT.f k0 (k := 3) (t := 12) (n := 0) rfl hN13
                refine r_get (T := TX13) (v := .ref (ad b13)) hx hb hts in13 hown hK hP k0 (by decide) rfl 3 (by decide) (hts (.fieldLink RX13 431 "StoneWalkModel" "island" "LStoneWalkModel$Island;") (List.mem_of_getElem? (i := 1) (by decide +kernel))) rfl (t := 2) rfl (by show va_rf _ = _; rw [hN13]; rfl) dX13_treesAfter_94 ?_
                rcases hN14 : gR M b13 38 with _ | b14
                · exact absurd (oc_n hN14 h) (by simp)
                replace h := oc_s hN14 h
                have kb14 := hT.f kb13 (k := 38) (t := 15) (n := 5) rfl hN14
                refine r_getN (T := TX12) (v := .ref (ad b14)) hx hb hts in12 hown hK hP kb13 (by decide) rfl 38 (by decide) (hG.2.2.1 _ (List.mem_of_getElem? (i := 40) rfl)) rfl (t := 2) rfl (by show va_rf _ = _; rw [hN14]; rfl) dX13_treesAfter_97 ?_
                refine lv_iload_n hx hb dX13_treesAfter_100 rfl (lv_at hl 5 rfl) ?_
                obtain ⟨hn15, h⟩ := chk_some h
                refine r_iald hx hb hK hP kb14 hn15 dX13_treesAfter_101 ?_
                obtain ⟨hn16, h⟩ := chk_some h
                refine lv_irem hx hb dX13_treesAfter_102 hn16 ?_
                refine lv_if_ne (tgt := 118) hx hb dX13_treesAfter_103 rfl (fun c17 => ?_) (fun c17 => ?_)
                · replace h := ite_f c17 h
                  refine lv_iload_n hx hb dX13_treesAfter_118 rfl (lv_at hl 6 rfl) ?_
                  refine lv_iload hx hb dX13_treesAfter_119 (lv_at hl 1 rfl) ?_
                  refine lv_iadd hx hb dX13_treesAfter_121 ?_
                  refine lv_iload hx hb dX13_treesAfter_122 (lv_at hl 0 rfl) ?_
                  refine lv_isub hx hb dX13_treesAfter_124 ?_
                  refine lv_istore (lv' := [(8, .int ((x2 + ((x2 * (gI M b7 28)) / 100)) - ((x2 * 2) / 100))), (7, .int ((x2 * 2) / 100)), (6, .int ((x2 * (gI M b7 28)) / 100)), (5, .int (gI M b5 (ix x1))), (4, .int (gI M b2 (ix x1))), (0, .ref (ad a0)), (1, .int x1), (2, .int x2), (3, .int x3)]) hx hb dX13_treesAfter_125 hl (by decide) rfl (fun ls hl => ?_)
                  refine lv_iload hx hb dX13_treesAfter_127 (lv_at hl 0 rfl) ?_
                  refine lv_if_ge (tgt := 136) hx hb dX13_treesAfter_129 rfl (fun c18 => ?_) (fun c18 => ?_)
                  · replace h := ite_t c18 h
                    refine lv_iload hx hb dX13_treesAfter_136 (lv_at hl 0 rfl) ?_
                    refine lv_sipush (v := 9999) hx hb dX13_treesAfter_138 rfl ?_
                    refine lv_icmp_le (tgt := 150) hx hb dX13_treesAfter_141 rfl (fun c19 => ?_) (fun c19 => ?_)
                    · replace h := ite_t c19 h
                      refine lv_iload hx hb dX13_treesAfter_150 (lv_at hl 0 rfl) ?_
                      exact r_iret hx hb hr hlocks hP hK hD hT hG hS (Option.some.inj h) rfl dX13_treesAfter_152
                    · replace h := ite_f c19 h
                      refine lv_sipush (v := 9999) hx hb dX13_treesAfter_144 rfl ?_
                      refine lv_goto (tgt := 152) hx hb dX13_treesAfter_147 rfl ?_
                      exact r_iret hx hb hr hlocks hP hK hD hT hG hS (Option.some.inj h) rfl dX13_treesAfter_152
                  · replace h := ite_f c18 h
                    refine lv_iconst (v := 0) hx hb dX13_treesAfter_132 rfl ?_
                    refine lv_goto (tgt := 152) hx hb dX13_treesAfter_133 rfl ?_
                    exact r_iret hx hb hr hlocks hP hK hD hT hG hS (Option.some.inj h) rfl dX13_treesAfter_152
                · replace h := ite_t c17 h
                  refine lv_iload hx hb dX13_treesAfter_106 (lv_at hl 0 rfl) ?_
                  refine lv_iload_n hx hb dX13_treesAfter_108 rfl (lv_at hl 6 rfl) ?_
                  refine lv_iload hx hb dX13_treesAfter_109 (lv_at hl 2 rfl) ?_
                  refine lv_imul hx hb dX13_treesAfter_111 ?_
                  refine lv_bipush (v := 100) hx hb dX13_treesAfter_112 rfl ?_
                  refine lv_idiv hx hb dX13_treesAfter_114 (by decide) ?_
                  refine lv_iadd hx hb dX13_treesAfter_115 ?_
                  refine lv_istore (lv' := [(7, .int (((x2 * 2) / 100) + ((x2 * (gI M b5 (ix x1))) / 100))), (6, .int ((x2 * (gI M b7 28)) / 100)), (5, .int (gI M b5 (ix x1))), (4, .int (gI M b2 (ix x1))), (0, .ref (ad a0)), (1, .int x1), (2, .int x2), (3, .int x3)]) hx hb dX13_treesAfter_116 hl (by decide) rfl (fun ls hl => ?_)
                  refine lv_iload_n hx hb dX13_treesAfter_118 rfl (lv_at hl 6 rfl) ?_
                  refine lv_iload hx hb dX13_treesAfter_119 (lv_at hl 1 rfl) ?_
                  refine lv_iadd hx hb dX13_treesAfter_121 ?_
                  refine lv_iload hx hb dX13_treesAfter_122 (lv_at hl 0 rfl) ?_
                  refine lv_isub hx hb dX13_treesAfter_124 ?_
                  refine lv_istore (lv' := [(8, .int ((x2 + ((x2 * (gI M b7 28)) / 100)) - (((x2 * 2) / 100) + ((x2 * (gI M b5 (ix x1))) / 100)))), (7, .int (((x2 * 2) / 100) + ((x2 * (gI M b5 (ix x1))) / 100))), (6, .int ((x2 * (gI M b7 28)) / 100)), (5, .int (gI M b5 (ix x1))), (4, .int (gI M b2 (ix x1))), (0, .ref (ad a0)), (1, .int x1), (2, .int x2), (3, .int x3)]) hx hb dX13_treesAfter_125 hl (by decide) rfl (fun ls hl => ?_)
                  refine lv_iload hx hb dX13_treesAfter_127 (lv_at hl 0 rfl) ?_
                  refine lv_if_ge (tgt := 136) hx hb dX13_treesAfter_129 rfl (fun c20 => ?_) (fun c20 => ?_)
                  · replace h := ite_t c20 h
                    refine lv_iload hx hb dX13_treesAfter_136 (lv_at hl 0 rfl) ?_
                    refine lv_sipush (v := 9999) hx hb dX13_treesAfter_138 rfl ?_
                    refine lv_icmp_le (tgt := 150) hx hb dX13_treesAfter_141 rfl (fun c21 => ?_) (fun c21 => ?_)
                    · replace h := ite_t c21 h
                      refine lv_iload hx hb dX13_treesAfter_150 (lv_at hl 0 rfl) ?_
                      exact r_iret hx hb hr hlocks hP hK hD hT hG hS (Option.some.inj h) rfl dX13_treesAfter_152
                    · replace h := ite_f c21 h
                      refine lv_sipush (v := 9999) hx hb dX13_treesAfter_144 rfl ?_
                      refine lv_goto (tgt := 152) hx hb dX13_treesAfter_147 rfl ?_
                      exact r_iret hx hb hr hlocks hP hK hD hT hG hS (Option.some.inj h) rfl dX13_treesAfter_152
                  · replace h := ite_f c20 h
                    refine lv_iconst (v := 0) hx hb dX13_treesAfter_132 rfl ?_
                    refine lv_goto (tgt := 152) hx hb dX13_treesAfter_133 rfl ?_
                    exact r_iret hx hb hr hlocks hP hK hD hT hG hS (Option.some.inj h) rfl dX13_treesAfter_152
          · replace h := ite_t c9 h
            refine lv_iload hx hb dX13_treesAfter_68 (lv_at hl 0 rfl) ?_
            refine lv_iload hx hb dX13_treesAfter_70 (lv_at hl 2 rfl) ?_
            refine lv_aload_n hx hb dX13_treesAfter_72 rfl (lv_at hl 4 rfl) ?_
            rcases hN22 : gR M a0 3 with _ | b22
            · replace h := oc_n hN22 h
              refine r_get (T := TX13) (v := .null) hx hb hts in13 hown hK hP k0 (by decide) rfl 3 (by decide) (hts (.fieldLink RX13 431 "StoneWalkModel" "island" "LStoneWalkModel$Island;") (List.mem_of_getElem? (i := 1) (by decide +kernel))) rfl (t := 2) rfl (by show va_rf _ = _; rw [hN22]; rfl) dX13_treesAfter_73 ?_
              exact absurd h (by simp)
            · replace h := oc_s hN22 h
              have kb22 := hT.f k0 (k := 3) (t := 12) (n := 0) rfl hN22
              refine r_get (T := TX13) (v := .ref (ad b22)) hx hb hts in13 hown hK hP k0 (by decide) rfl 3 (by decide) (hts (.fieldLink RX13 431 "StoneWalkModel" "island" "LStoneWalkModel$Island;") (List.mem_of_getElem? (i := 1) (by decide +kernel))) rfl (t := 2) rfl (by show va_rf _ = _; rw [hN22]; rfl) dX13_treesAfter_73 ?_
              refine r_getN (T := TX12) (v := .int (gI M b22 29)) hx hb hts in12 hown hK hP kb22 (by decide) rfl 29 (by decide) (hG.2.2.1 _ (List.mem_of_getElem? (i := 30) rfl)) rfl (t := 0) rfl rfl dX13_treesAfter_76 ?_
              refine lv_imul hx hb dX13_treesAfter_79 ?_
              refine lv_bipush (v := 100) hx hb dX13_treesAfter_80 rfl ?_
              refine lv_idiv hx hb dX13_treesAfter_82 (by decide) ?_
              refine lv_iadd hx hb dX13_treesAfter_83 ?_
              refine lv_istore (lv' := [(7, .int (((x2 * 2) / 100) + (((gI M b5 (ix x1)) * (gI M b22 29)) / 100))), (6, .int ((x2 * (gI M b7 28)) / 100)), (5, .int (gI M b5 (ix x1))), (4, .int (gI M b2 (ix x1))), (0, .ref (ad a0)), (1, .int x1), (2, .int x2), (3, .int x3)]) hx hb dX13_treesAfter_84 hl (by decide) rfl (fun ls hl => ?_)
              refine lv_iload hx hb dX13_treesAfter_86 (lv_at hl 3 rfl) ?_
              refine lv_iconst (v := 2) hx hb dX13_treesAfter_88 rfl ?_
              refine lv_icmp_ne (tgt := 118) hx hb dX13_treesAfter_89 rfl (fun c23 => ?_) (fun c23 => ?_)
              · replace h := ite_f c23 h
                refine lv_iload_n hx hb dX13_treesAfter_118 rfl (lv_at hl 6 rfl) ?_
                refine lv_iload hx hb dX13_treesAfter_119 (lv_at hl 1 rfl) ?_
                refine lv_iadd hx hb dX13_treesAfter_121 ?_
                refine lv_iload hx hb dX13_treesAfter_122 (lv_at hl 0 rfl) ?_
                refine lv_isub hx hb dX13_treesAfter_124 ?_
                refine lv_istore (lv' := [(8, .int ((x2 + ((x2 * (gI M b7 28)) / 100)) - (((x2 * 2) / 100) + (((gI M b5 (ix x1)) * (gI M b22 29)) / 100)))), (7, .int (((x2 * 2) / 100) + (((gI M b5 (ix x1)) * (gI M b22 29)) / 100))), (6, .int ((x2 * (gI M b7 28)) / 100)), (5, .int (gI M b5 (ix x1))), (4, .int (gI M b2 (ix x1))), (0, .ref (ad a0)), (1, .int x1), (2, .int x2), (3, .int x3)]) hx hb dX13_treesAfter_125 hl (by decide) rfl (fun ls hl => ?_)
                refine lv_iload hx hb dX13_treesAfter_127 (lv_at hl 0 rfl) ?_
                refine lv_if_ge (tgt := 136) hx hb dX13_treesAfter_129 rfl (fun c24 => ?_) (fun c24 => ?_)
                · replace h := ite_t c24 h
                  refine lv_iload hx hb dX13_treesAfter_136 (lv_at hl 0 rfl) ?_
                  refine lv_sipush (v := 9999) hx hb dX13_treesAfter_138 rfl ?_
                  refine lv_icmp_le (tgt := 150) hx hb dX13_treesAfter_141 rfl (fun c25 => ?_) (fun c25 => ?_)
                  · replace h := ite_t c25 h
                    refine lv_iload hx hb dX13_treesAfter_150 (lv_at hl 0 rfl) ?_
                    exact r_iret hx hb hr hlocks hP hK hD hT hG hS (Option.some.inj h) rfl dX13_treesAfter_152
                  · replace h := ite_f c25 h
                    refine lv_sipush (v := 9999) hx hb dX13_treesAfter_144 rfl ?_
                    refine lv_goto (tgt := 152) hx hb dX13_treesAfter_147 rfl ?_
                    exact r_iret hx hb hr hlocks hP hK hD hT hG hS (Option.some.inj h) rfl dX13_treesAfter_152
                · replace h := ite_f c24 h
                  refine lv_iconst (v := 0) hx hb dX13_treesAfter_132 rfl ?_
                  refine lv_goto (tgt := 152) hx hb dX13_treesAfter_133 rfl ?_
                  exact r_iret hx hb hr hlocks hP hK hD hT hG hS (Option.some.inj h) rfl dX13_treesAfter_152
              · replace h := ite_t c23 h
                refine lv_iload_n hx hb dX13_treesAfter_92 rfl (lv_at hl 7 rfl) ?_
                refine lv_aload_n hx hb dX13_treesAfter_93 rfl (lv_at hl 4 rfl) ?_
                rcases hN26 : gR M a0 3 with _ | b26
                · replace h := oc_n hN26 h
                  refine r_get (T := TX13) (v := .null) hx hb hts in13 hown hK hP k0 (by decide) rfl 3 (by decide) (hts (.fieldLink RX13 431 "StoneWalkModel" "island" "LStoneWalkModel$Island;") (List.mem_of_getElem? (i := 1) (by decide +kernel))) rfl (t := 2) rfl (by show va_rf _ = _; rw [hN26]; rfl) dX13_treesAfter_94 ?_
                  exact absurd h (by simp)
                · replace h := oc_s hN26 h
                  have kb26 := hT.f k0 (k := 3) (t := 12) (n := 0) rfl hN26
                  refine r_get (T := TX13) (v := .ref (ad b26)) hx hb hts in13 hown hK hP k0 (by decide) rfl 3 (by decide) (hts (.fieldLink RX13 431 "StoneWalkModel" "island" "LStoneWalkModel$Island;") (List.mem_of_getElem? (i := 1) (by decide +kernel))) rfl (t := 2) rfl (by show va_rf _ = _; rw [hN26]; rfl) dX13_treesAfter_94 ?_
                  rcases hN27 : gR M b26 38 with _ | b27
                  · exact absurd (oc_n hN27 h) (by simp)
                  replace h := oc_s hN27 h
                  have kb27 := hT.f kb26 (k := 38) (t := 15) (n := 5) rfl hN27
                  refine r_getN (T := TX12) (v := .ref (ad b27)) hx hb hts in12 hown hK hP kb26 (by decide) rfl 38 (by decide) (hG.2.2.1 _ (List.mem_of_getElem? (i := 40) rfl)) rfl (t := 2) rfl (by show va_rf _ = _; rw [hN27]; rfl) dX13_treesAfter_97 ?_
                  refine lv_iload_n hx hb dX13_treesAfter_100 rfl (lv_at hl 5 rfl) ?_
                  obtain ⟨hn28, h⟩ := chk_some h
                  refine r_iald hx hb hK hP kb27 hn28 dX13_treesAfter_101 ?_
                  obtain ⟨hn29, h⟩ := chk_some h
                  refine lv_irem hx hb dX13_treesAfter_102 hn29 ?_
                  refine lv_if_ne (tgt := 118) hx hb dX13_treesAfter_103 rfl (fun c30 => ?_) (fun c30 => ?_)
                  · replace h := ite_f c30 h
                    refine lv_iload_n hx hb dX13_treesAfter_118 rfl (lv_at hl 6 rfl) ?_
                    refine lv_iload hx hb dX13_treesAfter_119 (lv_at hl 1 rfl) ?_
                    refine lv_iadd hx hb dX13_treesAfter_121 ?_
                    refine lv_iload hx hb dX13_treesAfter_122 (lv_at hl 0 rfl) ?_
                    refine lv_isub hx hb dX13_treesAfter_124 ?_
                    refine lv_istore (lv' := [(8, .int ((x2 + ((x2 * (gI M b7 28)) / 100)) - (((x2 * 2) / 100) + (((gI M b5 (ix x1)) * (gI M b22 29)) / 100)))), (7, .int (((x2 * 2) / 100) + (((gI M b5 (ix x1)) * (gI M b22 29)) / 100))), (6, .int ((x2 * (gI M b7 28)) / 100)), (5, .int (gI M b5 (ix x1))), (4, .int (gI M b2 (ix x1))), (0, .ref (ad a0)), (1, .int x1), (2, .int x2), (3, .int x3)]) hx hb dX13_treesAfter_125 hl (by decide) rfl (fun ls hl => ?_)
                    refine lv_iload hx hb dX13_treesAfter_127 (lv_at hl 0 rfl) ?_
                    refine lv_if_ge (tgt := 136) hx hb dX13_treesAfter_129 rfl (fun c31 => ?_) (fun c31 => ?_)
                    · replace h := ite_t c31 h
                      refine lv_iload hx hb dX13_treesAfter_136 (lv_at hl 0 rfl) ?_
                      refine lv_sipush (v := 9999) hx hb dX13_treesAfter_138 rfl ?_
                      refine lv_icmp_le (tgt := 150) hx hb dX13_treesAfter_141 rfl (fun c32 => ?_) (fun c32 => ?_)
                      · replace h := ite_t c32 h
                        refine lv_iload hx hb dX13_treesAfter_150 (lv_at hl 0 rfl) ?_
                        exact r_iret hx hb hr hlocks hP hK hD hT hG hS (Option.some.inj h) rfl dX13_treesAfter_152
                      · replace h := ite_f c32 h
                        refine lv_sipush (v := 9999) hx hb dX13_treesAfter_144 rfl ?_
                        refine lv_goto (tgt := 152) hx hb dX13_treesAfter_147 rfl ?_
                        exact r_iret hx hb hr hlocks hP hK hD hT hG hS (Option.some.inj h) rfl dX13_treesAfter_152
                    · replace h := ite_f c31 h
                      refine lv_iconst (v := 0) hx hb dX13_treesAfter_132 rfl ?_
                      refine lv_goto (tgt := 152) hx hb dX13_treesAfter_133 rfl ?_
                      exact r_iret hx hb hr hlocks hP hK hD hT hG hS (Option.some.inj h) rfl dX13_treesAfter_152
                  · replace h := ite_t c30 h
                    refine lv_iload hx hb dX13_treesAfter_106 (lv_at hl 0 rfl) ?_
                    refine lv_iload_n hx hb dX13_treesAfter_108 rfl (lv_at hl 6 rfl) ?_
                    refine lv_iload hx hb dX13_treesAfter_109 (lv_at hl 2 rfl) ?_
                    refine lv_imul hx hb dX13_treesAfter_111 ?_
                    refine lv_bipush (v := 100) hx hb dX13_treesAfter_112 rfl ?_
                    refine lv_idiv hx hb dX13_treesAfter_114 (by decide) ?_
                    refine lv_iadd hx hb dX13_treesAfter_115 ?_
                    refine lv_istore (lv' := [(7, .int ((((x2 * 2) / 100) + (((gI M b5 (ix x1)) * (gI M b22 29)) / 100)) + ((x2 * (gI M b5 (ix x1))) / 100))), (6, .int ((x2 * (gI M b7 28)) / 100)), (5, .int (gI M b5 (ix x1))), (4, .int (gI M b2 (ix x1))), (0, .ref (ad a0)), (1, .int x1), (2, .int x2), (3, .int x3)]) hx hb dX13_treesAfter_116 hl (by decide) rfl (fun ls hl => ?_)
                    refine lv_iload_n hx hb dX13_treesAfter_118 rfl (lv_at hl 6 rfl) ?_
                    refine lv_iload hx hb dX13_treesAfter_119 (lv_at hl 1 rfl) ?_
                    refine lv_iadd hx hb dX13_treesAfter_121 ?_
                    refine lv_iload hx hb dX13_treesAfter_122 (lv_at hl 0 rfl) ?_
                    refine lv_isub hx hb dX13_treesAfter_124 ?_
                    refine lv_istore (lv' := [(8, .int ((x2 + ((x2 * (gI M b7 28)) / 100)) - ((((x2 * 2) / 100) + (((gI M b5 (ix x1)) * (gI M b22 29)) / 100)) + ((x2 * (gI M b5 (ix x1))) / 100)))), (7, .int ((((x2 * 2) / 100) + (((gI M b5 (ix x1)) * (gI M b22 29)) / 100)) + ((x2 * (gI M b5 (ix x1))) / 100))), (6, .int ((x2 * (gI M b7 28)) / 100)), (5, .int (gI M b5 (ix x1))), (4, .int (gI M b2 (ix x1))), (0, .ref (ad a0)), (1, .int x1), (2, .int x2), (3, .int x3)]) hx hb dX13_treesAfter_125 hl (by decide) rfl (fun ls hl => ?_)
                    refine lv_iload hx hb dX13_treesAfter_127 (lv_at hl 0 rfl) ?_
                    refine lv_if_ge (tgt := 136) hx hb dX13_treesAfter_129 rfl (fun c33 => ?_) (fun c33 => ?_)
                    · replace h := ite_t c33 h
                      refine lv_iload hx hb dX13_treesAfter_136 (lv_at hl 0 rfl) ?_
                      refine lv_sipush (v := 9999) hx hb dX13_treesAfter_138 rfl ?_
                      refine lv_icmp_le (tgt := 150) hx hb dX13_treesAfter_141 rfl (fun c34 => ?_) (fun c34 => ?_)
                      · replace h := ite_t c34 h
                        refine lv_iload hx hb dX13_treesAfter_150 (lv_at hl 0 rfl) ?_
                        exact r_iret hx hb hr hlocks hP hK hD hT hG hS (Option.some.inj h) rfl dX13_treesAfter_152
                      · replace h := ite_f c34 h
                        refine lv_sipush (v := 9999) hx hb dX13_treesAfter_144 rfl ?_
                        refine lv_goto (tgt := 152) hx hb dX13_treesAfter_147 rfl ?_
                        exact r_iret hx hb hr hlocks hP hK hD hT hG hS (Option.some.inj h) rfl dX13_treesAfter_152
                    · replace h := ite_f c33 h
                      refine lv_iconst (v := 0) hx hb dX13_treesAfter_132 rfl ?_
                      refine lv_goto (tgt := 152) hx hb dX13_treesAfter_133 rfl ?_
                      exact r_iret hx hb hr hlocks hP hK hD hT hG hS (Option.some.inj h) rfl dX13_treesAfter_152
        · replace h := ite_t c8 h
          refine lv_iload hx hb dX13_treesAfter_42 (lv_at hl 0 rfl) ?_
          refine lv_bipush (v := 100) hx hb dX13_treesAfter_44 rfl ?_
          refine lv_iload hx hb dX13_treesAfter_46 (lv_at hl 1 rfl) ?_
          refine lv_isub hx hb dX13_treesAfter_48 ?_
          refine lv_imul hx hb dX13_treesAfter_49 ?_
          refine lv_bipush (v := 100) hx hb dX13_treesAfter_50 rfl ?_
          refine lv_idiv hx hb dX13_treesAfter_52 (by decide) ?_
          refine lv_istore (lv' := [(6, .int ((((x2 * (gI M b7 28)) / 100) * (100 - (gI M b5 (ix x1)))) / 100)), (5, .int (gI M b5 (ix x1))), (4, .int (gI M b2 (ix x1))), (0, .ref (ad a0)), (1, .int x1), (2, .int x2), (3, .int x3)]) hx hb dX13_treesAfter_53 hl (by decide) rfl (fun ls hl => ?_)
          refine lv_iload_n hx hb dX13_treesAfter_55 rfl (lv_at hl 5 rfl) ?_
          refine lv_iconst (v := 2) hx hb dX13_treesAfter_56 rfl ?_
          refine lv_imul hx hb dX13_treesAfter_57 ?_
          refine lv_bipush (v := 100) hx hb dX13_treesAfter_58 rfl ?_
          refine lv_idiv hx hb dX13_treesAfter_60 (by decide) ?_
          refine lv_istore (lv' := [(7, .int ((x2 * 2) / 100)), (6, .int ((((x2 * (gI M b7 28)) / 100) * (100 - (gI M b5 (ix x1)))) / 100)), (5, .int (gI M b5 (ix x1))), (4, .int (gI M b2 (ix x1))), (0, .ref (ad a0)), (1, .int x1), (2, .int x2), (3, .int x3)]) hx hb dX13_treesAfter_61 hl (by decide) rfl (fun ls hl => ?_)
          refine lv_iload hx hb dX13_treesAfter_63 (lv_at hl 3 rfl) ?_
          refine lv_if_ne (tgt := 86) hx hb dX13_treesAfter_65 rfl (fun c35 => ?_) (fun c35 => ?_)
          · replace h := ite_f c35 h
            refine lv_iload hx hb dX13_treesAfter_86 (lv_at hl 3 rfl) ?_
            refine lv_iconst (v := 2) hx hb dX13_treesAfter_88 rfl ?_
            refine lv_icmp_ne (tgt := 118) hx hb dX13_treesAfter_89 rfl (fun c36 => ?_) (fun c36 => ?_)
            · replace h := ite_f c36 h
              refine lv_iload_n hx hb dX13_treesAfter_118 rfl (lv_at hl 6 rfl) ?_
              refine lv_iload hx hb dX13_treesAfter_119 (lv_at hl 1 rfl) ?_
              refine lv_iadd hx hb dX13_treesAfter_121 ?_
              refine lv_iload hx hb dX13_treesAfter_122 (lv_at hl 0 rfl) ?_
              refine lv_isub hx hb dX13_treesAfter_124 ?_
              refine lv_istore (lv' := [(8, .int ((x2 + ((((x2 * (gI M b7 28)) / 100) * (100 - (gI M b5 (ix x1)))) / 100)) - ((x2 * 2) / 100))), (7, .int ((x2 * 2) / 100)), (6, .int ((((x2 * (gI M b7 28)) / 100) * (100 - (gI M b5 (ix x1)))) / 100)), (5, .int (gI M b5 (ix x1))), (4, .int (gI M b2 (ix x1))), (0, .ref (ad a0)), (1, .int x1), (2, .int x2), (3, .int x3)]) hx hb dX13_treesAfter_125 hl (by decide) rfl (fun ls hl => ?_)
              refine lv_iload hx hb dX13_treesAfter_127 (lv_at hl 0 rfl) ?_
              refine lv_if_ge (tgt := 136) hx hb dX13_treesAfter_129 rfl (fun c37 => ?_) (fun c37 => ?_)
              · replace h := ite_t c37 h
                refine lv_iload hx hb dX13_treesAfter_136 (lv_at hl 0 rfl) ?_
                refine lv_sipush (v := 9999) hx hb dX13_treesAfter_138 rfl ?_
                refine lv_icmp_le (tgt := 150) hx hb dX13_treesAfter_141 rfl (fun c38 => ?_) (fun c38 => ?_)
                · replace h := ite_t c38 h
                  refine lv_iload hx hb dX13_treesAfter_150 (lv_at hl 0 rfl) ?_
                  exact r_iret hx hb hr hlocks hP hK hD hT hG hS (Option.some.inj h) rfl dX13_treesAfter_152
                · replace h := ite_f c38 h
                  refine lv_sipush (v := 9999) hx hb dX13_treesAfter_144 rfl ?_
                  refine lv_goto (tgt := 152) hx hb dX13_treesAfter_147 rfl ?_
                  exact r_iret hx hb hr hlocks hP hK hD hT hG hS (Option.some.inj h) rfl dX13_treesAfter_152
              · replace h := ite_f c37 h
                refine lv_iconst (v := 0) hx hb dX13_treesAfter_132 rfl ?_
                refine lv_goto (tgt := 152) hx hb dX13_treesAfter_133 rfl ?_
                exact r_iret hx hb hr hlocks hP hK hD hT hG hS (Option.some.inj h) rfl dX13_treesAfter_152
            · replace h := ite_t c36 h
              refine lv_iload_n hx hb dX13_treesAfter_92 rfl (lv_at hl 7 rfl) ?_
              refine lv_aload_n hx hb dX13_treesAfter_93 rfl (lv_at hl 4 rfl) ?_
              rcases hN39 : gR M a0 3 with _ | b39
              · replace h := oc_n hN39 h
                refine r_get (T := TX13) (v := .null) hx hb hts in13 hown hK hP k0 (by decide) rfl 3 (by decide) (hts (.fieldLink RX13 431 "StoneWalkModel" "island" "LStoneWalkModel$Island;") (List.mem_of_getElem? (i := 1) (by decide +kernel))) rfl (t := 2) rfl (by show va_rf _ = _; rw [hN39]; rfl) dX13_treesAfter_94 ?_
                exact absurd h (by simp)
              · replace h := oc_s hN39 h
                have kb39 := hT.f k0 (k := 3) (t := 12) (n := 0) rfl hN39
                refine r_get (T := TX13) (v := .ref (ad b39)) hx hb hts in13 hown hK hP k0 (by decide) rfl 3 (by decide) (hts (.fieldLink RX13 431 "StoneWalkModel" "island" "LStoneWalkModel$Island;") (List.mem_of_getElem? (i := 1) (by decide +kernel))) rfl (t := 2) rfl (by show va_rf _ = _; rw [hN39]; rfl) dX13_treesAfter_94 ?_
                rcases hN40 : gR M b39 38 with _ | b40
                · exact absurd (oc_n hN40 h) (by simp)
                replace h := oc_s hN40 h
                have kb40 := hT.f kb39 (k := 38) (t := 15) (n := 5) rfl hN40
                refine r_getN (T := TX12) (v := .ref (ad b40)) hx hb hts in12 hown hK hP kb39 (by decide) rfl 38 (by decide) (hG.2.2.1 _ (List.mem_of_getElem? (i := 40) rfl)) rfl (t := 2) rfl (by show va_rf _ = _; rw [hN40]; rfl) dX13_treesAfter_97 ?_
                refine lv_iload_n hx hb dX13_treesAfter_100 rfl (lv_at hl 5 rfl) ?_
                obtain ⟨hn41, h⟩ := chk_some h
                refine r_iald hx hb hK hP kb40 hn41 dX13_treesAfter_101 ?_
                obtain ⟨hn42, h⟩ := chk_some h
                refine lv_irem hx hb dX13_treesAfter_102 hn42 ?_
                refine lv_if_ne (tgt := 118) hx hb dX13_treesAfter_103 rfl (fun c43 => ?_) (fun c43 => ?_)
                · replace h := ite_f c43 h
                  refine lv_iload_n hx hb dX13_treesAfter_118 rfl (lv_at hl 6 rfl) ?_
                  refine lv_iload hx hb dX13_treesAfter_119 (lv_at hl 1 rfl) ?_
                  refine lv_iadd hx hb dX13_treesAfter_121 ?_
                  refine lv_iload hx hb dX13_treesAfter_122 (lv_at hl 0 rfl) ?_
                  refine lv_isub hx hb dX13_treesAfter_124 ?_
                  refine lv_istore (lv' := [(8, .int ((x2 + ((((x2 * (gI M b7 28)) / 100) * (100 - (gI M b5 (ix x1)))) / 100)) - ((x2 * 2) / 100))), (7, .int ((x2 * 2) / 100)), (6, .int ((((x2 * (gI M b7 28)) / 100) * (100 - (gI M b5 (ix x1)))) / 100)), (5, .int (gI M b5 (ix x1))), (4, .int (gI M b2 (ix x1))), (0, .ref (ad a0)), (1, .int x1), (2, .int x2), (3, .int x3)]) hx hb dX13_treesAfter_125 hl (by decide) rfl (fun ls hl => ?_)
                  refine lv_iload hx hb dX13_treesAfter_127 (lv_at hl 0 rfl) ?_
                  refine lv_if_ge (tgt := 136) hx hb dX13_treesAfter_129 rfl (fun c44 => ?_) (fun c44 => ?_)
                  · replace h := ite_t c44 h
                    refine lv_iload hx hb dX13_treesAfter_136 (lv_at hl 0 rfl) ?_
                    refine lv_sipush (v := 9999) hx hb dX13_treesAfter_138 rfl ?_
                    refine lv_icmp_le (tgt := 150) hx hb dX13_treesAfter_141 rfl (fun c45 => ?_) (fun c45 => ?_)
                    · replace h := ite_t c45 h
                      refine lv_iload hx hb dX13_treesAfter_150 (lv_at hl 0 rfl) ?_
                      exact r_iret hx hb hr hlocks hP hK hD hT hG hS (Option.some.inj h) rfl dX13_treesAfter_152
                    · replace h := ite_f c45 h
                      refine lv_sipush (v := 9999) hx hb dX13_treesAfter_144 rfl ?_
                      refine lv_goto (tgt := 152) hx hb dX13_treesAfter_147 rfl ?_
                      exact r_iret hx hb hr hlocks hP hK hD hT hG hS (Option.some.inj h) rfl dX13_treesAfter_152
                  · replace h := ite_f c44 h
                    refine lv_iconst (v := 0) hx hb dX13_treesAfter_132 rfl ?_
                    refine lv_goto (tgt := 152) hx hb dX13_treesAfter_133 rfl ?_
                    exact r_iret hx hb hr hlocks hP hK hD hT hG hS (Option.some.inj h) rfl dX13_treesAfter_152
                · replace h := ite_t c43 h
                  refine lv_iload hx hb dX13_treesAfter_106 (lv_at hl 0 rfl) ?_
                  refine lv_iload_n hx hb dX13_treesAfter_108 rfl (lv_at hl 6 rfl) ?_
                  refine lv_iload hx hb dX13_treesAfter_109 (lv_at hl 2 rfl) ?_
                  refine lv_imul hx hb dX13_treesAfter_111 ?_
                  refine lv_bipush (v := 100) hx hb dX13_treesAfter_112 rfl ?_
                  refine lv_idiv hx hb dX13_treesAfter_114 (by decide) ?_
                  refine lv_iadd hx hb dX13_treesAfter_115 ?_
                  refine lv_istore (lv' := [(7, .int (((x2 * 2) / 100) + ((x2 * (gI M b5 (ix x1))) / 100))), (6, .int ((((x2 * (gI M b7 28)) / 100) * (100 - (gI M b5 (ix x1)))) / 100)), (5, .int (gI M b5 (ix x1))), (4, .int (gI M b2 (ix x1))), (0, .ref (ad a0)), (1, .int x1), (2, .int x2), (3, .int x3)]) hx hb dX13_treesAfter_116 hl (by decide) rfl (fun ls hl => ?_)
                  refine lv_iload_n hx hb dX13_treesAfter_118 rfl (lv_at hl 6 rfl) ?_
                  refine lv_iload hx hb dX13_treesAfter_119 (lv_at hl 1 rfl) ?_
                  refine lv_iadd hx hb dX13_treesAfter_121 ?_
                  refine lv_iload hx hb dX13_treesAfter_122 (lv_at hl 0 rfl) ?_
                  refine lv_isub hx hb dX13_treesAfter_124 ?_
                  refine lv_istore (lv' := [(8, .int ((x2 + ((((x2 * (gI M b7 28)) / 100) * (100 - (gI M b5 (ix x1)))) / 100)) - (((x2 * 2) / 100) + ((x2 * (gI M b5 (ix x1))) / 100)))), (7, .int (((x2 * 2) / 100) + ((x2 * (gI M b5 (ix x1))) / 100))), (6, .int ((((x2 * (gI M b7 28)) / 100) * (100 - (gI M b5 (ix x1)))) / 100)), (5, .int (gI M b5 (ix x1))), (4, .int (gI M b2 (ix x1))), (0, .ref (ad a0)), (1, .int x1), (2, .int x2), (3, .int x3)]) hx hb dX13_treesAfter_125 hl (by decide) rfl (fun ls hl => ?_)
                  refine lv_iload hx hb dX13_treesAfter_127 (lv_at hl 0 rfl) ?_
                  refine lv_if_ge (tgt := 136) hx hb dX13_treesAfter_129 rfl (fun c46 => ?_) (fun c46 => ?_)
                  · replace h := ite_t c46 h
                    refine lv_iload hx hb dX13_treesAfter_136 (lv_at hl 0 rfl) ?_
                    refine lv_sipush (v := 9999) hx hb dX13_treesAfter_138 rfl ?_
                    refine lv_icmp_le (tgt := 150) hx hb dX13_treesAfter_141 rfl (fun c47 => ?_) (fun c47 => ?_)
                    · replace h := ite_t c47 h
                      refine lv_iload hx hb dX13_treesAfter_150 (lv_at hl 0 rfl) ?_
                      exact r_iret hx hb hr hlocks hP hK hD hT hG hS (Option.some.inj h) rfl dX13_treesAfter_152
                    · replace h := ite_f c47 h
                      refine lv_sipush (v := 9999) hx hb dX13_treesAfter_144 rfl ?_
                      refine lv_goto (tgt := 152) hx hb dX13_treesAfter_147 rfl ?_
                      exact r_iret hx hb hr hlocks hP hK hD hT hG hS (Option.some.inj h) rfl dX13_treesAfter_152
                  · replace h := ite_f c46 h
                    refine lv_iconst (v := 0) hx hb dX13_treesAfter_132 rfl ?_
                    refine lv_goto (tgt := 152) hx hb dX13_treesAfter_133 rfl ?_
                    exact r_iret hx hb hr hlocks hP hK hD hT hG hS (Option.some.inj h) rfl dX13_treesAfter_152
          · replace h := ite_t c35 h
            refine lv_iload hx hb dX13_treesAfter_68 (lv_at hl 0 rfl) ?_
            refine lv_iload hx hb dX13_treesAfter_70 (lv_at hl 2 rfl) ?_
            refine lv_aload_n hx hb dX13_treesAfter_72 rfl (lv_at hl 4 rfl) ?_
            rcases hN48 : gR M a0 3 with _ | b48
            · replace h := oc_n hN48 h
              refine r_get (T := TX13) (v := .null) hx hb hts in13 hown hK hP k0 (by decide) rfl 3 (by decide) (hts (.fieldLink RX13 431 "StoneWalkModel" "island" "LStoneWalkModel$Island;") (List.mem_of_getElem? (i := 1) (by decide +kernel))) rfl (t := 2) rfl (by show va_rf _ = _; rw [hN48]; rfl) dX13_treesAfter_73 ?_
              exact absurd h (by simp)
            · replace h := oc_s hN48 h
              have kb48 := hT.f k0 (k := 3) (t := 12) (n := 0) rfl hN48
              refine r_get (T := TX13) (v := .ref (ad b48)) hx hb hts in13 hown hK hP k0 (by decide) rfl 3 (by decide) (hts (.fieldLink RX13 431 "StoneWalkModel" "island" "LStoneWalkModel$Island;") (List.mem_of_getElem? (i := 1) (by decide +kernel))) rfl (t := 2) rfl (by show va_rf _ = _; rw [hN48]; rfl) dX13_treesAfter_73 ?_
              refine r_getN (T := TX12) (v := .int (gI M b48 29)) hx hb hts in12 hown hK hP kb48 (by decide) rfl 29 (by decide) (hG.2.2.1 _ (List.mem_of_getElem? (i := 30) rfl)) rfl (t := 0) rfl rfl dX13_treesAfter_76 ?_
              refine lv_imul hx hb dX13_treesAfter_79 ?_
              refine lv_bipush (v := 100) hx hb dX13_treesAfter_80 rfl ?_
              refine lv_idiv hx hb dX13_treesAfter_82 (by decide) ?_
              refine lv_iadd hx hb dX13_treesAfter_83 ?_
              refine lv_istore (lv' := [(7, .int (((x2 * 2) / 100) + (((gI M b5 (ix x1)) * (gI M b48 29)) / 100))), (6, .int ((((x2 * (gI M b7 28)) / 100) * (100 - (gI M b5 (ix x1)))) / 100)), (5, .int (gI M b5 (ix x1))), (4, .int (gI M b2 (ix x1))), (0, .ref (ad a0)), (1, .int x1), (2, .int x2), (3, .int x3)]) hx hb dX13_treesAfter_84 hl (by decide) rfl (fun ls hl => ?_)
              refine lv_iload hx hb dX13_treesAfter_86 (lv_at hl 3 rfl) ?_
              refine lv_iconst (v := 2) hx hb dX13_treesAfter_88 rfl ?_
              refine lv_icmp_ne (tgt := 118) hx hb dX13_treesAfter_89 rfl (fun c49 => ?_) (fun c49 => ?_)
              · replace h := ite_f c49 h
                refine lv_iload_n hx hb dX13_treesAfter_118 rfl (lv_at hl 6 rfl) ?_
                refine lv_iload hx hb dX13_treesAfter_119 (lv_at hl 1 rfl) ?_
                refine lv_iadd hx hb dX13_treesAfter_121 ?_
                refine lv_iload hx hb dX13_treesAfter_122 (lv_at hl 0 rfl) ?_
                refine lv_isub hx hb dX13_treesAfter_124 ?_
                refine lv_istore (lv' := [(8, .int ((x2 + ((((x2 * (gI M b7 28)) / 100) * (100 - (gI M b5 (ix x1)))) / 100)) - (((x2 * 2) / 100) + (((gI M b5 (ix x1)) * (gI M b48 29)) / 100)))), (7, .int (((x2 * 2) / 100) + (((gI M b5 (ix x1)) * (gI M b48 29)) / 100))), (6, .int ((((x2 * (gI M b7 28)) / 100) * (100 - (gI M b5 (ix x1)))) / 100)), (5, .int (gI M b5 (ix x1))), (4, .int (gI M b2 (ix x1))), (0, .ref (ad a0)), (1, .int x1), (2, .int x2), (3, .int x3)]) hx hb dX13_treesAfter_125 hl (by decide) rfl (fun ls hl => ?_)
                refine lv_iload hx hb dX13_treesAfter_127 (lv_at hl 0 rfl) ?_
                refine lv_if_ge (tgt := 136) hx hb dX13_treesAfter_129 rfl (fun c50 => ?_) (fun c50 => ?_)
                · replace h := ite_t c50 h
                  refine lv_iload hx hb dX13_treesAfter_136 (lv_at hl 0 rfl) ?_
                  refine lv_sipush (v := 9999) hx hb dX13_treesAfter_138 rfl ?_
                  refine lv_icmp_le (tgt := 150) hx hb dX13_treesAfter_141 rfl (fun c51 => ?_) (fun c51 => ?_)
                  · replace h := ite_t c51 h
                    refine lv_iload hx hb dX13_treesAfter_150 (lv_at hl 0 rfl) ?_
                    exact r_iret hx hb hr hlocks hP hK hD hT hG hS (Option.some.inj h) rfl dX13_treesAfter_152
                  · replace h := ite_f c51 h
                    refine lv_sipush (v := 9999) hx hb dX13_treesAfter_144 rfl ?_
                    refine lv_goto (tgt := 152) hx hb dX13_treesAfter_147 rfl ?_
                    exact r_iret hx hb hr hlocks hP hK hD hT hG hS (Option.some.inj h) rfl dX13_treesAfter_152
                · replace h := ite_f c50 h
                  refine lv_iconst (v := 0) hx hb dX13_treesAfter_132 rfl ?_
                  refine lv_goto (tgt := 152) hx hb dX13_treesAfter_133 rfl ?_
                  exact r_iret hx hb hr hlocks hP hK hD hT hG hS (Option.some.inj h) rfl dX13_treesAfter_152
              · replace h := ite_t c49 h
                refine lv_iload_n hx hb dX13_treesAfter_92 rfl (lv_at hl 7 rfl) ?_
                refine lv_aload_n hx hb dX13_treesAfter_93 rfl (lv_at hl 4 rfl) ?_
                rcases hN52 : gR M a0 3 with _ | b52
                · replace h := oc_n hN52 h
                  refine r_get (T := TX13) (v := .null) hx hb hts in13 hown hK hP k0 (by decide) rfl 3 (by decide) (hts (.fieldLink RX13 431 "StoneWalkModel" "island" "LStoneWalkModel$Island;") (List.mem_of_getElem? (i := 1) (by decide +kernel))) rfl (t := 2) rfl (by show va_rf _ = _; rw [hN52]; rfl) dX13_treesAfter_94 ?_
                  exact absurd h (by simp)
                · replace h := oc_s hN52 h
                  have kb52 := hT.f k0 (k := 3) (t := 12) (n := 0) rfl hN52
                  refine r_get (T := TX13) (v := .ref (ad b52)) hx hb hts in13 hown hK hP k0 (by decide) rfl 3 (by decide) (hts (.fieldLink RX13 431 "StoneWalkModel" "island" "LStoneWalkModel$Island;") (List.mem_of_getElem? (i := 1) (by decide +kernel))) rfl (t := 2) rfl (by show va_rf _ = _; rw [hN52]; rfl) dX13_treesAfter_94 ?_
                  rcases hN53 : gR M b52 38 with _ | b53
                  · exact absurd (oc_n hN53 h) (by simp)
                  replace h := oc_s hN53 h
                  have kb53 := hT.f kb52 (k := 38) (t := 15) (n := 5) rfl hN53
                  refine r_getN (T := TX12) (v := .ref (ad b53)) hx hb hts in12 hown hK hP kb52 (by decide) rfl 38 (by decide) (hG.2.2.1 _ (List.mem_of_getElem? (i := 40) rfl)) rfl (t := 2) rfl (by show va_rf _ = _; rw [hN53]; rfl) dX13_treesAfter_97 ?_
                  refine lv_iload_n hx hb dX13_treesAfter_100 rfl (lv_at hl 5 rfl) ?_
                  obtain ⟨hn54, h⟩ := chk_some h
                  refine r_iald hx hb hK hP kb53 hn54 dX13_treesAfter_101 ?_
                  obtain ⟨hn55, h⟩ := chk_some h
                  refine lv_irem hx hb dX13_treesAfter_102 hn55 ?_
                  refine lv_if_ne (tgt := 118) hx hb dX13_treesAfter_103 rfl (fun c56 => ?_) (fun c56 => ?_)
                  · replace h := ite_f c56 h
                    refine lv_iload_n hx hb dX13_treesAfter_118 rfl (lv_at hl 6 rfl) ?_
                    refine lv_iload hx hb dX13_treesAfter_119 (lv_at hl 1 rfl) ?_
                    refine lv_iadd hx hb dX13_treesAfter_121 ?_
                    refine lv_iload hx hb dX13_treesAfter_122 (lv_at hl 0 rfl) ?_
                    refine lv_isub hx hb dX13_treesAfter_124 ?_
                    refine lv_istore (lv' := [(8, .int ((x2 + ((((x2 * (gI M b7 28)) / 100) * (100 - (gI M b5 (ix x1)))) / 100)) - (((x2 * 2) / 100) + (((gI M b5 (ix x1)) * (gI M b48 29)) / 100)))), (7, .int (((x2 * 2) / 100) + (((gI M b5 (ix x1)) * (gI M b48 29)) / 100))), (6, .int ((((x2 * (gI M b7 28)) / 100) * (100 - (gI M b5 (ix x1)))) / 100)), (5, .int (gI M b5 (ix x1))), (4, .int (gI M b2 (ix x1))), (0, .ref (ad a0)), (1, .int x1), (2, .int x2), (3, .int x3)]) hx hb dX13_treesAfter_125 hl (by decide) rfl (fun ls hl => ?_)
                    refine lv_iload hx hb dX13_treesAfter_127 (lv_at hl 0 rfl) ?_
                    refine lv_if_ge (tgt := 136) hx hb dX13_treesAfter_129 rfl (fun c57 => ?_) (fun c57 => ?_)
                    · replace h := ite_t c57 h
                      refine lv_iload hx hb dX13_treesAfter_136 (lv_at hl 0 rfl) ?_
                      refine lv_sipush (v := 9999) hx hb dX13_treesAfter_138 rfl ?_
                      refine lv_icmp_le (tgt := 150) hx hb dX13_treesAfter_141 rfl (fun c58 => ?_) (fun c58 => ?_)
                      · replace h := ite_t c58 h
                        refine lv_iload hx hb dX13_treesAfter_150 (lv_at hl 0 rfl) ?_
                        exact r_iret hx hb hr hlocks hP hK hD hT hG hS (Option.some.inj h) rfl dX13_treesAfter_152
                      · replace h := ite_f c58 h
                        refine lv_sipush (v := 9999) hx hb dX13_treesAfter_144 rfl ?_
                        refine lv_goto (tgt := 152) hx hb dX13_treesAfter_147 rfl ?_
                        exact r_iret hx hb hr hlocks hP hK hD hT hG hS (Option.some.inj h) rfl dX13_treesAfter_152
                    · replace h := ite_f c57 h
                      refine lv_iconst (v := 0) hx hb dX13_treesAfter_132 rfl ?_
                      refine lv_goto (tgt := 152) hx hb dX13_treesAfter_133 rfl ?_
                      exact r_iret hx hb hr hlocks hP hK hD hT hG hS (Option.some.inj h) rfl dX13_treesAfter_152
                  · replace h := ite_t c56 h
                    refine lv_iload hx hb dX13_treesAfter_106 (lv_at hl 0 rfl) ?_
                    refine lv_iload_n hx hb dX13_treesAfter_108 rfl (lv_at hl 6 rfl) ?_
                    refine lv_iload hx hb dX13_treesAfter_109 (lv_at hl 2 rfl) ?_
                    refine lv_imul hx hb dX13_treesAfter_111 ?_
                    refine lv_bipush (v := 100) hx hb dX13_treesAfter_112 rfl ?_
                    refine lv_idiv hx hb dX13_treesAfter_114 (by decide) ?_
                    refine lv_iadd hx hb dX13_treesAfter_115 ?_
                    refine lv_istore (lv' := [(7, .int ((((x2 * 2) / 100) + (((gI M b5 (ix x1)) * (gI M b48 29)) / 100)) + ((x2 * (gI M b5 (ix x1))) / 100))), (6, .int ((((x2 * (gI M b7 28)) / 100) * (100 - (gI M b5 (ix x1)))) / 100)), (5, .int (gI M b5 (ix x1))), (4, .int (gI M b2 (ix x1))), (0, .ref (ad a0)), (1, .int x1), (2, .int x2), (3, .int x3)]) hx hb dX13_treesAfter_116 hl (by decide) rfl (fun ls hl => ?_)
                    refine lv_iload_n hx hb dX13_treesAfter_118 rfl (lv_at hl 6 rfl) ?_
                    refine lv_iload hx hb dX13_treesAfter_119 (lv_at hl 1 rfl) ?_
                    refine lv_iadd hx hb dX13_treesAfter_121 ?_
                    refine lv_iload hx hb dX13_treesAfter_122 (lv_at hl 0 rfl) ?_
                    refine lv_isub hx hb dX13_treesAfter_124 ?_
                    refine lv_istore (lv' := [(8, .int ((x2 + ((((x2 * (gI M b7 28)) / 100) * (100 - (gI M b5 (ix x1)))) / 100)) - ((((x2 * 2) / 100) + (((gI M b5 (ix x1)) * (gI M b48 29)) / 100)) + ((x2 * (gI M b5 (ix x1))) / 100)))), (7, .int ((((x2 * 2) / 100) + (((gI M b5 (ix x1)) * (gI M b48 29)) / 100)) + ((x2 * (gI M b5 (ix x1))) / 100))), (6, .int ((((x2 * (gI M b7 28)) / 100) * (100 - (gI M b5 (ix x1)))) / 100)), (5, .int (gI M b5 (ix x1))), (4, .int (gI M b2 (ix x1))), (0, .ref (ad a0)), (1, .int x1), (2, .int x2), (3, .int x3)]) hx hb dX13_treesAfter_125 hl (by decide) rfl (fun ls hl => ?_)
                    refine lv_iload hx hb dX13_treesAfter_127 (lv_at hl 0 rfl) ?_
                    refine lv_if_ge (tgt := 136) hx hb dX13_treesAfter_129 rfl (fun c59 => ?_) (fun c59 => ?_)
                    · replace h := ite_t c59 h
                      refine lv_iload hx hb dX13_treesAfter_136 (lv_at hl 0 rfl) ?_
                      refine lv_sipush (v := 9999) hx hb dX13_treesAfter_138 rfl ?_
                      refine lv_icmp_le (tgt := 150) hx hb dX13_treesAfter_141 rfl (fun c60 => ?_) (fun c60 => ?_)
                      · replace h := ite_t c60 h
                        refine lv_iload hx hb dX13_treesAfter_150 (lv_at hl 0 rfl) ?_
                        exact r_iret hx hb hr hlocks hP hK hD hT hG hS (Option.some.inj h) rfl dX13_treesAfter_152
                      · replace h := ite_f c60 h
                        refine lv_sipush (v := 9999) hx hb dX13_treesAfter_144 rfl ?_
                        refine lv_goto (tgt := 152) hx hb dX13_treesAfter_147 rfl ?_
                        exact r_iret hx hb hr hlocks hP hK hD hT hG hS (Option.some.inj h) rfl dX13_treesAfter_152
                    · replace h := ite_f c59 h
                      refine lv_iconst (v := 0) hx hb dX13_treesAfter_132 rfl ?_
                      refine lv_goto (tgt := 152) hx hb dX13_treesAfter_133 rfl ?_
                      exact r_iret hx hb hr hlocks hP hK hD hT hG hS (Option.some.inj h) rfl dX13_treesAfter_152
set_option maxHeartbeats 4000000 in
set_option maxRecDepth 100000 in
theorem c_X13_treesIn {l : Launch} {D : va_G} {ad : Nat → Nat} {cy : Nat → ClassId} {A : Nat → Prop} {g : CG} {q : SE} (M : MM) (a0 : Nat) (x1 : Int32) (x2 : Int32) (k0 : ok g a0 13 0) {Z : Int32} (h : f_X13_treesIn M a0 x1 x2 = some Z) : Met l yX13_treesIn wsX13_treesIn ({ frames := 1, cells := 0, slots := 0, locals := 28 }) (va_Pc [.ref (ad a0), .int x1, .int x2] (Wd D ad cy A g q M)) (va_Qi (fun r u => r = Z ∧ u = M) (Wd D ad cy A g q) A) 0 0 A := by
  refine Met.ofW (cc := cX13_treesIn) (maxL := 5) (ret := (some .int)) (by decide) rfl ?_
  intro p e s m args below meth c s₁ B hml hv
  obtain ⟨rfl, hP, hK, hD, hT, hG⟩ := hv
  have hx := B.exec
  have hb := B.bytes
  have hr := B.returns
  have hts := atoms_spec (ws := wsX13_treesIn) B.pre
  have hown : s.vm.findClass RX13 = some m.cls := findClass_of_methodNamed B.named
  have hlocks := B.notSynchronized
  have in12 : ∀ w ∈ u_ws RX12 TX12 48, w ∈ wsX13_treesIn := fun w h => List.mem_cons_of_mem _ (List.mem_append_right _ h)
  have in13 : ∀ w ∈ u_ws RX13 TX13 29, w ∈ wsX13_treesIn := fun w h => List.mem_cons_of_mem _ (List.mem_append_left _ (List.mem_append_right _ h))
  have hS : va_S A s.heap s.heap [] := va_S.rf
  have hl := lv_entry ([.ref (ad a0), .int x1, .int x2]) (n := 5) (Nat.le_of_ble_eq_true rfl)
  rw [lg_entry_eq]
  generalize (lg_sl ([.ref (ad a0), .int x1, .int x2]) ++ List.replicate (5 - (lg_sl ([.ref (ad a0), .int x1, .int x2])).length) Slot.unset).toArray = ls at hl ⊢
  have hl : lv_has ls 5 [(0, .ref (ad a0)), (1, .int x1), (2, .int x2)] := hl
  unfold f_X13_treesIn at h
  refine lv_aload_n hx hb dX13_treesIn_0 rfl (lv_at hl 0 rfl) ?_
  rcases hN1 : gR M a0 3 with _ | b1
  · replace h := oc_n hN1 h
    refine r_get (T := TX13) (v := .null) hx hb hts in13 hown hK hP k0 (by decide) rfl 3 (by decide) (hts (.fieldLink RX13 431 "StoneWalkModel" "island" "LStoneWalkModel$Island;") (List.mem_of_getElem? (i := 1) (by decide +kernel))) rfl (t := 2) rfl (by show va_rf _ = _; rw [hN1]; rfl) dX13_treesIn_1 ?_
    exact absurd h (by simp)
  · replace h := oc_s hN1 h
    have kb1 := hT.f k0 (k := 3) (t := 12) (n := 0) rfl hN1
    refine r_get (T := TX13) (v := .ref (ad b1)) hx hb hts in13 hown hK hP k0 (by decide) rfl 3 (by decide) (hts (.fieldLink RX13 431 "StoneWalkModel" "island" "LStoneWalkModel$Island;") (List.mem_of_getElem? (i := 1) (by decide +kernel))) rfl (t := 2) rfl (by show va_rf _ = _; rw [hN1]; rfl) dX13_treesIn_1 ?_
    refine r_getN (T := TX12) (v := .int (gI M b1 27)) hx hb hts in12 hown hK hP kb1 (by decide) rfl 27 (by decide) (hG.2.2.1 _ (List.mem_of_getElem? (i := 28) rfl)) rfl (t := 0) rfl rfl dX13_treesIn_4 ?_
    refine lv_istore_n (lv' := [(3, .int (gI M b1 27)), (0, .ref (ad a0)), (1, .int x1), (2, .int x2)]) hx hb dX13_treesIn_7 rfl hl (by decide) rfl (fun ls hl => ?_)
    refine lv_iconst (v := 1) hx hb dX13_treesIn_8 rfl ?_
    refine lv_istore (lv' := [(4, .int 1), (3, .int (gI M b1 27)), (0, .ref (ad a0)), (1, .int x1), (2, .int x2)]) hx hb dX13_treesIn_9 hl (by decide) rfl (fun ls hl => ?_)
    have L2 : ∀ n2 : Nat, ∀ (y2_0 : Nat) (y2_1 : Int32) (y2_2 : Int32) (y2_3 : Int32) (y2_4 : Int32) (ky2_0 : ok g y2_0 13 0) (H : Heap) (locs : List Loc), f_X13_treesIn_L11 n2 M y2_0 y2_1 y2_2 y2_3 y2_4 = some Z → va_P D vwCl (wd ad cy g M) H → va_D A (wd ad cy g M) → WT g M → va_S A s.heap H locs → ∀ (ls : Array Slot), lv_has ls 5 [(0, .ref (ad y2_0)), (1, .int y2_1), (2, .int y2_2), (3, .int y2_3), (4, .int y2_4)] → W p l e ((headSpec wsX13_treesIn ({ frames := 1, cells := 0, slots := 0, locals := 28 })).room) s m (([.ref (ad a0), .int x1, .int x2] : List Value).toArray) below meth c H locs 0 0 (MQ below (va_Qi (fun r u => r = Z ∧ u = M) (Wd D ad cy A g q) A) ([.ref (ad a0), .int x1, .int x2]).toArray s 0 0 A) (F0 m 11 ls []) := by
      intro n2
      induction n2 with
      | zero => intro y2_0 y2_1 y2_2 y2_3 y2_4 ky2_0 H locs h; exact absurd h (by simp [f_X13_treesIn_L11])
      | succ n2 ih2 =>
        intro y2_0 y2_1 y2_2 y2_3 y2_4 ky2_0 H locs h hP hD hT hS ls hl
        rw [f_X13_treesIn_L11] at h
        refine lv_iload hx hb dX13_treesIn_11 (lv_at hl 4 rfl) ?_
        refine lv_iload_n hx hb dX13_treesIn_13 rfl (lv_at hl 2 rfl) ?_
        refine lv_icmp_gt (tgt := 32) hx hb dX13_treesIn_14 rfl (fun c3 => ?_) (fun c3 => ?_)
        · replace h := ite_t c3 h
          refine lv_iload_n hx hb dX13_treesIn_32 rfl (lv_at hl 3 rfl) ?_
          exact r_iret hx hb hr hlocks hP hK hD hT hG hS (Option.some.inj h) rfl dX13_treesIn_33
        · replace h := ite_f c3 h
          refine lv_aload_n hx hb dX13_treesIn_17 rfl (lv_at hl 0 rfl) ?_
          refine lv_iload_n hx hb dX13_treesIn_18 rfl (lv_at hl 1 rfl) ?_
          refine lv_iload_n hx hb dX13_treesIn_19 rfl (lv_at hl 3 rfl) ?_
          refine lv_iload hx hb dX13_treesIn_20 (lv_at hl 4 rfl) ?_
          obtain ⟨z4, h4, h⟩ := ob_some h
          refine k_i (va_runV (As := [.int y2_1, .int y2_3, .int y2_4]) (rest := []) ⟨hx, hb, hml, hown, hts⟩ (c_X13_treesAfter (l := l) M y2_0 y2_1 y2_3 y2_4 ky2_0 h4) (cwV 3 hts gX13_treesIn_X13_treesAfter rfl rfl rfl hdV_X13_treesAfter ⟨Nat.le_of_ble_eq_true rfl, Nat.le_of_ble_eq_true rfl⟩) (pV (T := TX13) hP hK hD hT hG hS ky2_0 (by decide) rfl) rfl rfl hl.1 rfl (lv_room (Nat.le_of_ble_eq_true rfl)) dX13_treesIn_22 ⟨Nat.zero_le _, Nat.zero_le _⟩) hS (fun H locs hP hD hT hS => ?_)
          refine lv_istore_n (lv' := [(3, .int z4), (0, .ref (ad y2_0)), (1, .int y2_1), (2, .int y2_2), (4, .int y2_4)]) hx hb dX13_treesIn_25 rfl hl (by decide) rfl (fun ls hl => ?_)
          refine lv_iinc (v := y2_4 + 1) (lv' := [(4, .int (y2_4 + 1)), (3, .int z4), (0, .ref (ad y2_0)), (1, .int y2_1), (2, .int y2_2)]) hx hb dX13_treesIn_26 hl (k := 4) rfl rfl (by decide) rfl (fun ls hl => ?_)
          refine lv_goto (tgt := 11) hx hb dX13_treesIn_29 rfl ?_
          exact ih2 y2_0 y2_1 y2_2 z4 (y2_4 + 1) ky2_0 _ _ h hP hD hT hS ls (lv_sub hl [2, 3, 4, 1, 0] rfl)
    exact L2 FU a0 x1 x2 (gI M b1 27) 1 k0 _ _ h hP hD hT hS ls (lv_sub hl [2, 3, 4, 1, 0] rfl)
set_option maxHeartbeats 4000000 in
set_option maxRecDepth 100000 in
theorem c_X13_trees {l : Launch} {D : va_G} {ad : Nat → Nat} {cy : Nat → ClassId} {A : Nat → Prop} {g : CG} {q : SE} (M : MM) (a0 : Nat) (x1 : Int32) (x2 : Int32) (k0 : ok g a0 13 0) {Z : (Int32 × MM)} (h : f_X13_trees M a0 x1 x2 = some Z) : Met l yX13_trees wsX13_trees ({ frames := 2, cells := 0, slots := 0, locals := 52 }) (va_Pc [.ref (ad a0), .int x1, .int x2] (Wd D ad cy A g q M)) (va_Qi (fun r u => r = Z.1 ∧ u = Z.2) (Wd D ad cy A g q) A) 0 0 A := by
  refine Met.ofW (cc := cX13_trees) (maxL := 3) (ret := (some .int)) (by decide) rfl ?_
  intro p e s m args below meth c s₁ B hml hv
  obtain ⟨rfl, hP, hK, hD, hT, hG⟩ := hv
  have hx := B.exec
  have hb := B.bytes
  have hr := B.returns
  have hts := atoms_spec (ws := wsX13_trees) B.pre
  have hown : s.vm.findClass RX13 = some m.cls := findClass_of_methodNamed B.named
  have hlocks := B.notSynchronized
  have in12 : ∀ w ∈ u_ws RX12 TX12 48, w ∈ wsX13_trees := fun w h => List.mem_cons_of_mem _ (List.mem_append_right _ h)
  have in13 : ∀ w ∈ u_ws RX13 TX13 29, w ∈ wsX13_trees := fun w h => List.mem_cons_of_mem _ (List.mem_append_left _ (List.mem_append_right _ h))
  have hS : va_S A s.heap s.heap [] := va_S.rf
  have hl := lv_entry ([.ref (ad a0), .int x1, .int x2]) (n := 3) (Nat.le_of_ble_eq_true rfl)
  rw [lg_entry_eq]
  generalize (lg_sl ([.ref (ad a0), .int x1, .int x2]) ++ List.replicate (3 - (lg_sl ([.ref (ad a0), .int x1, .int x2])).length) Slot.unset).toArray = ls at hl ⊢
  have hl : lv_has ls 3 [(0, .ref (ad a0)), (1, .int x1), (2, .int x2)] := hl
  unfold f_X13_trees at h
  refine lv_aload_n hx hb dX13_trees_0 rfl (lv_at hl 0 rfl) ?_
  refine lv_iconst (v := 0) hx hb dX13_trees_1 rfl ?_
  refine r_putI (T := TX13) (ty := .int) (v := 0) hx hb hts in13 tyX13 tyX13_ok nmX13 hown hK hP hD hT hS k0 (by decide) rfl 0 (by decide) (hts (.fieldLink RX13 30 "StoneWalkModel" "thrown" "I") (List.mem_of_getElem? (i := 1) (by decide +kernel))) rfl rfl (tyX13_ok 0 (by decide)) rfl rfl rfl dX13_trees_2 (fun H locs hP hD hT hS => ?_)
  refine lv_aload_n hx hb dX13_trees_5 rfl (lv_at hl 0 rfl) ?_
  refine lv_iload_n hx hb dX13_trees_6 rfl (lv_at hl 1 rfl) ?_
  obtain ⟨z1, h1, h⟩ := ob_some h
  refine k_z (va_runV (As := [.int x1]) (rest := []) ⟨hx, hb, hml, hown, hts⟩ (c_X13_isStory (l := l) (pI M a0 0 0) a0 x1 k0 h1) (cwV 1 hts gX13_trees_X13_isStory rfl rfl rfl hdV_X13_isStory ⟨Nat.le_of_ble_eq_true rfl, Nat.le_of_ble_eq_true rfl⟩) (pV (T := TX13) hP hK hD hT hG hS k0 (by decide) rfl) rfl rfl hl.1 rfl (lv_room (Nat.le_of_ble_eq_true rfl)) dX13_trees_7 ⟨Nat.zero_le _, Nat.zero_le _⟩) hS (fun H locs hz1 hP hD hT hS => ?_)
  refine lv_if_ne (tgt := 19) hx hb dX13_trees_10 rfl (fun c2 => ?_) (fun c2 => ?_)
  · replace h := ite_f c2 h
    refine lv_iload_n hx hb dX13_trees_19 rfl (lv_at hl 2 rfl) ?_
    refine lv_iconst (v := 0) hx hb dX13_trees_20 rfl ?_
    refine lv_bipush (v := 99) hx hb dX13_trees_21 rfl ?_
    obtain ⟨z3, h3, h⟩ := ob_some h
    refine k_z (va_runS (As := [.int x2, .int 0, .int 99]) (rest := []) ⟨hx, hb, hml, hown, hts⟩ (c_X13_in (l := l) (pI M a0 0 0) x2 0 99 h3) (va_cwS 3 hts gX13_trees_X13_in rfl rfl rfl hdS_X13_in ⟨Nat.le_of_ble_eq_true rfl, Nat.le_of_ble_eq_true rfl⟩) (pS hP hK hD hT hG hS) rfl rfl hl.1 rfl (lv_room (Nat.le_of_ble_eq_true rfl)) dX13_trees_23 ⟨Nat.zero_le _, Nat.zero_le _⟩) hS (fun H locs hz3 hP hD hT hS => ?_)
    refine lv_if_ne (tgt := 35) hx hb dX13_trees_26 rfl (fun c4 => ?_) (fun c4 => ?_)
    · replace h := ite_f c4 h
      refine lv_aload_n hx hb dX13_trees_35 rfl (lv_at hl 0 rfl) ?_
      rcases hN5 : gR (pI M a0 0 0) a0 3 with _ | b5
      · replace h := oc_n hN5 h
        refine r_get (T := TX13) (v := .null) hx hb hts in13 hown hK hP k0 (by decide) rfl 3 (by decide) (hts (.fieldLink RX13 431 "StoneWalkModel" "island" "LStoneWalkModel$Island;") (List.mem_of_getElem? (i := 2) (by decide +kernel))) rfl (t := 2) rfl (by show va_rf _ = _; rw [hN5]; rfl) dX13_trees_36 ?_
        exact absurd h (by simp)
      · replace h := oc_s hN5 h
        have kb5 := hT.f k0 (k := 3) (t := 12) (n := 0) rfl hN5
        refine r_get (T := TX13) (v := .ref (ad b5)) hx hb hts in13 hown hK hP k0 (by decide) rfl 3 (by decide) (hts (.fieldLink RX13 431 "StoneWalkModel" "island" "LStoneWalkModel$Island;") (List.mem_of_getElem? (i := 2) (by decide +kernel))) rfl (t := 2) rfl (by show va_rf _ = _; rw [hN5]; rfl) dX13_trees_36 ?_
        refine r_getN (T := TX12) (v := .int (gI (pI M a0 0 0) b5 27)) hx hb hts in12 hown hK hP kb5 (by decide) rfl 27 (by decide) (hG.2.2.1 _ (List.mem_of_getElem? (i := 28) rfl)) rfl (t := 0) rfl rfl dX13_trees_39 ?_
        refine lv_iconst (v := (-1)) hx hb dX13_trees_42 rfl ?_
        refine lv_icmp_ne (tgt := 55) hx hb dX13_trees_43 rfl (fun c6 => ?_) (fun c6 => ?_)
        · replace h := ite_f c6 h
          refine lv_aload_n hx hb dX13_trees_55 rfl (lv_at hl 0 rfl) ?_
          refine lv_aload_n hx hb dX13_trees_56 rfl (lv_at hl 0 rfl) ?_
          refine lv_iload_n hx hb dX13_trees_57 rfl (lv_at hl 1 rfl) ?_
          refine lv_iload_n hx hb dX13_trees_58 rfl (lv_at hl 2 rfl) ?_
          obtain ⟨z7, h7, h⟩ := ob_some h
          refine k_i (va_runV (As := [.int x1, .int x2]) (rest := [.ref (ad a0)]) ⟨hx, hb, hml, hown, hts⟩ (c_X13_treesIn (l := l) (pI M a0 0 0) a0 x1 x2 k0 h7) (cwV 2 hts gX13_trees_X13_treesIn rfl rfl rfl hdV_X13_treesIn ⟨Nat.le_of_ble_eq_true rfl, Nat.le_of_ble_eq_true rfl⟩) (pV (T := TX13) hP hK hD hT hG hS k0 (by decide) rfl) rfl rfl hl.1 rfl (lv_room (Nat.le_of_ble_eq_true rfl)) dX13_trees_59 ⟨Nat.zero_le _, Nat.zero_le _⟩) hS (fun H locs hP hD hT hS => ?_)
          obtain ⟨z8, h8, h⟩ := ob_some h
          refine k_i (va_runV (As := [.int z7]) (rest := []) ⟨hx, hb, hml, hown, hts⟩ (c_X13_done (l := l) (pI M a0 0 0) a0 z7 k0 h8) (cwV 1 hts gX13_trees_X13_done rfl rfl rfl hdV_X13_done ⟨Nat.le_of_ble_eq_true rfl, Nat.le_of_ble_eq_true rfl⟩) (pV (T := TX13) hP hK hD hT hG hS k0 (by decide) rfl) rfl rfl hl.1 rfl (lv_room (Nat.le_of_ble_eq_true rfl)) dX13_trees_62 ⟨Nat.zero_le _, Nat.zero_le _⟩) hS (fun H locs hP hD hT hS => ?_)
          have hZ := Option.some.inj h
          exact r_iret hx hb hr hlocks hP hK hD hT hG hS (congrArg Prod.fst hZ) (congrArg Prod.snd hZ) dX13_trees_65
        · replace h := ite_t c6 h
          refine lv_aload_n hx hb dX13_trees_46 rfl (lv_at hl 0 rfl) ?_
          refine lv_bipush (v := 6) hx hb dX13_trees_47 rfl ?_
          obtain ⟨z9, h9, h⟩ := ob_some h
          refine k_i (va_runV (As := [.int 6]) (rest := []) ⟨hx, hb, hml, hown, hts⟩ (c_X13_refused (l := l) (pI M a0 0 0) a0 6 k0 h9) (cwV 1 hts gX13_trees_X13_refused rfl rfl rfl hdV_X13_refused ⟨Nat.le_of_ble_eq_true rfl, Nat.le_of_ble_eq_true rfl⟩) (pV (T := TX13) hP hK hD hT hG hS k0 (by decide) rfl) rfl rfl hl.1 rfl (lv_room (Nat.le_of_ble_eq_true rfl)) dX13_trees_49 ⟨Nat.zero_le _, Nat.zero_le _⟩) hS (fun H locs hP hD hT hS => ?_)
          refine lv_goto (tgt := 65) hx hb dX13_trees_52 rfl ?_
          have hZ := Option.some.inj h
          exact r_iret hx hb hr hlocks hP hK hD hT hG hS (congrArg Prod.fst hZ) (congrArg Prod.snd hZ) dX13_trees_65
    · replace h := ite_t c4 h
      refine lv_aload_n hx hb dX13_trees_29 rfl (lv_at hl 0 rfl) ?_
      refine lv_iconst (v := 2) hx hb dX13_trees_30 rfl ?_
      obtain ⟨z10, h10, h⟩ := ob_some h
      refine k_i (va_runV (As := [.int 2]) (rest := []) ⟨hx, hb, hml, hown, hts⟩ (c_X13_refused (l := l) (pI M a0 0 0) a0 2 k0 h10) (cwV 1 hts gX13_trees_X13_refused rfl rfl rfl hdV_X13_refused ⟨Nat.le_of_ble_eq_true rfl, Nat.le_of_ble_eq_true rfl⟩) (pV (T := TX13) hP hK hD hT hG hS k0 (by decide) rfl) rfl rfl hl.1 rfl (lv_room (Nat.le_of_ble_eq_true rfl)) dX13_trees_31 ⟨Nat.zero_le _, Nat.zero_le _⟩) hS (fun H locs hP hD hT hS => ?_)
      have hZ := Option.some.inj h
      exact r_iret hx hb hr hlocks hP hK hD hT hG hS (congrArg Prod.fst hZ) (congrArg Prod.snd hZ) dX13_trees_34
  · replace h := ite_t c2 h
    refine lv_aload_n hx hb dX13_trees_13 rfl (lv_at hl 0 rfl) ?_
    refine lv_iconst (v := 1) hx hb dX13_trees_14 rfl ?_
    obtain ⟨z11, h11, h⟩ := ob_some h
    refine k_i (va_runV (As := [.int 1]) (rest := []) ⟨hx, hb, hml, hown, hts⟩ (c_X13_refused (l := l) (pI M a0 0 0) a0 1 k0 h11) (cwV 1 hts gX13_trees_X13_refused rfl rfl rfl hdV_X13_refused ⟨Nat.le_of_ble_eq_true rfl, Nat.le_of_ble_eq_true rfl⟩) (pV (T := TX13) hP hK hD hT hG hS k0 (by decide) rfl) rfl rfl hl.1 rfl (lv_room (Nat.le_of_ble_eq_true rfl)) dX13_trees_15 ⟨Nat.zero_le _, Nat.zero_le _⟩) hS (fun H locs hP hD hT hS => ?_)
    have hZ := Option.some.inj h
    exact r_iret hx hb hr hlocks hP hK hD hT hG hS (congrArg Prod.fst hZ) (congrArg Prod.snd hZ) dX13_trees_18
set_option maxHeartbeats 4000000 in
set_option maxRecDepth 100000 in
theorem c_X13_see {l : Launch} {D : va_G} {ad : Nat → Nat} {cy : Nat → ClassId} {A : Nat → Prop} {g : CG} {q : SE} (M : MM) (a0 : Nat) (x1 : Int32) (x2 : Int32) (x3 : Int32) (k0 : ok g a0 13 0) {Z : (Int32 × MM)} (h : f_X13_see M a0 x1 x2 x3 = some Z) : Met l yX13_see wsX13_see ({ frames := 1, cells := 0, slots := 0, locals := 22 }) (va_Pc [.ref (ad a0), .int x1, .int x2, .int x3] (Wd D ad cy A g q M)) (va_Qi (fun r u => r = Z.1 ∧ u = Z.2) (Wd D ad cy A g q) A) 0 0 A := by
  refine Met.ofW (cc := cX13_see) (maxL := 4) (ret := (some .int)) (by decide) rfl ?_
  intro p e s m args below meth c s₁ B hml hv
  obtain ⟨rfl, hP, hK, hD, hT, hG⟩ := hv
  have hx := B.exec
  have hb := B.bytes
  have hr := B.returns
  have hts := atoms_spec (ws := wsX13_see) B.pre
  have hown : s.vm.findClass RX13 = some m.cls := findClass_of_methodNamed B.named
  have hlocks := B.notSynchronized
  have in13 : ∀ w ∈ u_ws RX13 TX13 29, w ∈ wsX13_see := fun w h => List.mem_cons_of_mem _ (List.mem_append_right _ h)
  have hS : va_S A s.heap s.heap [] := va_S.rf
  have hl := lv_entry ([.ref (ad a0), .int x1, .int x2, .int x3]) (n := 4) (Nat.le_of_ble_eq_true rfl)
  rw [lg_entry_eq]
  generalize (lg_sl ([.ref (ad a0), .int x1, .int x2, .int x3]) ++ List.replicate (4 - (lg_sl ([.ref (ad a0), .int x1, .int x2, .int x3])).length) Slot.unset).toArray = ls at hl ⊢
  have hl : lv_has ls 4 [(0, .ref (ad a0)), (1, .int x1), (2, .int x2), (3, .int x3)] := hl
  unfold f_X13_see at h
  refine lv_aload_n hx hb dX13_see_0 rfl (lv_at hl 0 rfl) ?_
  refine lv_iconst (v := 0) hx hb dX13_see_1 rfl ?_
  refine r_putI (T := TX13) (ty := .int) (v := 0) hx hb hts in13 tyX13 tyX13_ok nmX13 hown hK hP hD hT hS k0 (by decide) rfl 0 (by decide) (hts (.fieldLink RX13 30 "StoneWalkModel" "thrown" "I") (List.mem_of_getElem? (i := 1) (by decide +kernel))) rfl rfl (tyX13_ok 0 (by decide)) rfl rfl rfl dX13_see_2 (fun H locs hP hD hT hS => ?_)
  refine lv_aload_n hx hb dX13_see_5 rfl (lv_at hl 0 rfl) ?_
  rcases hN1 : gR (pI M a0 0 0) a0 3 with _ | b1
  · replace h := oc_n hN1 h
    refine r_get (T := TX13) (v := .null) hx hb hts in13 hown hK hP k0 (by decide) rfl 3 (by decide) (hts (.fieldLink RX13 431 "StoneWalkModel" "island" "LStoneWalkModel$Island;") (List.mem_of_getElem? (i := 2) (by decide +kernel))) rfl (t := 2) rfl (by show va_rf _ = _; rw [hN1]; rfl) dX13_see_6 ?_
    refine lv_ifnonnullN hx hb dX13_see_9 ?_
    refine lv_aload_n hx hb dX13_see_12 rfl (lv_at hl 0 rfl) ?_
    refine lv_iconst (v := 1) hx hb dX13_see_13 rfl ?_
    obtain ⟨z2, h2, h⟩ := ob_some h
    refine k_i (va_runV (As := [.int 1]) (rest := []) ⟨hx, hb, hml, hown, hts⟩ (c_X13_refused (l := l) (pI M a0 0 0) a0 1 k0 h2) (cwV 1 hts gX13_see_X13_refused rfl rfl rfl hdV_X13_refused ⟨Nat.le_of_ble_eq_true rfl, Nat.le_of_ble_eq_true rfl⟩) (pV (T := TX13) hP hK hD hT hG hS k0 (by decide) rfl) rfl rfl hl.1 rfl (lv_room (Nat.le_of_ble_eq_true rfl)) dX13_see_14 ⟨Nat.zero_le _, Nat.zero_le _⟩) hS (fun H locs hP hD hT hS => ?_)
    have hZ := Option.some.inj h
    exact r_iret hx hb hr hlocks hP hK hD hT hG hS (congrArg Prod.fst hZ) (congrArg Prod.snd hZ) dX13_see_17
  · replace h := oc_s hN1 h
    have kb1 := hT.f k0 (k := 3) (t := 12) (n := 0) rfl hN1
    refine r_get (T := TX13) (v := .ref (ad b1)) hx hb hts in13 hown hK hP k0 (by decide) rfl 3 (by decide) (hts (.fieldLink RX13 431 "StoneWalkModel" "island" "LStoneWalkModel$Island;") (List.mem_of_getElem? (i := 2) (by decide +kernel))) rfl (t := 2) rfl (by show va_rf _ = _; rw [hN1]; rfl) dX13_see_6 ?_
    refine lv_ifnonnull (tgt := 18) hx hb dX13_see_9 rfl ?_
    refine lv_iload_n hx hb dX13_see_18 rfl (lv_at hl 1 rfl) ?_
    refine lv_iconst (v := 0) hx hb dX13_see_19 rfl ?_
    refine lv_bipush (v := 99) hx hb dX13_see_20 rfl ?_
    obtain ⟨z3, h3, h⟩ := ob_some h
    refine k_z (va_runS (As := [.int x1, .int 0, .int 99]) (rest := []) ⟨hx, hb, hml, hown, hts⟩ (c_X13_in (l := l) (pI M a0 0 0) x1 0 99 h3) (va_cwS 3 hts gX13_see_X13_in rfl rfl rfl hdS_X13_in ⟨Nat.le_of_ble_eq_true rfl, Nat.le_of_ble_eq_true rfl⟩) (pS hP hK hD hT hG hS) rfl rfl hl.1 rfl (lv_room (Nat.le_of_ble_eq_true rfl)) dX13_see_22 ⟨Nat.zero_le _, Nat.zero_le _⟩) hS (fun H locs hz3 hP hD hT hS => ?_)
    refine lv_if_eq (tgt := 50) hx hb dX13_see_25 rfl (fun c4 => ?_) (fun c4 => ?_)
    · replace h := ite_t c4 h
      refine lv_aload_n hx hb dX13_see_50 rfl (lv_at hl 0 rfl) ?_
      refine lv_iconst (v := 2) hx hb dX13_see_51 rfl ?_
      obtain ⟨z5, h5, h⟩ := ob_some h
      refine k_i (va_runV (As := [.int 2]) (rest := []) ⟨hx, hb, hml, hown, hts⟩ (c_X13_refused (l := l) (pI M a0 0 0) a0 2 k0 h5) (cwV 1 hts gX13_see_X13_refused rfl rfl rfl hdV_X13_refused ⟨Nat.le_of_ble_eq_true rfl, Nat.le_of_ble_eq_true rfl⟩) (pV (T := TX13) hP hK hD hT hG hS k0 (by decide) rfl) rfl rfl hl.1 rfl (lv_room (Nat.le_of_ble_eq_true rfl)) dX13_see_52 ⟨Nat.zero_le _, Nat.zero_le _⟩) hS (fun H locs hP hD hT hS => ?_)
      have hZ := Option.some.inj h
      exact r_iret hx hb hr hlocks hP hK hD hT hG hS (congrArg Prod.fst hZ) (congrArg Prod.snd hZ) dX13_see_55
    · replace h := ite_f c4 h
      refine lv_iload_n hx hb dX13_see_28 rfl (lv_at hl 2 rfl) ?_
      refine lv_iconst (v := 0) hx hb dX13_see_29 rfl ?_
      refine lv_sipush (v := 9999) hx hb dX13_see_30 rfl ?_
      obtain ⟨z6, h6, h⟩ := ob_some h
      refine k_z (va_runS (As := [.int x2, .int 0, .int 9999]) (rest := []) ⟨hx, hb, hml, hown, hts⟩ (c_X13_in (l := l) (pI M a0 0 0) x2 0 9999 h6) (va_cwS 3 hts gX13_see_X13_in rfl rfl rfl hdS_X13_in ⟨Nat.le_of_ble_eq_true rfl, Nat.le_of_ble_eq_true rfl⟩) (pS hP hK hD hT hG hS) rfl rfl hl.1 rfl (lv_room (Nat.le_of_ble_eq_true rfl)) dX13_see_33 ⟨Nat.zero_le _, Nat.zero_le _⟩) hS (fun H locs hz6 hP hD hT hS => ?_)
      refine lv_if_eq (tgt := 50) hx hb dX13_see_36 rfl (fun c7 => ?_) (fun c7 => ?_)
      · replace h := ite_t c7 h
        refine lv_aload_n hx hb dX13_see_50 rfl (lv_at hl 0 rfl) ?_
        refine lv_iconst (v := 2) hx hb dX13_see_51 rfl ?_
        obtain ⟨z8, h8, h⟩ := ob_some h
        refine k_i (va_runV (As := [.int 2]) (rest := []) ⟨hx, hb, hml, hown, hts⟩ (c_X13_refused (l := l) (pI M a0 0 0) a0 2 k0 h8) (cwV 1 hts gX13_see_X13_refused rfl rfl rfl hdV_X13_refused ⟨Nat.le_of_ble_eq_true rfl, Nat.le_of_ble_eq_true rfl⟩) (pV (T := TX13) hP hK hD hT hG hS k0 (by decide) rfl) rfl rfl hl.1 rfl (lv_room (Nat.le_of_ble_eq_true rfl)) dX13_see_52 ⟨Nat.zero_le _, Nat.zero_le _⟩) hS (fun H locs hP hD hT hS => ?_)
        have hZ := Option.some.inj h
        exact r_iret hx hb hr hlocks hP hK hD hT hG hS (congrArg Prod.fst hZ) (congrArg Prod.snd hZ) dX13_see_55
      · replace h := ite_f c7 h
        refine lv_iload_n hx hb dX13_see_39 rfl (lv_at hl 3 rfl) ?_
        refine lv_iconst (v := 0) hx hb dX13_see_40 rfl ?_
        refine lv_sipush (v := 999) hx hb dX13_see_41 rfl ?_
        obtain ⟨z9, h9, h⟩ := ob_some h
        refine k_z (va_runS (As := [.int x3, .int 0, .int 999]) (rest := []) ⟨hx, hb, hml, hown, hts⟩ (c_X13_in (l := l) (pI M a0 0 0) x3 0 999 h9) (va_cwS 3 hts gX13_see_X13_in rfl rfl rfl hdS_X13_in ⟨Nat.le_of_ble_eq_true rfl, Nat.le_of_ble_eq_true rfl⟩) (pS hP hK hD hT hG hS) rfl rfl hl.1 rfl (lv_room (Nat.le_of_ble_eq_true rfl)) dX13_see_44 ⟨Nat.zero_le _, Nat.zero_le _⟩) hS (fun H locs hz9 hP hD hT hS => ?_)
        refine lv_if_ne (tgt := 56) hx hb dX13_see_47 rfl (fun c10 => ?_) (fun c10 => ?_)
        · replace h := ite_f c10 h
          refine lv_aload_n hx hb dX13_see_56 rfl (lv_at hl 0 rfl) ?_
          refine r_get (T := TX13) (v := .int (gI (pI M a0 0 0) a0 25)) hx hb hts in13 hown hK hP k0 (by decide) rfl 25 (by decide) (hts (.fieldLink RX13 434 "StoneWalkModel" "seen" "I") (List.mem_of_getElem? (i := 3) (by decide +kernel))) rfl (t := 0) rfl rfl dX13_see_57 ?_
          refine lv_bipush (v := 12) hx hb dX13_see_60 rfl ?_
          refine lv_icmp_ne (tgt := 71) hx hb dX13_see_62 rfl (fun c11 => ?_) (fun c11 => ?_)
          · replace h := ite_f c11 h
            refine lv_aload_n hx hb dX13_see_71 rfl (lv_at hl 0 rfl) ?_
            rcases hN12 : gR (pI M a0 0 0) a0 26 with _ | b12
            · exact absurd (oc_n hN12 h) (by simp)
            replace h := oc_s hN12 h
            have kb12 := hT.f k0 (k := 26) (t := 15) (n := 12) rfl hN12
            refine r_get (T := TX13) (v := .ref (ad b12)) hx hb hts in13 hown hK hP k0 (by decide) rfl 26 (by decide) (hts (.fieldLink RX13 20 "StoneWalkModel" "seenYear" "[I") (List.mem_of_getElem? (i := 4) (by decide +kernel))) rfl (t := 2) rfl (by show va_rf _ = _; rw [hN12]; rfl) dX13_see_72 ?_
            refine lv_aload_n hx hb dX13_see_75 rfl (lv_at hl 0 rfl) ?_
            refine r_get (T := TX13) (v := .int (gI (pI M a0 0 0) a0 25)) hx hb hts in13 hown hK hP k0 (by decide) rfl 25 (by decide) (hts (.fieldLink RX13 434 "StoneWalkModel" "seen" "I") (List.mem_of_getElem? (i := 3) (by decide +kernel))) rfl (t := 0) rfl rfl dX13_see_76 ?_
            refine lv_iload_n hx hb dX13_see_79 rfl (lv_at hl 1 rfl) ?_
            obtain ⟨hn13, h⟩ := chk_some h
            refine r_iast hx hb hK hP hD hT hS kb12 hn13 dX13_see_80 (fun H locs hP hD hT hS => ?_)
            refine lv_aload_n hx hb dX13_see_81 rfl (lv_at hl 0 rfl) ?_
            rcases hN14 : gR (pI (pI M a0 0 0) b12 (ix (gI (pI M a0 0 0) a0 25)) x1) a0 27 with _ | b14
            · exact absurd (oc_n hN14 h) (by simp)
            replace h := oc_s hN14 h
            have kb14 := hT.f k0 (k := 27) (t := 15) (n := 12) rfl hN14
            refine r_get (T := TX13) (v := .ref (ad b14)) hx hb hts in13 hown hK hP k0 (by decide) rfl 27 (by decide) (hts (.fieldLink RX13 24 "StoneWalkModel" "seenTrees" "[I") (List.mem_of_getElem? (i := 5) (by decide +kernel))) rfl (t := 2) rfl (by show va_rf _ = _; rw [hN14]; rfl) dX13_see_82 ?_
            refine lv_aload_n hx hb dX13_see_85 rfl (lv_at hl 0 rfl) ?_
            refine r_get (T := TX13) (v := .int (gI (pI (pI M a0 0 0) b12 (ix (gI (pI M a0 0 0) a0 25)) x1) a0 25)) hx hb hts in13 hown hK hP k0 (by decide) rfl 25 (by decide) (hts (.fieldLink RX13 434 "StoneWalkModel" "seen" "I") (List.mem_of_getElem? (i := 3) (by decide +kernel))) rfl (t := 0) rfl rfl dX13_see_86 ?_
            refine lv_iload_n hx hb dX13_see_89 rfl (lv_at hl 2 rfl) ?_
            obtain ⟨hn15, h⟩ := chk_some h
            refine r_iast hx hb hK hP hD hT hS kb14 hn15 dX13_see_90 (fun H locs hP hD hT hS => ?_)
            refine lv_aload_n hx hb dX13_see_91 rfl (lv_at hl 0 rfl) ?_
            rcases hN16 : gR (pI (pI (pI M a0 0 0) b12 (ix (gI (pI M a0 0 0) a0 25)) x1) b14 (ix (gI (pI (pI M a0 0 0) b12 (ix (gI (pI M a0 0 0) a0 25)) x1) a0 25)) x2) a0 28 with _ | b16
            · exact absurd (oc_n hN16 h) (by simp)
            replace h := oc_s hN16 h
            have kb16 := hT.f k0 (k := 28) (t := 15) (n := 12) rfl hN16
            refine r_get (T := TX13) (v := .ref (ad b16)) hx hb hts in13 hown hK hP k0 (by decide) rfl 28 (by decide) (hts (.fieldLink RX13 27 "StoneWalkModel" "seenOff" "[I") (List.mem_of_getElem? (i := 6) (by decide +kernel))) rfl (t := 2) rfl (by show va_rf _ = _; rw [hN16]; rfl) dX13_see_92 ?_
            refine lv_aload_n hx hb dX13_see_95 rfl (lv_at hl 0 rfl) ?_
            refine r_get (T := TX13) (v := .int (gI (pI (pI (pI M a0 0 0) b12 (ix (gI (pI M a0 0 0) a0 25)) x1) b14 (ix (gI (pI (pI M a0 0 0) b12 (ix (gI (pI M a0 0 0) a0 25)) x1) a0 25)) x2) a0 25)) hx hb hts in13 hown hK hP k0 (by decide) rfl 25 (by decide) (hts (.fieldLink RX13 434 "StoneWalkModel" "seen" "I") (List.mem_of_getElem? (i := 3) (by decide +kernel))) rfl (t := 0) rfl rfl dX13_see_96 ?_
            refine lv_iload_n hx hb dX13_see_99 rfl (lv_at hl 3 rfl) ?_
            obtain ⟨hn17, h⟩ := chk_some h
            refine r_iast hx hb hK hP hD hT hS kb16 hn17 dX13_see_100 (fun H locs hP hD hT hS => ?_)
            refine lv_aload_n hx hb dX13_see_101 rfl (lv_at hl 0 rfl) ?_
            refine lv_dup hx hb dX13_see_102 rfl ?_
            refine r_get (T := TX13) (v := .int (gI (pI (pI (pI (pI M a0 0 0) b12 (ix (gI (pI M a0 0 0) a0 25)) x1) b14 (ix (gI (pI (pI M a0 0 0) b12 (ix (gI (pI M a0 0 0) a0 25)) x1) a0 25)) x2) b16 (ix (gI (pI (pI (pI M a0 0 0) b12 (ix (gI (pI M a0 0 0) a0 25)) x1) b14 (ix (gI (pI (pI M a0 0 0) b12 (ix (gI (pI M a0 0 0) a0 25)) x1) a0 25)) x2) a0 25)) x3) a0 25)) hx hb hts in13 hown hK hP k0 (by decide) rfl 25 (by decide) (hts (.fieldLink RX13 434 "StoneWalkModel" "seen" "I") (List.mem_of_getElem? (i := 3) (by decide +kernel))) rfl (t := 0) rfl rfl dX13_see_103 ?_
            refine lv_iconst (v := 1) hx hb dX13_see_106 rfl ?_
            refine lv_iadd hx hb dX13_see_107 ?_
            refine r_putI (T := TX13) (ty := .int) (v := (gI (pI (pI (pI (pI M a0 0 0) b12 (ix (gI (pI M a0 0 0) a0 25)) x1) b14 (ix (gI (pI (pI M a0 0 0) b12 (ix (gI (pI M a0 0 0) a0 25)) x1) a0 25)) x2) b16 (ix (gI (pI (pI (pI M a0 0 0) b12 (ix (gI (pI M a0 0 0) a0 25)) x1) b14 (ix (gI (pI (pI M a0 0 0) b12 (ix (gI (pI M a0 0 0) a0 25)) x1) a0 25)) x2) a0 25)) x3) a0 25) + 1) hx hb hts in13 tyX13 tyX13_ok nmX13 hown hK hP hD hT hS k0 (by decide) rfl 25 (by decide) (hts (.fieldLink RX13 434 "StoneWalkModel" "seen" "I") (List.mem_of_getElem? (i := 3) (by decide +kernel))) rfl rfl (tyX13_ok 25 (by decide)) rfl rfl rfl dX13_see_108 (fun H locs hP hD hT hS => ?_)
            refine lv_aload_n hx hb dX13_see_111 rfl (lv_at hl 0 rfl) ?_
            refine lv_aload_n hx hb dX13_see_112 rfl (lv_at hl 0 rfl) ?_
            refine r_get (T := TX13) (v := .int (gI (pI (pI (pI (pI (pI M a0 0 0) b12 (ix (gI (pI M a0 0 0) a0 25)) x1) b14 (ix (gI (pI (pI M a0 0 0) b12 (ix (gI (pI M a0 0 0) a0 25)) x1) a0 25)) x2) b16 (ix (gI (pI (pI (pI M a0 0 0) b12 (ix (gI (pI M a0 0 0) a0 25)) x1) b14 (ix (gI (pI (pI M a0 0 0) b12 (ix (gI (pI M a0 0 0) a0 25)) x1) a0 25)) x2) a0 25)) x3) a0 25 ((gI (pI (pI (pI (pI M a0 0 0) b12 (ix (gI (pI M a0 0 0) a0 25)) x1) b14 (ix (gI (pI (pI M a0 0 0) b12 (ix (gI (pI M a0 0 0) a0 25)) x1) a0 25)) x2) b16 (ix (gI (pI (pI (pI M a0 0 0) b12 (ix (gI (pI M a0 0 0) a0 25)) x1) b14 (ix (gI (pI (pI M a0 0 0) b12 (ix (gI (pI M a0 0 0) a0 25)) x1) a0 25)) x2) a0 25)) x3) a0 25) + 1)) a0 25)) hx hb hts in13 hown hK hP k0 (by decide) rfl 25 (by decide) (hts (.fieldLink RX13 434 "StoneWalkModel" "seen" "I") (List.mem_of_getElem? (i := 3) (by decide +kernel))) rfl (t := 0) rfl rfl dX13_see_113 ?_
            obtain ⟨z18, h18, h⟩ := ob_some h
            refine k_i (va_runV (As := [.int (gI (pI (pI (pI (pI (pI M a0 0 0) b12 (ix (gI (pI M a0 0 0) a0 25)) x1) b14 (ix (gI (pI (pI M a0 0 0) b12 (ix (gI (pI M a0 0 0) a0 25)) x1) a0 25)) x2) b16 (ix (gI (pI (pI (pI M a0 0 0) b12 (ix (gI (pI M a0 0 0) a0 25)) x1) b14 (ix (gI (pI (pI M a0 0 0) b12 (ix (gI (pI M a0 0 0) a0 25)) x1) a0 25)) x2) a0 25)) x3) a0 25 ((gI (pI (pI (pI (pI M a0 0 0) b12 (ix (gI (pI M a0 0 0) a0 25)) x1) b14 (ix (gI (pI (pI M a0 0 0) b12 (ix (gI (pI M a0 0 0) a0 25)) x1) a0 25)) x2) b16 (ix (gI (pI (pI (pI M a0 0 0) b12 (ix (gI (pI M a0 0 0) a0 25)) x1) b14 (ix (gI (pI (pI M a0 0 0) b12 (ix (gI (pI M a0 0 0) a0 25)) x1) a0 25)) x2) a0 25)) x3) a0 25) + 1)) a0 25)]) (rest := []) ⟨hx, hb, hml, hown, hts⟩ (c_X13_done (l := l) (pI (pI (pI (pI (pI M a0 0 0) b12 (ix (gI (pI M a0 0 0) a0 25)) x1) b14 (ix (gI (pI (pI M a0 0 0) b12 (ix (gI (pI M a0 0 0) a0 25)) x1) a0 25)) x2) b16 (ix (gI (pI (pI (pI M a0 0 0) b12 (ix (gI (pI M a0 0 0) a0 25)) x1) b14 (ix (gI (pI (pI M a0 0 0) b12 (ix (gI (pI M a0 0 0) a0 25)) x1) a0 25)) x2) a0 25)) x3) a0 25 ((gI (pI (pI (pI (pI M a0 0 0) b12 (ix (gI (pI M a0 0 0) a0 25)) x1) b14 (ix (gI (pI (pI M a0 0 0) b12 (ix (gI (pI M a0 0 0) a0 25)) x1) a0 25)) x2) b16 (ix (gI (pI (pI (pI M a0 0 0) b12 (ix (gI (pI M a0 0 0) a0 25)) x1) b14 (ix (gI (pI (pI M a0 0 0) b12 (ix (gI (pI M a0 0 0) a0 25)) x1) a0 25)) x2) a0 25)) x3) a0 25) + 1)) a0 (gI (pI (pI (pI (pI (pI M a0 0 0) b12 (ix (gI (pI M a0 0 0) a0 25)) x1) b14 (ix (gI (pI (pI M a0 0 0) b12 (ix (gI (pI M a0 0 0) a0 25)) x1) a0 25)) x2) b16 (ix (gI (pI (pI (pI M a0 0 0) b12 (ix (gI (pI M a0 0 0) a0 25)) x1) b14 (ix (gI (pI (pI M a0 0 0) b12 (ix (gI (pI M a0 0 0) a0 25)) x1) a0 25)) x2) a0 25)) x3) a0 25 ((gI (pI (pI (pI (pI M a0 0 0) b12 (ix (gI (pI M a0 0 0) a0 25)) x1) b14 (ix (gI (pI (pI M a0 0 0) b12 (ix (gI (pI M a0 0 0) a0 25)) x1) a0 25)) x2) b16 (ix (gI (pI (pI (pI M a0 0 0) b12 (ix (gI (pI M a0 0 0) a0 25)) x1) b14 (ix (gI (pI (pI M a0 0 0) b12 (ix (gI (pI M a0 0 0) a0 25)) x1) a0 25)) x2) a0 25)) x3) a0 25) + 1)) a0 25) k0 h18) (cwV 1 hts gX13_see_X13_done rfl rfl rfl hdV_X13_done ⟨Nat.le_of_ble_eq_true rfl, Nat.le_of_ble_eq_true rfl⟩) (pV (T := TX13) hP hK hD hT hG hS k0 (by decide) rfl) rfl rfl hl.1 rfl (lv_room (Nat.le_of_ble_eq_true rfl)) dX13_see_116 ⟨Nat.zero_le _, Nat.zero_le _⟩) hS (fun H locs hP hD hT hS => ?_)
            have hZ := Option.some.inj h
            exact r_iret hx hb hr hlocks hP hK hD hT hG hS (congrArg Prod.fst hZ) (congrArg Prod.snd hZ) dX13_see_119
          · replace h := ite_t c11 h
            refine lv_aload_n hx hb dX13_see_65 rfl (lv_at hl 0 rfl) ?_
            refine lv_iconst (v := 3) hx hb dX13_see_66 rfl ?_
            obtain ⟨z19, h19, h⟩ := ob_some h
            refine k_i (va_runV (As := [.int 3]) (rest := []) ⟨hx, hb, hml, hown, hts⟩ (c_X13_refused (l := l) (pI M a0 0 0) a0 3 k0 h19) (cwV 1 hts gX13_see_X13_refused rfl rfl rfl hdV_X13_refused ⟨Nat.le_of_ble_eq_true rfl, Nat.le_of_ble_eq_true rfl⟩) (pV (T := TX13) hP hK hD hT hG hS k0 (by decide) rfl) rfl rfl hl.1 rfl (lv_room (Nat.le_of_ble_eq_true rfl)) dX13_see_67 ⟨Nat.zero_le _, Nat.zero_le _⟩) hS (fun H locs hP hD hT hS => ?_)
            have hZ := Option.some.inj h
            exact r_iret hx hb hr hlocks hP hK hD hT hG hS (congrArg Prod.fst hZ) (congrArg Prod.snd hZ) dX13_see_70
        · replace h := ite_t c10 h
          refine lv_aload_n hx hb dX13_see_50 rfl (lv_at hl 0 rfl) ?_
          refine lv_iconst (v := 2) hx hb dX13_see_51 rfl ?_
          obtain ⟨z20, h20, h⟩ := ob_some h
          refine k_i (va_runV (As := [.int 2]) (rest := []) ⟨hx, hb, hml, hown, hts⟩ (c_X13_refused (l := l) (pI M a0 0 0) a0 2 k0 h20) (cwV 1 hts gX13_see_X13_refused rfl rfl rfl hdV_X13_refused ⟨Nat.le_of_ble_eq_true rfl, Nat.le_of_ble_eq_true rfl⟩) (pV (T := TX13) hP hK hD hT hG hS k0 (by decide) rfl) rfl rfl hl.1 rfl (lv_room (Nat.le_of_ble_eq_true rfl)) dX13_see_52 ⟨Nat.zero_le _, Nat.zero_le _⟩) hS (fun H locs hP hD hT hS => ?_)
          have hZ := Option.some.inj h
          exact r_iret hx hb hr hlocks hP hK hD hT hG hS (congrArg Prod.fst hZ) (congrArg Prod.snd hZ) dX13_see_55
set_option maxHeartbeats 4000000 in
set_option maxRecDepth 100000 in
theorem c_X13_forget {l : Launch} {D : va_G} {ad : Nat → Nat} {cy : Nat → ClassId} {A : Nat → Prop} {g : CG} {q : SE} (M : MM) (a0 : Nat) (k0 : ok g a0 13 0) {Z : (Int32 × MM)} (h : f_X13_forget M a0 = some Z) : Met l yX13_forget wsX13_forget ({ frames := 0, cells := 0, slots := 0, locals := 0 }) (va_Pc [.ref (ad a0)] (Wd D ad cy A g q M)) (va_Qi (fun r u => r = Z.1 ∧ u = Z.2) (Wd D ad cy A g q) A) 0 0 A := by
  refine Met.ofW (cc := cX13_forget) (maxL := 2) (ret := (some .int)) (by decide) rfl ?_
  intro p e s m args below meth c s₁ B hml hv
  obtain ⟨rfl, hP, hK, hD, hT, hG⟩ := hv
  have hx := B.exec
  have hb := B.bytes
  have hr := B.returns
  have hts := atoms_spec (ws := wsX13_forget) B.pre
  have hown : s.vm.findClass RX13 = some m.cls := findClass_of_methodNamed B.named
  have hlocks := B.notSynchronized
  have in13 : ∀ w ∈ u_ws RX13 TX13 29, w ∈ wsX13_forget := fun w h => List.mem_cons_of_mem _ (List.mem_append_right _ h)
  have hS : va_S A s.heap s.heap [] := va_S.rf
  have hl := lv_entry ([.ref (ad a0)]) (n := 2) (Nat.le_of_ble_eq_true rfl)
  rw [lg_entry_eq]
  generalize (lg_sl ([.ref (ad a0)]) ++ List.replicate (2 - (lg_sl ([.ref (ad a0)])).length) Slot.unset).toArray = ls at hl ⊢
  have hl : lv_has ls 2 [(0, .ref (ad a0))] := hl
  unfold f_X13_forget at h
  refine lv_aload_n hx hb dX13_forget_0 rfl (lv_at hl 0 rfl) ?_
  refine lv_iconst (v := 0) hx hb dX13_forget_1 rfl ?_
  refine r_putI (T := TX13) (ty := .int) (v := 0) hx hb hts in13 tyX13 tyX13_ok nmX13 hown hK hP hD hT hS k0 (by decide) rfl 0 (by decide) (hts (.fieldLink RX13 30 "StoneWalkModel" "thrown" "I") (List.mem_of_getElem? (i := 1) (by decide +kernel))) rfl rfl (tyX13_ok 0 (by decide)) rfl rfl rfl dX13_forget_2 (fun H locs hP hD hT hS => ?_)
  refine lv_aload_n hx hb dX13_forget_5 rfl (lv_at hl 0 rfl) ?_
  refine r_get (T := TX13) (v := .int (gI (pI M a0 0 0) a0 25)) hx hb hts in13 hown hK hP k0 (by decide) rfl 25 (by decide) (hts (.fieldLink RX13 434 "StoneWalkModel" "seen" "I") (List.mem_of_getElem? (i := 2) (by decide +kernel))) rfl (t := 0) rfl rfl dX13_forget_6 ?_
  refine lv_istore_n (lv' := [(1, .int (gI (pI M a0 0 0) a0 25)), (0, .ref (ad a0))]) hx hb dX13_forget_9 rfl hl (by decide) rfl (fun ls hl => ?_)
  refine lv_aload_n hx hb dX13_forget_10 rfl (lv_at hl 1 rfl) ?_
  refine lv_iconst (v := 0) hx hb dX13_forget_11 rfl ?_
  refine r_putI (T := TX13) (ty := .int) (v := 0) hx hb hts in13 tyX13 tyX13_ok nmX13 hown hK hP hD hT hS k0 (by decide) rfl 25 (by decide) (hts (.fieldLink RX13 434 "StoneWalkModel" "seen" "I") (List.mem_of_getElem? (i := 2) (by decide +kernel))) rfl rfl (tyX13_ok 25 (by decide)) rfl rfl rfl dX13_forget_12 (fun H locs hP hD hT hS => ?_)
  refine lv_iload_n hx hb dX13_forget_15 rfl (lv_at hl 0 rfl) ?_
  have hZ := Option.some.inj h
  exact r_iret hx hb hr hlocks hP hK hD hT hG hS (congrArg Prod.fst hZ) (congrArg Prod.snd hZ) dX13_forget_16
set_option maxHeartbeats 4000000 in
set_option maxRecDepth 100000 in
theorem c_X13_isFit {l : Launch} {D : va_G} {ad : Nat → Nat} {cy : Nat → ClassId} {A : Nat → Prop} {g : CG} {q : SE} (M : MM) (a0 : Nat) (x1 : Int32) (k0 : ok g a0 13 0) {Z : Int32} (h : f_X13_isFit M a0 x1 = some Z) : Met l yX13_isFit wsX13_isFit ({ frames := 2, cells := 0, slots := 0, locals := 52 }) (va_Pc [.ref (ad a0), .int x1] (Wd D ad cy A g q M)) (va_Qi (fun r u => r = Z ∧ u = M ∧ zb r) (Wd D ad cy A g q) A) 0 0 A := by
  refine Met.ofW (cc := cX13_isFit) (maxL := 4) (ret := (some .boolean)) (by decide) rfl ?_
  intro p e s m args below meth c s₁ B hml hv
  obtain ⟨rfl, hP, hK, hD, hT, hG⟩ := hv
  have hx := B.exec
  have hb := B.bytes
  have hr := B.returns
  have hts := atoms_spec (ws := wsX13_isFit) B.pre
  have hown : s.vm.findClass RX13 = some m.cls := findClass_of_methodNamed B.named
  have hlocks := B.notSynchronized
  have in13 : ∀ w ∈ u_ws RX13 TX13 29, w ∈ wsX13_isFit := fun w h => List.mem_cons_of_mem _ (List.mem_append_left _ (List.mem_append_right _ h))
  have hS : va_S A s.heap s.heap [] := va_S.rf
  have hl := lv_entry ([.ref (ad a0), .int x1]) (n := 4) (Nat.le_of_ble_eq_true rfl)
  rw [lg_entry_eq]
  generalize (lg_sl ([.ref (ad a0), .int x1]) ++ List.replicate (4 - (lg_sl ([.ref (ad a0), .int x1])).length) Slot.unset).toArray = ls at hl ⊢
  have hl : lv_has ls 4 [(0, .ref (ad a0)), (1, .int x1)] := hl
  unfold f_X13_isFit at h
  refine lv_iconst (v := 0) hx hb dX13_isFit_0 rfl ?_
  refine lv_istore_n (lv' := [(2, .int 0), (0, .ref (ad a0)), (1, .int x1)]) hx hb dX13_isFit_1 rfl hl (by decide) rfl (fun ls hl => ?_)
  have L1 : ∀ n1 : Nat, ∀ (y1_0 : Nat) (y1_1 : Int32) (y1_2 : Int32) (ky1_0 : ok g y1_0 13 0) (H : Heap) (locs : List Loc), f_X13_isFit_L2 n1 M y1_0 y1_1 y1_2 = some Z → va_P D vwCl (wd ad cy g M) H → va_D A (wd ad cy g M) → WT g M → va_S A s.heap H locs → ∀ (ls : Array Slot), lv_has ls 4 [(0, .ref (ad y1_0)), (1, .int y1_1), (2, .int y1_2)] → W p l e ((headSpec wsX13_isFit ({ frames := 2, cells := 0, slots := 0, locals := 52 })).room) s m (([.ref (ad a0), .int x1] : List Value).toArray) below meth c H locs 0 0 (MQ below (va_Qi (fun r u => r = Z ∧ u = M ∧ zb r) (Wd D ad cy A g q) A) ([.ref (ad a0), .int x1]).toArray s 0 0 A) (F0 m 2 ls []) := by
    intro n1
    induction n1 with
    | zero => intro y1_0 y1_1 y1_2 ky1_0 H locs h; exact absurd h (by simp [f_X13_isFit_L2])
    | succ n1 ih1 =>
      intro y1_0 y1_1 y1_2 ky1_0 H locs h hP hD hT hS ls hl
      rw [f_X13_isFit_L2] at h
      refine lv_iload_n hx hb dX13_isFit_2 rfl (lv_at hl 2 rfl) ?_
      refine lv_aload_n hx hb dX13_isFit_3 rfl (lv_at hl 0 rfl) ?_
      refine r_get (T := TX13) (v := .int (gI M y1_0 25)) hx hb hts in13 hown hK hP ky1_0 (by decide) rfl 25 (by decide) (hts (.fieldLink RX13 434 "StoneWalkModel" "seen" "I") (List.mem_of_getElem? (i := 1) (by decide +kernel))) rfl (t := 0) rfl rfl dX13_isFit_4 ?_
      refine lv_icmp_ge (tgt := 58) hx hb dX13_isFit_7 rfl (fun c2 => ?_) (fun c2 => ?_)
      · replace h := ite_t c2 h
        refine lv_iconst (v := 1) hx hb dX13_isFit_58 rfl ?_
        exact r_zret hx hb hr hlocks hP hK hD hT hG hS zb_1 (Option.some.inj h) rfl dX13_isFit_59
      · replace h := ite_f c2 h
        refine lv_aload_n hx hb dX13_isFit_10 rfl (lv_at hl 0 rfl) ?_
        refine lv_iload_n hx hb dX13_isFit_11 rfl (lv_at hl 1 rfl) ?_
        refine lv_aload_n hx hb dX13_isFit_12 rfl (lv_at hl 0 rfl) ?_
        rcases hN3 : gR M y1_0 26 with _ | b3
        · exact absurd (oc_n hN3 h) (by simp)
        replace h := oc_s hN3 h
        have kb3 := hT.f ky1_0 (k := 26) (t := 15) (n := 12) rfl hN3
        refine r_get (T := TX13) (v := .ref (ad b3)) hx hb hts in13 hown hK hP ky1_0 (by decide) rfl 26 (by decide) (hts (.fieldLink RX13 20 "StoneWalkModel" "seenYear" "[I") (List.mem_of_getElem? (i := 2) (by decide +kernel))) rfl (t := 2) rfl (by show va_rf _ = _; rw [hN3]; rfl) dX13_isFit_13 ?_
        refine lv_iload_n hx hb dX13_isFit_16 rfl (lv_at hl 2 rfl) ?_
        obtain ⟨hn4, h⟩ := chk_some h
        refine r_iald hx hb hK hP kb3 hn4 dX13_isFit_17 ?_
        obtain ⟨z5, h5, h⟩ := ob_some h
        refine k_i (va_runV (As := [.int y1_1, .int (gI M b3 (ix y1_2))]) (rest := []) ⟨hx, hb, hml, hown, hts⟩ (c_X13_treesIn (l := l) M y1_0 y1_1 (gI M b3 (ix y1_2)) ky1_0 h5) (cwV 2 hts gX13_isFit_X13_treesIn rfl rfl rfl hdV_X13_treesIn ⟨Nat.le_of_ble_eq_true rfl, Nat.le_of_ble_eq_true rfl⟩) (pV (T := TX13) hP hK hD hT hG hS ky1_0 (by decide) rfl) rfl rfl hl.1 rfl (lv_room (Nat.le_of_ble_eq_true rfl)) dX13_isFit_18 ⟨Nat.zero_le _, Nat.zero_le _⟩) hS (fun H locs hP hD hT hS => ?_)
        refine lv_aload_n hx hb dX13_isFit_21 rfl (lv_at hl 0 rfl) ?_
        rcases hN6 : gR M y1_0 27 with _ | b6
        · exact absurd (oc_n hN6 h) (by simp)
        replace h := oc_s hN6 h
        have kb6 := hT.f ky1_0 (k := 27) (t := 15) (n := 12) rfl hN6
        refine r_get (T := TX13) (v := .ref (ad b6)) hx hb hts in13 hown hK hP ky1_0 (by decide) rfl 27 (by decide) (hts (.fieldLink RX13 24 "StoneWalkModel" "seenTrees" "[I") (List.mem_of_getElem? (i := 3) (by decide +kernel))) rfl (t := 2) rfl (by show va_rf _ = _; rw [hN6]; rfl) dX13_isFit_22 ?_
        refine lv_iload_n hx hb dX13_isFit_25 rfl (lv_at hl 2 rfl) ?_
        obtain ⟨hn7, h⟩ := chk_some h
        refine r_iald hx hb hK hP kb6 hn7 dX13_isFit_26 ?_
        refine lv_isub hx hb dX13_isFit_27 ?_
        refine lv_istore_n (lv' := [(3, .int (z5 - (gI M b6 (ix y1_2)))), (0, .ref (ad y1_0)), (1, .int y1_1), (2, .int y1_2)]) hx hb dX13_isFit_28 rfl hl (by decide) rfl (fun ls hl => ?_)
        refine lv_iload_n hx hb dX13_isFit_29 rfl (lv_at hl 0 rfl) ?_
        refine lv_aload_n hx hb dX13_isFit_30 rfl (lv_at hl 1 rfl) ?_
        rcases hN8 : gR M y1_0 28 with _ | b8
        · exact absurd (oc_n hN8 h) (by simp)
        replace h := oc_s hN8 h
        have kb8 := hT.f ky1_0 (k := 28) (t := 15) (n := 12) rfl hN8
        refine r_get (T := TX13) (v := .ref (ad b8)) hx hb hts in13 hown hK hP ky1_0 (by decide) rfl 28 (by decide) (hts (.fieldLink RX13 27 "StoneWalkModel" "seenOff" "[I") (List.mem_of_getElem? (i := 4) (by decide +kernel))) rfl (t := 2) rfl (by show va_rf _ = _; rw [hN8]; rfl) dX13_isFit_31 ?_
        refine lv_iload_n hx hb dX13_isFit_34 rfl (lv_at hl 3 rfl) ?_
        obtain ⟨hn9, h⟩ := chk_some h
        refine r_iald hx hb hK hP kb8 hn9 dX13_isFit_35 ?_
        refine lv_icmp_gt (tgt := 50) hx hb dX13_isFit_36 rfl (fun c10 => ?_) (fun c10 => ?_)
        · replace h := ite_t c10 h
          refine lv_iconst (v := 0) hx hb dX13_isFit_50 rfl ?_
          exact r_zret hx hb hr hlocks hP hK hD hT hG hS zb_0 (Option.some.inj h) rfl dX13_isFit_51
        · replace h := ite_f c10 h
          refine lv_iload_n hx hb dX13_isFit_39 rfl (lv_at hl 0 rfl) ?_
          refine lv_ineg hx hb dX13_isFit_40 ?_
          refine lv_aload_n hx hb dX13_isFit_41 rfl (lv_at hl 1 rfl) ?_
          rcases hN11 : gR M y1_0 28 with _ | b11
          · exact absurd (oc_n hN11 h) (by simp)
          replace h := oc_s hN11 h
          have kb11 := hT.f ky1_0 (k := 28) (t := 15) (n := 12) rfl hN11
          refine r_get (T := TX13) (v := .ref (ad b11)) hx hb hts in13 hown hK hP ky1_0 (by decide) rfl 28 (by decide) (hts (.fieldLink RX13 27 "StoneWalkModel" "seenOff" "[I") (List.mem_of_getElem? (i := 4) (by decide +kernel))) rfl (t := 2) rfl (by show va_rf _ = _; rw [hN11]; rfl) dX13_isFit_42 ?_
          refine lv_iload_n hx hb dX13_isFit_45 rfl (lv_at hl 3 rfl) ?_
          obtain ⟨hn12, h⟩ := chk_some h
          refine r_iald hx hb hK hP kb11 hn12 dX13_isFit_46 ?_
          refine lv_icmp_le (tgt := 52) hx hb dX13_isFit_47 rfl (fun c13 => ?_) (fun c13 => ?_)
          · replace h := ite_t c13 h
            refine lv_iinc (v := y1_2 + 1) (lv' := [(2, .int (y1_2 + 1)), (3, .int (z5 - (gI M b6 (ix y1_2)))), (0, .ref (ad y1_0)), (1, .int y1_1)]) hx hb dX13_isFit_52 hl (k := 3) rfl rfl (by decide) rfl (fun ls hl => ?_)
            refine lv_goto (tgt := 2) hx hb dX13_isFit_55 rfl ?_
            exact ih1 y1_0 y1_1 (y1_2 + 1) ky1_0 _ _ h hP hD hT hS ls (lv_sub hl [2, 3, 0] rfl)
          · replace h := ite_f c13 h
            refine lv_iconst (v := 0) hx hb dX13_isFit_50 rfl ?_
            exact r_zret hx hb hr hlocks hP hK hD hT hG hS zb_0 (Option.some.inj h) rfl dX13_isFit_51
  exact L1 FU a0 x1 0 k0 _ _ h hP hD hT hS ls (lv_sub hl [1, 2, 0] rfl)
set_option maxHeartbeats 4000000 in
set_option maxRecDepth 100000 in
theorem c_X13_fitting {l : Launch} {D : va_G} {ad : Nat → Nat} {cy : Nat → ClassId} {A : Nat → Prop} {g : CG} {q : SE} (M : MM) (a0 : Nat) (k0 : ok g a0 13 0) {Z : Int32} (h : f_X13_fitting M a0 = some Z) : Met l yX13_fitting wsX13_fitting ({ frames := 3, cells := 0, slots := 0, locals := 75 }) (va_Pc [.ref (ad a0)] (Wd D ad cy A g q M)) (va_Qi (fun r u => r = Z ∧ u = M) (Wd D ad cy A g q) A) 0 0 A := by
  refine Met.ofW (cc := cX13_fitting) (maxL := 3) (ret := (some .int)) (by decide) rfl ?_
  intro p e s m args below meth c s₁ B hml hv
  obtain ⟨rfl, hP, hK, hD, hT, hG⟩ := hv
  have hx := B.exec
  have hb := B.bytes
  have hr := B.returns
  have hts := atoms_spec (ws := wsX13_fitting) B.pre
  have hown : s.vm.findClass RX13 = some m.cls := findClass_of_methodNamed B.named
  have hlocks := B.notSynchronized
  have in12 : ∀ w ∈ u_ws RX12 TX12 48, w ∈ wsX13_fitting := fun w h => List.mem_cons_of_mem _ (List.mem_append_right _ h)
  have in13 : ∀ w ∈ u_ws RX13 TX13 29, w ∈ wsX13_fitting := fun w h => List.mem_cons_of_mem _ (List.mem_append_left _ (List.mem_append_right _ h))
  have hS : va_S A s.heap s.heap [] := va_S.rf
  have hl := lv_entry ([.ref (ad a0)]) (n := 3) (Nat.le_of_ble_eq_true rfl)
  rw [lg_entry_eq]
  generalize (lg_sl ([.ref (ad a0)]) ++ List.replicate (3 - (lg_sl ([.ref (ad a0)])).length) Slot.unset).toArray = ls at hl ⊢
  have hl : lv_has ls 3 [(0, .ref (ad a0))] := hl
  unfold f_X13_fitting at h
  refine lv_iconst (v := 0) hx hb dX13_fitting_0 rfl ?_
  refine lv_istore_n (lv' := [(1, .int 0), (0, .ref (ad a0))]) hx hb dX13_fitting_1 rfl hl (by decide) rfl (fun ls hl => ?_)
  refine lv_iconst (v := 0) hx hb dX13_fitting_2 rfl ?_
  refine lv_istore_n (lv' := [(2, .int 0), (1, .int 0), (0, .ref (ad a0))]) hx hb dX13_fitting_3 rfl hl (by decide) rfl (fun ls hl => ?_)
  have L1 : ∀ n1 : Nat, ∀ (y1_0 : Nat) (y1_1 : Int32) (y1_2 : Int32) (ky1_0 : ok g y1_0 13 0) (H : Heap) (locs : List Loc), f_X13_fitting_L4 n1 M y1_0 y1_1 y1_2 = some Z → va_P D vwCl (wd ad cy g M) H → va_D A (wd ad cy g M) → WT g M → va_S A s.heap H locs → ∀ (ls : Array Slot), lv_has ls 3 [(0, .ref (ad y1_0)), (1, .int y1_1), (2, .int y1_2)] → W p l e ((headSpec wsX13_fitting ({ frames := 3, cells := 0, slots := 0, locals := 75 })).room) s m (([.ref (ad a0)] : List Value).toArray) below meth c H locs 0 0 (MQ below (va_Qi (fun r u => r = Z ∧ u = M) (Wd D ad cy A g q) A) ([.ref (ad a0)]).toArray s 0 0 A) (F0 m 4 ls []) := by
    intro n1
    induction n1 with
    | zero => intro y1_0 y1_1 y1_2 ky1_0 H locs h; exact absurd h (by simp [f_X13_fitting_L4])
    | succ n1 ih1 =>
      intro y1_0 y1_1 y1_2 ky1_0 H locs h hP hD hT hS ls hl
      rw [f_X13_fitting_L4] at h
      refine lv_iload_n hx hb dX13_fitting_4 rfl (lv_at hl 2 rfl) ?_
      refine lv_aload_n hx hb dX13_fitting_5 rfl (lv_at hl 0 rfl) ?_
      rcases hN2 : gR M y1_0 3 with _ | b2
      · replace h := oc_n hN2 h
        refine r_get (T := TX13) (v := .null) hx hb hts in13 hown hK hP ky1_0 (by decide) rfl 3 (by decide) (hts (.fieldLink RX13 431 "StoneWalkModel" "island" "LStoneWalkModel$Island;") (List.mem_of_getElem? (i := 1) (by decide +kernel))) rfl (t := 2) rfl (by show va_rf _ = _; rw [hN2]; rfl) dX13_fitting_6 ?_
        exact absurd h (by simp)
      · replace h := oc_s hN2 h
        have kb2 := hT.f ky1_0 (k := 3) (t := 12) (n := 0) rfl hN2
        refine r_get (T := TX13) (v := .ref (ad b2)) hx hb hts in13 hown hK hP ky1_0 (by decide) rfl 3 (by decide) (hts (.fieldLink RX13 431 "StoneWalkModel" "island" "LStoneWalkModel$Island;") (List.mem_of_getElem? (i := 1) (by decide +kernel))) rfl (t := 2) rfl (by show va_rf _ = _; rw [hN2]; rfl) dX13_fitting_6 ?_
        refine r_getN (T := TX12) (v := .int (gI M b2 5)) hx hb hts in12 hown hK hP kb2 (by decide) rfl 5 (by decide) (hG.2.2.1 _ (List.mem_of_getElem? (i := 36) rfl)) rfl (t := 0) rfl rfl dX13_fitting_9 ?_
        refine lv_icmp_ge (tgt := 39) hx hb dX13_fitting_12 rfl (fun c3 => ?_) (fun c3 => ?_)
        · replace h := ite_t c3 h
          refine lv_iload_n hx hb dX13_fitting_39 rfl (lv_at hl 1 rfl) ?_
          exact r_iret hx hb hr hlocks hP hK hD hT hG hS (Option.some.inj h) rfl dX13_fitting_40
        · replace h := ite_f c3 h
          refine lv_iload_n hx hb dX13_fitting_15 rfl (lv_at hl 1 rfl) ?_
          refine lv_aload_n hx hb dX13_fitting_16 rfl (lv_at hl 0 rfl) ?_
          refine lv_iload_n hx hb dX13_fitting_17 rfl (lv_at hl 2 rfl) ?_
          obtain ⟨z4, h4, h⟩ := ob_some h
          refine k_z (va_runV (As := [.int y1_2]) (rest := [.int y1_1]) ⟨hx, hb, hml, hown, hts⟩ (c_X13_isFit (l := l) M y1_0 y1_2 ky1_0 h4) (cwV 1 hts gX13_fitting_X13_isFit rfl rfl rfl hdV_X13_isFit ⟨Nat.le_of_ble_eq_true rfl, Nat.le_of_ble_eq_true rfl⟩) (pV (T := TX13) hP hK hD hT hG hS ky1_0 (by decide) rfl) rfl rfl hl.1 rfl (lv_room (Nat.le_of_ble_eq_true rfl)) dX13_fitting_18 ⟨Nat.zero_le _, Nat.zero_le _⟩) hS (fun H locs hz4 hP hD hT hS => ?_)
          refine lv_if_eq (tgt := 30) hx hb dX13_fitting_21 rfl (fun c5 => ?_) (fun c5 => ?_)
          · replace h := ite_t c5 h
            refine lv_iconst (v := 0) hx hb dX13_fitting_30 rfl ?_
            refine lv_ior hx hb dX13_fitting_31 ?_
            refine lv_istore_n (lv' := [(1, .int (y1_1 ||| 0)), (0, .ref (ad y1_0)), (2, .int y1_2)]) hx hb dX13_fitting_32 rfl hl (by decide) rfl (fun ls hl => ?_)
            refine lv_iinc (v := y1_2 + 1) (lv' := [(2, .int (y1_2 + 1)), (1, .int (y1_1 ||| 0)), (0, .ref (ad y1_0))]) hx hb dX13_fitting_33 hl (k := 2) rfl rfl (by decide) rfl (fun ls hl => ?_)
            refine lv_goto (tgt := 4) hx hb dX13_fitting_36 rfl ?_
            exact ih1 y1_0 (y1_1 ||| 0) (y1_2 + 1) ky1_0 _ _ h hP hD hT hS ls (lv_sub hl [2, 1, 0] rfl)
          · replace h := ite_f c5 h
            refine lv_iconst (v := 1) hx hb dX13_fitting_24 rfl ?_
            refine lv_iload_n hx hb dX13_fitting_25 rfl (lv_at hl 2 rfl) ?_
            refine lv_ishl hx hb dX13_fitting_26 ?_
            refine lv_goto (tgt := 31) hx hb dX13_fitting_27 rfl ?_
            refine lv_ior hx hb dX13_fitting_31 ?_
            refine lv_istore_n (lv' := [(1, .int (y1_1 ||| (1 <<< (y1_2 &&& 31)))), (0, .ref (ad y1_0)), (2, .int y1_2)]) hx hb dX13_fitting_32 rfl hl (by decide) rfl (fun ls hl => ?_)
            refine lv_iinc (v := y1_2 + 1) (lv' := [(2, .int (y1_2 + 1)), (1, .int (y1_1 ||| (1 <<< (y1_2 &&& 31)))), (0, .ref (ad y1_0))]) hx hb dX13_fitting_33 hl (k := 2) rfl rfl (by decide) rfl (fun ls hl => ?_)
            refine lv_goto (tgt := 4) hx hb dX13_fitting_36 rfl ?_
            exact ih1 y1_0 (y1_1 ||| (1 <<< (y1_2 &&& 31))) (y1_2 + 1) ky1_0 _ _ h hP hD hT hS ls (lv_sub hl [2, 1, 0] rfl)
  exact L1 FU a0 0 0 k0 _ _ h hP hD hT hS ls (lv_sub hl [2, 1, 0] rfl)
set_option maxHeartbeats 4000000 in
set_option maxRecDepth 100000 in
theorem c_X13_fits {l : Launch} {D : va_G} {ad : Nat → Nat} {cy : Nat → ClassId} {A : Nat → Prop} {g : CG} {q : SE} (M : MM) (a0 : Nat) (k0 : ok g a0 13 0) {Z : (Int32 × MM)} (h : f_X13_fits M a0 = some Z) : Met l yX13_fits wsX13_fits ({ frames := 4, cells := 0, slots := 0, locals := 97 }) (va_Pc [.ref (ad a0)] (Wd D ad cy A g q M)) (va_Qi (fun r u => r = Z.1 ∧ u = Z.2) (Wd D ad cy A g q) A) 0 0 A := by
  refine Met.ofW (cc := cX13_fits) (maxL := 1) (ret := (some .int)) (by decide) rfl ?_
  intro p e s m args below meth c s₁ B hml hv
  obtain ⟨rfl, hP, hK, hD, hT, hG⟩ := hv
  have hx := B.exec
  have hb := B.bytes
  have hr := B.returns
  have hts := atoms_spec (ws := wsX13_fits) B.pre
  have hown : s.vm.findClass RX13 = some m.cls := findClass_of_methodNamed B.named
  have hlocks := B.notSynchronized
  have in12 : ∀ w ∈ u_ws RX12 TX12 48, w ∈ wsX13_fits := fun w h => List.mem_cons_of_mem _ (List.mem_append_right _ h)
  have in13 : ∀ w ∈ u_ws RX13 TX13 29, w ∈ wsX13_fits := fun w h => List.mem_cons_of_mem _ (List.mem_append_left _ (List.mem_append_right _ h))
  have hS : va_S A s.heap s.heap [] := va_S.rf
  have hl := lv_entry ([.ref (ad a0)]) (n := 1) (Nat.le_of_ble_eq_true rfl)
  rw [lg_entry_eq]
  generalize (lg_sl ([.ref (ad a0)]) ++ List.replicate (1 - (lg_sl ([.ref (ad a0)])).length) Slot.unset).toArray = ls at hl ⊢
  have hl : lv_has ls 1 [(0, .ref (ad a0))] := hl
  unfold f_X13_fits at h
  refine lv_aload_n hx hb dX13_fits_0 rfl (lv_at hl 0 rfl) ?_
  refine lv_iconst (v := 0) hx hb dX13_fits_1 rfl ?_
  refine r_putI (T := TX13) (ty := .int) (v := 0) hx hb hts in13 tyX13 tyX13_ok nmX13 hown hK hP hD hT hS k0 (by decide) rfl 0 (by decide) (hts (.fieldLink RX13 30 "StoneWalkModel" "thrown" "I") (List.mem_of_getElem? (i := 1) (by decide +kernel))) rfl rfl (tyX13_ok 0 (by decide)) rfl rfl rfl dX13_fits_2 (fun H locs hP hD hT hS => ?_)
  refine lv_aload_n hx hb dX13_fits_5 rfl (lv_at hl 0 rfl) ?_
  rcases hN1 : gR (pI M a0 0 0) a0 3 with _ | b1
  · replace h := oc_n hN1 h
    refine r_get (T := TX13) (v := .null) hx hb hts in13 hown hK hP k0 (by decide) rfl 3 (by decide) (hts (.fieldLink RX13 431 "StoneWalkModel" "island" "LStoneWalkModel$Island;") (List.mem_of_getElem? (i := 2) (by decide +kernel))) rfl (t := 2) rfl (by show va_rf _ = _; rw [hN1]; rfl) dX13_fits_6 ?_
    refine lv_ifnonnullN hx hb dX13_fits_9 ?_
    refine lv_aload_n hx hb dX13_fits_12 rfl (lv_at hl 0 rfl) ?_
    refine lv_iconst (v := 1) hx hb dX13_fits_13 rfl ?_
    obtain ⟨z2, h2, h⟩ := ob_some h
    refine k_i (va_runV (As := [.int 1]) (rest := []) ⟨hx, hb, hml, hown, hts⟩ (c_X13_refused (l := l) (pI M a0 0 0) a0 1 k0 h2) (cwV 1 hts gX13_fits_X13_refused rfl rfl rfl hdV_X13_refused ⟨Nat.le_of_ble_eq_true rfl, Nat.le_of_ble_eq_true rfl⟩) (pV (T := TX13) hP hK hD hT hG hS k0 (by decide) rfl) rfl rfl hl.1 rfl (lv_room (Nat.le_of_ble_eq_true rfl)) dX13_fits_14 ⟨Nat.zero_le _, Nat.zero_le _⟩) hS (fun H locs hP hD hT hS => ?_)
    have hZ := Option.some.inj h
    exact r_iret hx hb hr hlocks hP hK hD hT hG hS (congrArg Prod.fst hZ) (congrArg Prod.snd hZ) dX13_fits_17
  · replace h := oc_s hN1 h
    have kb1 := hT.f k0 (k := 3) (t := 12) (n := 0) rfl hN1
    refine r_get (T := TX13) (v := .ref (ad b1)) hx hb hts in13 hown hK hP k0 (by decide) rfl 3 (by decide) (hts (.fieldLink RX13 431 "StoneWalkModel" "island" "LStoneWalkModel$Island;") (List.mem_of_getElem? (i := 2) (by decide +kernel))) rfl (t := 2) rfl (by show va_rf _ = _; rw [hN1]; rfl) dX13_fits_6 ?_
    refine lv_ifnonnull (tgt := 18) hx hb dX13_fits_9 rfl ?_
    refine lv_aload_n hx hb dX13_fits_18 rfl (lv_at hl 0 rfl) ?_
    rcases hN3 : gR (pI M a0 0 0) a0 3 with _ | b3
    · replace h := oc_n hN3 h
      refine r_get (T := TX13) (v := .null) hx hb hts in13 hown hK hP k0 (by decide) rfl 3 (by decide) (hts (.fieldLink RX13 431 "StoneWalkModel" "island" "LStoneWalkModel$Island;") (List.mem_of_getElem? (i := 2) (by decide +kernel))) rfl (t := 2) rfl (by show va_rf _ = _; rw [hN3]; rfl) dX13_fits_19 ?_
      exact absurd h (by simp)
    · replace h := oc_s hN3 h
      have kb3 := hT.f k0 (k := 3) (t := 12) (n := 0) rfl hN3
      refine r_get (T := TX13) (v := .ref (ad b3)) hx hb hts in13 hown hK hP k0 (by decide) rfl 3 (by decide) (hts (.fieldLink RX13 431 "StoneWalkModel" "island" "LStoneWalkModel$Island;") (List.mem_of_getElem? (i := 2) (by decide +kernel))) rfl (t := 2) rfl (by show va_rf _ = _; rw [hN3]; rfl) dX13_fits_19 ?_
      refine r_getN (T := TX12) (v := .int (gI (pI M a0 0 0) b3 27)) hx hb hts in12 hown hK hP kb3 (by decide) rfl 27 (by decide) (hG.2.2.1 _ (List.mem_of_getElem? (i := 28) rfl)) rfl (t := 0) rfl rfl dX13_fits_22 ?_
      refine lv_iconst (v := (-1)) hx hb dX13_fits_25 rfl ?_
      refine lv_icmp_ne (tgt := 38) hx hb dX13_fits_26 rfl (fun c4 => ?_) (fun c4 => ?_)
      · replace h := ite_f c4 h
        refine lv_aload_n hx hb dX13_fits_38 rfl (lv_at hl 0 rfl) ?_
        refine lv_aload_n hx hb dX13_fits_39 rfl (lv_at hl 0 rfl) ?_
        obtain ⟨z5, h5, h⟩ := ob_some h
        refine k_i (va_runV (As := []) (rest := [.ref (ad a0)]) ⟨hx, hb, hml, hown, hts⟩ (c_X13_fitting (l := l) (pI M a0 0 0) a0 k0 h5) (cwV 0 hts gX13_fits_X13_fitting rfl rfl rfl hdV_X13_fitting ⟨Nat.le_of_ble_eq_true rfl, Nat.le_of_ble_eq_true rfl⟩) (pV (T := TX13) hP hK hD hT hG hS k0 (by decide) rfl) rfl rfl hl.1 rfl (lv_room (Nat.le_of_ble_eq_true rfl)) dX13_fits_40 ⟨Nat.zero_le _, Nat.zero_le _⟩) hS (fun H locs hP hD hT hS => ?_)
        obtain ⟨z6, h6, h⟩ := ob_some h
        refine k_i (va_runV (As := [.int z5]) (rest := []) ⟨hx, hb, hml, hown, hts⟩ (c_X13_done (l := l) (pI M a0 0 0) a0 z5 k0 h6) (cwV 1 hts gX13_fits_X13_done rfl rfl rfl hdV_X13_done ⟨Nat.le_of_ble_eq_true rfl, Nat.le_of_ble_eq_true rfl⟩) (pV (T := TX13) hP hK hD hT hG hS k0 (by decide) rfl) rfl rfl hl.1 rfl (lv_room (Nat.le_of_ble_eq_true rfl)) dX13_fits_43 ⟨Nat.zero_le _, Nat.zero_le _⟩) hS (fun H locs hP hD hT hS => ?_)
        have hZ := Option.some.inj h
        exact r_iret hx hb hr hlocks hP hK hD hT hG hS (congrArg Prod.fst hZ) (congrArg Prod.snd hZ) dX13_fits_46
      · replace h := ite_t c4 h
        refine lv_aload_n hx hb dX13_fits_29 rfl (lv_at hl 0 rfl) ?_
        refine lv_bipush (v := 6) hx hb dX13_fits_30 rfl ?_
        obtain ⟨z7, h7, h⟩ := ob_some h
        refine k_i (va_runV (As := [.int 6]) (rest := []) ⟨hx, hb, hml, hown, hts⟩ (c_X13_refused (l := l) (pI M a0 0 0) a0 6 k0 h7) (cwV 1 hts gX13_fits_X13_refused rfl rfl rfl hdV_X13_refused ⟨Nat.le_of_ble_eq_true rfl, Nat.le_of_ble_eq_true rfl⟩) (pV (T := TX13) hP hK hD hT hG hS k0 (by decide) rfl) rfl rfl hl.1 rfl (lv_room (Nat.le_of_ble_eq_true rfl)) dX13_fits_32 ⟨Nat.zero_le _, Nat.zero_le _⟩) hS (fun H locs hP hD hT hS => ?_)
        refine lv_goto (tgt := 46) hx hb dX13_fits_35 rfl ?_
        have hZ := Option.some.inj h
        exact r_iret hx hb hr hlocks hP hK hD hT hG hS (congrArg Prod.fst hZ) (congrArg Prod.snd hZ) dX13_fits_46
set_option maxHeartbeats 4000000 in
set_option maxRecDepth 100000 in
theorem c_X13_weight {l : Launch} {D : va_G} {ad : Nat → Nat} {cy : Nat → ClassId} {A : Nat → Prop} {g : CG} {q : SE} (M : MM) (a0 : Nat) (k0 : ok g a0 13 0) {Z : (Int32 × MM)} (h : f_X13_weight M a0 = some Z) : Met l yX13_weight wsX13_weight ({ frames := 3, cells := 0, slots := 0, locals := 75 }) (va_Pc [.ref (ad a0)] (Wd D ad cy A g q M)) (va_Qi (fun r u => r = Z.1 ∧ u = Z.2) (Wd D ad cy A g q) A) 0 0 A := by
  refine Met.ofW (cc := cX13_weight) (maxL := 3) (ret := (some .int)) (by decide) rfl ?_
  intro p e s m args below meth c s₁ B hml hv
  obtain ⟨rfl, hP, hK, hD, hT, hG⟩ := hv
  have hx := B.exec
  have hb := B.bytes
  have hr := B.returns
  have hts := atoms_spec (ws := wsX13_weight) B.pre
  have hown : s.vm.findClass RX13 = some m.cls := findClass_of_methodNamed B.named
  have hlocks := B.notSynchronized
  have in12 : ∀ w ∈ u_ws RX12 TX12 48, w ∈ wsX13_weight := fun w h => List.mem_cons_of_mem _ (List.mem_append_right _ h)
  have in13 : ∀ w ∈ u_ws RX13 TX13 29, w ∈ wsX13_weight := fun w h => List.mem_cons_of_mem _ (List.mem_append_left _ (List.mem_append_right _ h))
  have hS : va_S A s.heap s.heap [] := va_S.rf
  have hl := lv_entry ([.ref (ad a0)]) (n := 3) (Nat.le_of_ble_eq_true rfl)
  rw [lg_entry_eq]
  generalize (lg_sl ([.ref (ad a0)]) ++ List.replicate (3 - (lg_sl ([.ref (ad a0)])).length) Slot.unset).toArray = ls at hl ⊢
  have hl : lv_has ls 3 [(0, .ref (ad a0))] := hl
  unfold f_X13_weight at h
  refine lv_aload_n hx hb dX13_weight_0 rfl (lv_at hl 0 rfl) ?_
  refine lv_iconst (v := 0) hx hb dX13_weight_1 rfl ?_
  refine r_putI (T := TX13) (ty := .int) (v := 0) hx hb hts in13 tyX13 tyX13_ok nmX13 hown hK hP hD hT hS k0 (by decide) rfl 0 (by decide) (hts (.fieldLink RX13 30 "StoneWalkModel" "thrown" "I") (List.mem_of_getElem? (i := 1) (by decide +kernel))) rfl rfl (tyX13_ok 0 (by decide)) rfl rfl rfl dX13_weight_2 (fun H locs hP hD hT hS => ?_)
  refine lv_aload_n hx hb dX13_weight_5 rfl (lv_at hl 0 rfl) ?_
  rcases hN1 : gR (pI M a0 0 0) a0 3 with _ | b1
  · replace h := oc_n hN1 h
    refine r_get (T := TX13) (v := .null) hx hb hts in13 hown hK hP k0 (by decide) rfl 3 (by decide) (hts (.fieldLink RX13 431 "StoneWalkModel" "island" "LStoneWalkModel$Island;") (List.mem_of_getElem? (i := 2) (by decide +kernel))) rfl (t := 2) rfl (by show va_rf _ = _; rw [hN1]; rfl) dX13_weight_6 ?_
    refine lv_ifnonnullN hx hb dX13_weight_9 ?_
    refine lv_aload_n hx hb dX13_weight_12 rfl (lv_at hl 0 rfl) ?_
    refine lv_iconst (v := 1) hx hb dX13_weight_13 rfl ?_
    obtain ⟨z2, h2, h⟩ := ob_some h
    refine k_i (va_runV (As := [.int 1]) (rest := []) ⟨hx, hb, hml, hown, hts⟩ (c_X13_refused (l := l) (pI M a0 0 0) a0 1 k0 h2) (cwV 1 hts gX13_weight_X13_refused rfl rfl rfl hdV_X13_refused ⟨Nat.le_of_ble_eq_true rfl, Nat.le_of_ble_eq_true rfl⟩) (pV (T := TX13) hP hK hD hT hG hS k0 (by decide) rfl) rfl rfl hl.1 rfl (lv_room (Nat.le_of_ble_eq_true rfl)) dX13_weight_14 ⟨Nat.zero_le _, Nat.zero_le _⟩) hS (fun H locs hP hD hT hS => ?_)
    have hZ := Option.some.inj h
    exact r_iret hx hb hr hlocks hP hK hD hT hG hS (congrArg Prod.fst hZ) (congrArg Prod.snd hZ) dX13_weight_17
  · replace h := oc_s hN1 h
    have kb1 := hT.f k0 (k := 3) (t := 12) (n := 0) rfl hN1
    refine r_get (T := TX13) (v := .ref (ad b1)) hx hb hts in13 hown hK hP k0 (by decide) rfl 3 (by decide) (hts (.fieldLink RX13 431 "StoneWalkModel" "island" "LStoneWalkModel$Island;") (List.mem_of_getElem? (i := 2) (by decide +kernel))) rfl (t := 2) rfl (by show va_rf _ = _; rw [hN1]; rfl) dX13_weight_6 ?_
    refine lv_ifnonnull (tgt := 18) hx hb dX13_weight_9 rfl ?_
    refine lv_aload_n hx hb dX13_weight_18 rfl (lv_at hl 0 rfl) ?_
    rcases hN3 : gR (pI M a0 0 0) a0 3 with _ | b3
    · replace h := oc_n hN3 h
      refine r_get (T := TX13) (v := .null) hx hb hts in13 hown hK hP k0 (by decide) rfl 3 (by decide) (hts (.fieldLink RX13 431 "StoneWalkModel" "island" "LStoneWalkModel$Island;") (List.mem_of_getElem? (i := 2) (by decide +kernel))) rfl (t := 2) rfl (by show va_rf _ = _; rw [hN3]; rfl) dX13_weight_19 ?_
      exact absurd h (by simp)
    · replace h := oc_s hN3 h
      have kb3 := hT.f k0 (k := 3) (t := 12) (n := 0) rfl hN3
      refine r_get (T := TX13) (v := .ref (ad b3)) hx hb hts in13 hown hK hP k0 (by decide) rfl 3 (by decide) (hts (.fieldLink RX13 431 "StoneWalkModel" "island" "LStoneWalkModel$Island;") (List.mem_of_getElem? (i := 2) (by decide +kernel))) rfl (t := 2) rfl (by show va_rf _ = _; rw [hN3]; rfl) dX13_weight_19 ?_
      refine r_getN (T := TX12) (v := .int (gI (pI M a0 0 0) b3 27)) hx hb hts in12 hown hK hP kb3 (by decide) rfl 27 (by decide) (hG.2.2.1 _ (List.mem_of_getElem? (i := 28) rfl)) rfl (t := 0) rfl rfl dX13_weight_22 ?_
      refine lv_iconst (v := (-1)) hx hb dX13_weight_25 rfl ?_
      refine lv_icmp_ne (tgt := 36) hx hb dX13_weight_26 rfl (fun c4 => ?_) (fun c4 => ?_)
      · replace h := ite_f c4 h
        refine lv_iconst (v := 0) hx hb dX13_weight_36 rfl ?_
        refine lv_istore_n (lv' := [(1, .int 0), (0, .ref (ad a0))]) hx hb dX13_weight_37 rfl hl (by decide) rfl (fun ls hl => ?_)
        refine lv_iconst (v := 0) hx hb dX13_weight_38 rfl ?_
        refine lv_istore_n (lv' := [(2, .int 0), (1, .int 0), (0, .ref (ad a0))]) hx hb dX13_weight_39 rfl hl (by decide) rfl (fun ls hl => ?_)
        have L5 : ∀ n5 : Nat, ∀ (M5 : MM) (y5_0 : Nat) (y5_1 : Int32) (y5_2 : Int32) (ky5_0 : ok g y5_0 13 0) (H : Heap) (locs : List Loc), f_X13_weight_L40 n5 M5 y5_0 y5_1 y5_2 = some Z → va_P D vwCl (wd ad cy g M5) H → va_D A (wd ad cy g M5) → WT g M5 → va_S A s.heap H locs → ∀ (ls : Array Slot), lv_has ls 3 [(0, .ref (ad y5_0)), (1, .int y5_1), (2, .int y5_2)] → W p l e ((headSpec wsX13_weight ({ frames := 3, cells := 0, slots := 0, locals := 75 })).room) s m (([.ref (ad a0)] : List Value).toArray) below meth c H locs 0 0 (MQ below (va_Qi (fun r u => r = Z.1 ∧ u = Z.2) (Wd D ad cy A g q) A) ([.ref (ad a0)]).toArray s 0 0 A) (F0 m 40 ls []) := by
          intro n5
          induction n5 with
          | zero => intro M5 y5_0 y5_1 y5_2 ky5_0 H locs h; exact absurd h (by simp [f_X13_weight_L40])
          | succ n5 ih5 =>
            intro M5 y5_0 y5_1 y5_2 ky5_0 H locs h hP hD hT hS ls hl
            rw [f_X13_weight_L40] at h
            refine lv_iload_n hx hb dX13_weight_40 rfl (lv_at hl 2 rfl) ?_
            refine lv_aload_n hx hb dX13_weight_41 rfl (lv_at hl 0 rfl) ?_
            rcases hN6 : gR M5 y5_0 3 with _ | b6
            · replace h := oc_n hN6 h
              refine r_get (T := TX13) (v := .null) hx hb hts in13 hown hK hP ky5_0 (by decide) rfl 3 (by decide) (hts (.fieldLink RX13 431 "StoneWalkModel" "island" "LStoneWalkModel$Island;") (List.mem_of_getElem? (i := 2) (by decide +kernel))) rfl (t := 2) rfl (by show va_rf _ = _; rw [hN6]; rfl) dX13_weight_42 ?_
              exact absurd h (by simp)
            · replace h := oc_s hN6 h
              have kb6 := hT.f ky5_0 (k := 3) (t := 12) (n := 0) rfl hN6
              refine r_get (T := TX13) (v := .ref (ad b6)) hx hb hts in13 hown hK hP ky5_0 (by decide) rfl 3 (by decide) (hts (.fieldLink RX13 431 "StoneWalkModel" "island" "LStoneWalkModel$Island;") (List.mem_of_getElem? (i := 2) (by decide +kernel))) rfl (t := 2) rfl (by show va_rf _ = _; rw [hN6]; rfl) dX13_weight_42 ?_
              refine r_getN (T := TX12) (v := .int (gI M5 b6 5)) hx hb hts in12 hown hK hP kb6 (by decide) rfl 5 (by decide) (hG.2.2.1 _ (List.mem_of_getElem? (i := 36) rfl)) rfl (t := 0) rfl rfl dX13_weight_45 ?_
              refine lv_icmp_ge (tgt := 81) hx hb dX13_weight_48 rfl (fun c7 => ?_) (fun c7 => ?_)
              · replace h := ite_t c7 h
                refine lv_aload_n hx hb dX13_weight_81 rfl (lv_at hl 0 rfl) ?_
                refine lv_iload_n hx hb dX13_weight_82 rfl (lv_at hl 1 rfl) ?_
                obtain ⟨z8, h8, h⟩ := ob_some h
                refine k_i (va_runV (As := [.int y5_1]) (rest := []) ⟨hx, hb, hml, hown, hts⟩ (c_X13_done (l := l) M5 y5_0 y5_1 ky5_0 h8) (cwV 1 hts gX13_weight_X13_done rfl rfl rfl hdV_X13_done ⟨Nat.le_of_ble_eq_true rfl, Nat.le_of_ble_eq_true rfl⟩) (pV (T := TX13) hP hK hD hT hG hS ky5_0 (by decide) rfl) rfl rfl hl.1 rfl (lv_room (Nat.le_of_ble_eq_true rfl)) dX13_weight_83 ⟨Nat.zero_le _, Nat.zero_le _⟩) hS (fun H locs hP hD hT hS => ?_)
                have hZ := Option.some.inj h
                exact r_iret hx hb hr hlocks hP hK hD hT hG hS (congrArg Prod.fst hZ) (congrArg Prod.snd hZ) dX13_weight_86
              · replace h := ite_f c7 h
                refine lv_iload_n hx hb dX13_weight_51 rfl (lv_at hl 1 rfl) ?_
                refine lv_aload_n hx hb dX13_weight_52 rfl (lv_at hl 0 rfl) ?_
                refine lv_iload_n hx hb dX13_weight_53 rfl (lv_at hl 2 rfl) ?_
                obtain ⟨z9, h9, h⟩ := ob_some h
                refine k_z (va_runV (As := [.int y5_2]) (rest := [.int y5_1]) ⟨hx, hb, hml, hown, hts⟩ (c_X13_isFit (l := l) M5 y5_0 y5_2 ky5_0 h9) (cwV 1 hts gX13_weight_X13_isFit rfl rfl rfl hdV_X13_isFit ⟨Nat.le_of_ble_eq_true rfl, Nat.le_of_ble_eq_true rfl⟩) (pV (T := TX13) hP hK hD hT hG hS ky5_0 (by decide) rfl) rfl rfl hl.1 rfl (lv_room (Nat.le_of_ble_eq_true rfl)) dX13_weight_54 ⟨Nat.zero_le _, Nat.zero_le _⟩) hS (fun H locs hz9 hP hD hT hS => ?_)
                refine lv_if_eq (tgt := 72) hx hb dX13_weight_57 rfl (fun c10 => ?_) (fun c10 => ?_)
                · replace h := ite_t c10 h
                  refine lv_iconst (v := 0) hx hb dX13_weight_72 rfl ?_
                  refine lv_iadd hx hb dX13_weight_73 ?_
                  refine lv_istore_n (lv' := [(1, .int (y5_1 + 0)), (0, .ref (ad y5_0)), (2, .int y5_2)]) hx hb dX13_weight_74 rfl hl (by decide) rfl (fun ls hl => ?_)
                  refine lv_iinc (v := y5_2 + 1) (lv' := [(2, .int (y5_2 + 1)), (1, .int (y5_1 + 0)), (0, .ref (ad y5_0))]) hx hb dX13_weight_75 hl (k := 2) rfl rfl (by decide) rfl (fun ls hl => ?_)
                  refine lv_goto (tgt := 40) hx hb dX13_weight_78 rfl ?_
                  exact ih5 M5 y5_0 (y5_1 + 0) (y5_2 + 1) ky5_0 _ _ h hP hD hT hS ls (lv_sub hl [2, 1, 0] rfl)
                · replace h := ite_f c10 h
                  refine lv_aload_n hx hb dX13_weight_60 rfl (lv_at hl 0 rfl) ?_
                  rcases hN11 : gR M5 y5_0 3 with _ | b11
                  · replace h := oc_n hN11 h
                    refine r_get (T := TX13) (v := .null) hx hb hts in13 hown hK hP ky5_0 (by decide) rfl 3 (by decide) (hts (.fieldLink RX13 431 "StoneWalkModel" "island" "LStoneWalkModel$Island;") (List.mem_of_getElem? (i := 2) (by decide +kernel))) rfl (t := 2) rfl (by show va_rf _ = _; rw [hN11]; rfl) dX13_weight_61 ?_
                    exact absurd h (by simp)
                  · replace h := oc_s hN11 h
                    have kb11 := hT.f ky5_0 (k := 3) (t := 12) (n := 0) rfl hN11
                    refine r_get (T := TX13) (v := .ref (ad b11)) hx hb hts in13 hown hK hP ky5_0 (by decide) rfl 3 (by decide) (hts (.fieldLink RX13 431 "StoneWalkModel" "island" "LStoneWalkModel$Island;") (List.mem_of_getElem? (i := 2) (by decide +kernel))) rfl (t := 2) rfl (by show va_rf _ = _; rw [hN11]; rfl) dX13_weight_61 ?_
                    rcases hN12 : gR M5 b11 35 with _ | b12
                    · exact absurd (oc_n hN12 h) (by simp)
                    replace h := oc_s hN12 h
                    have kb12 := hT.f kb11 (k := 35) (t := 15) (n := 5) rfl hN12
                    refine r_getN (T := TX12) (v := .ref (ad b12)) hx hb hts in12 hown hK hP kb11 (by decide) rfl 35 (by decide) (hG.2.2.1 _ (List.mem_of_getElem? (i := 37) rfl)) rfl (t := 2) rfl (by show va_rf _ = _; rw [hN12]; rfl) dX13_weight_64 ?_
                    refine lv_iload_n hx hb dX13_weight_67 rfl (lv_at hl 2 rfl) ?_
                    obtain ⟨hn13, h⟩ := chk_some h
                    refine r_iald hx hb hK hP kb12 hn13 dX13_weight_68 ?_
                    refine lv_goto (tgt := 73) hx hb dX13_weight_69 rfl ?_
                    refine lv_iadd hx hb dX13_weight_73 ?_
                    refine lv_istore_n (lv' := [(1, .int (y5_1 + (gI M5 b12 (ix y5_2)))), (0, .ref (ad y5_0)), (2, .int y5_2)]) hx hb dX13_weight_74 rfl hl (by decide) rfl (fun ls hl => ?_)
                    refine lv_iinc (v := y5_2 + 1) (lv' := [(2, .int (y5_2 + 1)), (1, .int (y5_1 + (gI M5 b12 (ix y5_2)))), (0, .ref (ad y5_0))]) hx hb dX13_weight_75 hl (k := 2) rfl rfl (by decide) rfl (fun ls hl => ?_)
                    refine lv_goto (tgt := 40) hx hb dX13_weight_78 rfl ?_
                    exact ih5 M5 y5_0 (y5_1 + (gI M5 b12 (ix y5_2))) (y5_2 + 1) ky5_0 _ _ h hP hD hT hS ls (lv_sub hl [2, 1, 0] rfl)
        exact L5 FU (pI M a0 0 0) a0 0 0 k0 _ _ h hP hD hT hS ls (lv_sub hl [2, 1, 0] rfl)
      · replace h := ite_t c4 h
        refine lv_aload_n hx hb dX13_weight_29 rfl (lv_at hl 0 rfl) ?_
        refine lv_bipush (v := 6) hx hb dX13_weight_30 rfl ?_
        obtain ⟨z14, h14, h⟩ := ob_some h
        refine k_i (va_runV (As := [.int 6]) (rest := []) ⟨hx, hb, hml, hown, hts⟩ (c_X13_refused (l := l) (pI M a0 0 0) a0 6 k0 h14) (cwV 1 hts gX13_weight_X13_refused rfl rfl rfl hdV_X13_refused ⟨Nat.le_of_ble_eq_true rfl, Nat.le_of_ble_eq_true rfl⟩) (pV (T := TX13) hP hK hD hT hG hS k0 (by decide) rfl) rfl rfl hl.1 rfl (lv_room (Nat.le_of_ble_eq_true rfl)) dX13_weight_32 ⟨Nat.zero_le _, Nat.zero_le _⟩) hS (fun H locs hP hD hT hS => ?_)
        have hZ := Option.some.inj h
        exact r_iret hx hb hr hlocks hP hK hD hT hG hS (congrArg Prod.fst hZ) (congrArg Prod.snd hZ) dX13_weight_35
set_option maxHeartbeats 4000000 in
set_option maxRecDepth 100000 in
theorem c_X13_gone {l : Launch} {D : va_G} {ad : Nat → Nat} {cy : Nat → ClassId} {A : Nat → Prop} {g : CG} {q : SE} (M : MM) (a0 : Nat) (x1 : Int32) (k0 : ok g a0 13 0) {Z : (Int32 × MM)} (h : f_X13_gone M a0 x1 = some Z) : Met l yX13_gone wsX13_gone ({ frames := 2, cells := 0, slots := 0, locals := 52 }) (va_Pc [.ref (ad a0), .int x1] (Wd D ad cy A g q M)) (va_Qi (fun r u => r = Z.1 ∧ u = Z.2) (Wd D ad cy A g q) A) 0 0 A := by
  refine Met.ofW (cc := cX13_gone) (maxL := 3) (ret := (some .int)) (by decide) rfl ?_
  intro p e s m args below meth c s₁ B hml hv
  obtain ⟨rfl, hP, hK, hD, hT, hG⟩ := hv
  have hx := B.exec
  have hb := B.bytes
  have hr := B.returns
  have hts := atoms_spec (ws := wsX13_gone) B.pre
  have hown : s.vm.findClass RX13 = some m.cls := findClass_of_methodNamed B.named
  have hlocks := B.notSynchronized
  have in12 : ∀ w ∈ u_ws RX12 TX12 48, w ∈ wsX13_gone := fun w h => List.mem_cons_of_mem _ (List.mem_append_right _ h)
  have in13 : ∀ w ∈ u_ws RX13 TX13 29, w ∈ wsX13_gone := fun w h => List.mem_cons_of_mem _ (List.mem_append_left _ (List.mem_append_right _ h))
  have hS : va_S A s.heap s.heap [] := va_S.rf
  have hl := lv_entry ([.ref (ad a0), .int x1]) (n := 3) (Nat.le_of_ble_eq_true rfl)
  rw [lg_entry_eq]
  generalize (lg_sl ([.ref (ad a0), .int x1]) ++ List.replicate (3 - (lg_sl ([.ref (ad a0), .int x1])).length) Slot.unset).toArray = ls at hl ⊢
  have hl : lv_has ls 3 [(0, .ref (ad a0)), (1, .int x1)] := hl
  unfold f_X13_gone at h
  refine lv_aload_n hx hb dX13_gone_0 rfl (lv_at hl 0 rfl) ?_
  refine lv_iconst (v := 0) hx hb dX13_gone_1 rfl ?_
  refine r_putI (T := TX13) (ty := .int) (v := 0) hx hb hts in13 tyX13 tyX13_ok nmX13 hown hK hP hD hT hS k0 (by decide) rfl 0 (by decide) (hts (.fieldLink RX13 30 "StoneWalkModel" "thrown" "I") (List.mem_of_getElem? (i := 1) (by decide +kernel))) rfl rfl (tyX13_ok 0 (by decide)) rfl rfl rfl dX13_gone_2 (fun H locs hP hD hT hS => ?_)
  refine lv_aload_n hx hb dX13_gone_5 rfl (lv_at hl 0 rfl) ?_
  refine lv_iload_n hx hb dX13_gone_6 rfl (lv_at hl 1 rfl) ?_
  obtain ⟨z1, h1, h⟩ := ob_some h
  refine k_z (va_runV (As := [.int x1]) (rest := []) ⟨hx, hb, hml, hown, hts⟩ (c_X13_isStory (l := l) (pI M a0 0 0) a0 x1 k0 h1) (cwV 1 hts gX13_gone_X13_isStory rfl rfl rfl hdV_X13_isStory ⟨Nat.le_of_ble_eq_true rfl, Nat.le_of_ble_eq_true rfl⟩) (pV (T := TX13) hP hK hD hT hG hS k0 (by decide) rfl) rfl rfl hl.1 rfl (lv_room (Nat.le_of_ble_eq_true rfl)) dX13_gone_7 ⟨Nat.zero_le _, Nat.zero_le _⟩) hS (fun H locs hz1 hP hD hT hS => ?_)
  refine lv_if_ne (tgt := 19) hx hb dX13_gone_10 rfl (fun c2 => ?_) (fun c2 => ?_)
  · replace h := ite_f c2 h
    refine lv_aload_n hx hb dX13_gone_19 rfl (lv_at hl 0 rfl) ?_
    rcases hN3 : gR (pI M a0 0 0) a0 3 with _ | b3
    · replace h := oc_n hN3 h
      refine r_get (T := TX13) (v := .null) hx hb hts in13 hown hK hP k0 (by decide) rfl 3 (by decide) (hts (.fieldLink RX13 431 "StoneWalkModel" "island" "LStoneWalkModel$Island;") (List.mem_of_getElem? (i := 2) (by decide +kernel))) rfl (t := 2) rfl (by show va_rf _ = _; rw [hN3]; rfl) dX13_gone_20 ?_
      exact absurd h (by simp)
    · replace h := oc_s hN3 h
      have kb3 := hT.f k0 (k := 3) (t := 12) (n := 0) rfl hN3
      refine r_get (T := TX13) (v := .ref (ad b3)) hx hb hts in13 hown hK hP k0 (by decide) rfl 3 (by decide) (hts (.fieldLink RX13 431 "StoneWalkModel" "island" "LStoneWalkModel$Island;") (List.mem_of_getElem? (i := 2) (by decide +kernel))) rfl (t := 2) rfl (by show va_rf _ = _; rw [hN3]; rfl) dX13_gone_20 ?_
      refine r_getN (T := TX12) (v := .int (gI (pI M a0 0 0) b3 27)) hx hb hts in12 hown hK hP kb3 (by decide) rfl 27 (by decide) (hG.2.2.1 _ (List.mem_of_getElem? (i := 28) rfl)) rfl (t := 0) rfl rfl dX13_gone_23 ?_
      refine lv_iconst (v := (-1)) hx hb dX13_gone_26 rfl ?_
      refine lv_icmp_ne (tgt := 37) hx hb dX13_gone_27 rfl (fun c4 => ?_) (fun c4 => ?_)
      · replace h := ite_f c4 h
        refine lv_iconst (v := 0) hx hb dX13_gone_37 rfl ?_
        refine lv_istore_n (lv' := [(2, .int 0), (0, .ref (ad a0)), (1, .int x1)]) hx hb dX13_gone_38 rfl hl (by decide) rfl (fun ls hl => ?_)
        have L5 : ∀ n5 : Nat, ∀ (M5 : MM) (y5_0 : Nat) (y5_1 : Int32) (y5_2 : Int32) (ky5_0 : ok g y5_0 13 0) (H : Heap) (locs : List Loc), f_X13_gone_L39 n5 M5 y5_0 y5_1 y5_2 = some Z → va_P D vwCl (wd ad cy g M5) H → va_D A (wd ad cy g M5) → WT g M5 → va_S A s.heap H locs → ∀ (ls : Array Slot), lv_has ls 3 [(0, .ref (ad y5_0)), (1, .int y5_1), (2, .int y5_2)] → W p l e ((headSpec wsX13_gone ({ frames := 2, cells := 0, slots := 0, locals := 52 })).room) s m (([.ref (ad a0), .int x1] : List Value).toArray) below meth c H locs 0 0 (MQ below (va_Qi (fun r u => r = Z.1 ∧ u = Z.2) (Wd D ad cy A g q) A) ([.ref (ad a0), .int x1]).toArray s 0 0 A) (F0 m 39 ls []) := by
          intro n5
          induction n5 with
          | zero => intro M5 y5_0 y5_1 y5_2 ky5_0 H locs h; exact absurd h (by simp [f_X13_gone_L39])
          | succ n5 ih5 =>
            intro M5 y5_0 y5_1 y5_2 ky5_0 H locs h hP hD hT hS ls hl
            rw [f_X13_gone_L39] at h
            refine lv_iload_n hx hb dX13_gone_39 rfl (lv_at hl 2 rfl) ?_
            refine lv_bipush (v := 100) hx hb dX13_gone_40 rfl ?_
            refine lv_icmp_ge (tgt := 68) hx hb dX13_gone_42 rfl (fun c6 => ?_) (fun c6 => ?_)
            · replace h := ite_t c6 h
              refine lv_aload_n hx hb dX13_gone_68 rfl (lv_at hl 0 rfl) ?_
              refine lv_bipush (v := (-2)) hx hb dX13_gone_69 rfl ?_
              obtain ⟨z7, h7, h⟩ := ob_some h
              refine k_i (va_runV (As := [.int (-2)]) (rest := []) ⟨hx, hb, hml, hown, hts⟩ (c_X13_done (l := l) M5 y5_0 (-2) ky5_0 h7) (cwV 1 hts gX13_gone_X13_done rfl rfl rfl hdV_X13_done ⟨Nat.le_of_ble_eq_true rfl, Nat.le_of_ble_eq_true rfl⟩) (pV (T := TX13) hP hK hD hT hG hS ky5_0 (by decide) rfl) rfl rfl hl.1 rfl (lv_room (Nat.le_of_ble_eq_true rfl)) dX13_gone_71 ⟨Nat.zero_le _, Nat.zero_le _⟩) hS (fun H locs hP hD hT hS => ?_)
              have hZ := Option.some.inj h
              exact r_iret hx hb hr hlocks hP hK hD hT hG hS (congrArg Prod.fst hZ) (congrArg Prod.snd hZ) dX13_gone_74
            · replace h := ite_f c6 h
              refine lv_aload_n hx hb dX13_gone_45 rfl (lv_at hl 0 rfl) ?_
              refine lv_iload_n hx hb dX13_gone_46 rfl (lv_at hl 1 rfl) ?_
              refine lv_iload_n hx hb dX13_gone_47 rfl (lv_at hl 2 rfl) ?_
              obtain ⟨z8, h8, h⟩ := ob_some h
              refine k_i (va_runV (As := [.int y5_1, .int y5_2]) (rest := []) ⟨hx, hb, hml, hown, hts⟩ (c_X13_treesIn (l := l) M5 y5_0 y5_1 y5_2 ky5_0 h8) (cwV 2 hts gX13_gone_X13_treesIn rfl rfl rfl hdV_X13_treesIn ⟨Nat.le_of_ble_eq_true rfl, Nat.le_of_ble_eq_true rfl⟩) (pV (T := TX13) hP hK hD hT hG hS ky5_0 (by decide) rfl) rfl rfl hl.1 rfl (lv_room (Nat.le_of_ble_eq_true rfl)) dX13_gone_48 ⟨Nat.zero_le _, Nat.zero_le _⟩) hS (fun H locs hP hD hT hS => ?_)
              refine lv_bipush (v := 10) hx hb dX13_gone_51 rfl ?_
              refine lv_icmp_ge (tgt := 62) hx hb dX13_gone_53 rfl (fun c9 => ?_) (fun c9 => ?_)
              · replace h := ite_t c9 h
                refine lv_iinc (v := y5_2 + 1) (lv' := [(2, .int (y5_2 + 1)), (0, .ref (ad y5_0)), (1, .int y5_1)]) hx hb dX13_gone_62 hl (k := 2) rfl rfl (by decide) rfl (fun ls hl => ?_)
                refine lv_goto (tgt := 39) hx hb dX13_gone_65 rfl ?_
                exact ih5 M5 y5_0 y5_1 (y5_2 + 1) ky5_0 _ _ h hP hD hT hS ls (lv_sub hl [1, 2, 0] rfl)
              · replace h := ite_f c9 h
                refine lv_aload_n hx hb dX13_gone_56 rfl (lv_at hl 0 rfl) ?_
                refine lv_iload_n hx hb dX13_gone_57 rfl (lv_at hl 2 rfl) ?_
                obtain ⟨z10, h10, h⟩ := ob_some h
                refine k_i (va_runV (As := [.int y5_2]) (rest := []) ⟨hx, hb, hml, hown, hts⟩ (c_X13_done (l := l) M5 y5_0 y5_2 ky5_0 h10) (cwV 1 hts gX13_gone_X13_done rfl rfl rfl hdV_X13_done ⟨Nat.le_of_ble_eq_true rfl, Nat.le_of_ble_eq_true rfl⟩) (pV (T := TX13) hP hK hD hT hG hS ky5_0 (by decide) rfl) rfl rfl hl.1 rfl (lv_room (Nat.le_of_ble_eq_true rfl)) dX13_gone_58 ⟨Nat.zero_le _, Nat.zero_le _⟩) hS (fun H locs hP hD hT hS => ?_)
                have hZ := Option.some.inj h
                exact r_iret hx hb hr hlocks hP hK hD hT hG hS (congrArg Prod.fst hZ) (congrArg Prod.snd hZ) dX13_gone_61
        exact L5 FU (pI M a0 0 0) a0 x1 0 k0 _ _ h hP hD hT hS ls (lv_sub hl [1, 2, 0] rfl)
      · replace h := ite_t c4 h
        refine lv_aload_n hx hb dX13_gone_30 rfl (lv_at hl 0 rfl) ?_
        refine lv_bipush (v := 6) hx hb dX13_gone_31 rfl ?_
        obtain ⟨z11, h11, h⟩ := ob_some h
        refine k_i (va_runV (As := [.int 6]) (rest := []) ⟨hx, hb, hml, hown, hts⟩ (c_X13_refused (l := l) (pI M a0 0 0) a0 6 k0 h11) (cwV 1 hts gX13_gone_X13_refused rfl rfl rfl hdV_X13_refused ⟨Nat.le_of_ble_eq_true rfl, Nat.le_of_ble_eq_true rfl⟩) (pV (T := TX13) hP hK hD hT hG hS k0 (by decide) rfl) rfl rfl hl.1 rfl (lv_room (Nat.le_of_ble_eq_true rfl)) dX13_gone_33 ⟨Nat.zero_le _, Nat.zero_le _⟩) hS (fun H locs hP hD hT hS => ?_)
        have hZ := Option.some.inj h
        exact r_iret hx hb hr hlocks hP hK hD hT hG hS (congrArg Prod.fst hZ) (congrArg Prod.snd hZ) dX13_gone_36
  · replace h := ite_t c2 h
    refine lv_aload_n hx hb dX13_gone_13 rfl (lv_at hl 0 rfl) ?_
    refine lv_iconst (v := 1) hx hb dX13_gone_14 rfl ?_
    obtain ⟨z12, h12, h⟩ := ob_some h
    refine k_i (va_runV (As := [.int 1]) (rest := []) ⟨hx, hb, hml, hown, hts⟩ (c_X13_refused (l := l) (pI M a0 0 0) a0 1 k0 h12) (cwV 1 hts gX13_gone_X13_refused rfl rfl rfl hdV_X13_refused ⟨Nat.le_of_ble_eq_true rfl, Nat.le_of_ble_eq_true rfl⟩) (pV (T := TX13) hP hK hD hT hG hS k0 (by decide) rfl) rfl rfl hl.1 rfl (lv_room (Nat.le_of_ble_eq_true rfl)) dX13_gone_15 ⟨Nat.zero_le _, Nat.zero_le _⟩) hS (fun H locs hP hD hT hS => ?_)
    have hZ := Option.some.inj h
    exact r_iret hx hb hr hlocks hP hK hD hT hG hS (congrArg Prod.fst hZ) (congrArg Prod.snd hZ) dX13_gone_18
set_option maxHeartbeats 4000000 in
set_option maxRecDepth 100000 in
theorem c_X13_dig {l : Launch} {D : va_G} {ad : Nat → Nat} {cy : Nat → ClassId} {A : Nat → Prop} {g : CG} {q : SE} (M : MM) (a0 : Nat) (k0 : ok g a0 13 0) {Z : (Int32 × MM)} (h : f_X13_dig M a0 = some Z) : Met l yX13_dig wsX13_dig ({ frames := 4, cells := 0, slots := 0, locals := 97 }) (va_Pc [.ref (ad a0)] (Wd D ad cy A g q M)) (va_Qi (fun r u => r = Z.1 ∧ u = Z.2) (Wd D ad cy A g q) A) 0 0 A := by
  refine Met.ofW (cc := cX13_dig) (maxL := 9) (ret := (some .int)) (by decide) rfl ?_
  intro p e s m args below meth c s₁ B hml hv
  obtain ⟨rfl, hP, hK, hD, hT, hG⟩ := hv
  have hx := B.exec
  have hb := B.bytes
  have hr := B.returns
  have hts := atoms_spec (ws := wsX13_dig) B.pre
  have hown : s.vm.findClass RX13 = some m.cls := findClass_of_methodNamed B.named
  have hlocks := B.notSynchronized
  have in12 : ∀ w ∈ u_ws RX12 TX12 48, w ∈ wsX13_dig := fun w h => List.mem_cons_of_mem _ (List.mem_append_right _ h)
  have in13 : ∀ w ∈ u_ws RX13 TX13 29, w ∈ wsX13_dig := fun w h => List.mem_cons_of_mem _ (List.mem_append_left _ (List.mem_append_right _ h))
  have hS : va_S A s.heap s.heap [] := va_S.rf
  have hl := lv_entry ([.ref (ad a0)]) (n := 9) (Nat.le_of_ble_eq_true rfl)
  rw [lg_entry_eq]
  generalize (lg_sl ([.ref (ad a0)]) ++ List.replicate (9 - (lg_sl ([.ref (ad a0)])).length) Slot.unset).toArray = ls at hl ⊢
  have hl : lv_has ls 9 [(0, .ref (ad a0))] := hl
  unfold f_X13_dig at h
  refine lv_aload_n hx hb dX13_dig_0 rfl (lv_at hl 0 rfl) ?_
  refine lv_iconst (v := 0) hx hb dX13_dig_1 rfl ?_
  refine r_putI (T := TX13) (ty := .int) (v := 0) hx hb hts in13 tyX13 tyX13_ok nmX13 hown hK hP hD hT hS k0 (by decide) rfl 0 (by decide) (hts (.fieldLink RX13 30 "StoneWalkModel" "thrown" "I") (List.mem_of_getElem? (i := 1) (by decide +kernel))) rfl rfl (tyX13_ok 0 (by decide)) rfl rfl rfl dX13_dig_2 (fun H locs hP hD hT hS => ?_)
  refine lv_aload_n hx hb dX13_dig_5 rfl (lv_at hl 0 rfl) ?_
  rcases hN1 : gR (pI M a0 0 0) a0 3 with _ | b1
  · replace h := oc_n hN1 h
    refine r_get (T := TX13) (v := .null) hx hb hts in13 hown hK hP k0 (by decide) rfl 3 (by decide) (hts (.fieldLink RX13 431 "StoneWalkModel" "island" "LStoneWalkModel$Island;") (List.mem_of_getElem? (i := 2) (by decide +kernel))) rfl (t := 2) rfl (by show va_rf _ = _; rw [hN1]; rfl) dX13_dig_6 ?_
    refine lv_ifnonnullN hx hb dX13_dig_9 ?_
    refine lv_aload_n hx hb dX13_dig_12 rfl (lv_at hl 0 rfl) ?_
    refine lv_iconst (v := 1) hx hb dX13_dig_13 rfl ?_
    obtain ⟨z2, h2, h⟩ := ob_some h
    refine k_i (va_runV (As := [.int 1]) (rest := []) ⟨hx, hb, hml, hown, hts⟩ (c_X13_refused (l := l) (pI M a0 0 0) a0 1 k0 h2) (cwV 1 hts gX13_dig_X13_refused rfl rfl rfl hdV_X13_refused ⟨Nat.le_of_ble_eq_true rfl, Nat.le_of_ble_eq_true rfl⟩) (pV (T := TX13) hP hK hD hT hG hS k0 (by decide) rfl) rfl rfl hl.1 rfl (lv_room (Nat.le_of_ble_eq_true rfl)) dX13_dig_14 ⟨Nat.zero_le _, Nat.zero_le _⟩) hS (fun H locs hP hD hT hS => ?_)
    have hZ := Option.some.inj h
    exact r_iret hx hb hr hlocks hP hK hD hT hG hS (congrArg Prod.fst hZ) (congrArg Prod.snd hZ) dX13_dig_17
  · replace h := oc_s hN1 h
    have kb1 := hT.f k0 (k := 3) (t := 12) (n := 0) rfl hN1
    refine r_get (T := TX13) (v := .ref (ad b1)) hx hb hts in13 hown hK hP k0 (by decide) rfl 3 (by decide) (hts (.fieldLink RX13 431 "StoneWalkModel" "island" "LStoneWalkModel$Island;") (List.mem_of_getElem? (i := 2) (by decide +kernel))) rfl (t := 2) rfl (by show va_rf _ = _; rw [hN1]; rfl) dX13_dig_6 ?_
    refine lv_ifnonnull (tgt := 18) hx hb dX13_dig_9 rfl ?_
    refine lv_aload_n hx hb dX13_dig_18 rfl (lv_at hl 0 rfl) ?_
    rcases hN3 : gR (pI M a0 0 0) a0 3 with _ | b3
    · replace h := oc_n hN3 h
      refine r_get (T := TX13) (v := .null) hx hb hts in13 hown hK hP k0 (by decide) rfl 3 (by decide) (hts (.fieldLink RX13 431 "StoneWalkModel" "island" "LStoneWalkModel$Island;") (List.mem_of_getElem? (i := 2) (by decide +kernel))) rfl (t := 2) rfl (by show va_rf _ = _; rw [hN3]; rfl) dX13_dig_19 ?_
      exact absurd h (by simp)
    · replace h := oc_s hN3 h
      have kb3 := hT.f k0 (k := 3) (t := 12) (n := 0) rfl hN3
      refine r_get (T := TX13) (v := .ref (ad b3)) hx hb hts in13 hown hK hP k0 (by decide) rfl 3 (by decide) (hts (.fieldLink RX13 431 "StoneWalkModel" "island" "LStoneWalkModel$Island;") (List.mem_of_getElem? (i := 2) (by decide +kernel))) rfl (t := 2) rfl (by show va_rf _ = _; rw [hN3]; rfl) dX13_dig_19 ?_
      refine r_getN (T := TX12) (v := .int (gI (pI M a0 0 0) b3 27)) hx hb hts in12 hown hK hP kb3 (by decide) rfl 27 (by decide) (hG.2.2.1 _ (List.mem_of_getElem? (i := 28) rfl)) rfl (t := 0) rfl rfl dX13_dig_22 ?_
      refine lv_iconst (v := (-1)) hx hb dX13_dig_25 rfl ?_
      refine lv_icmp_eq (tgt := 36) hx hb dX13_dig_26 rfl (fun c4 => ?_) (fun c4 => ?_)
      · replace h := ite_t c4 h
        refine lv_aload_n hx hb dX13_dig_36 rfl (lv_at hl 0 rfl) ?_
        refine lv_bipush (v := 6) hx hb dX13_dig_37 rfl ?_
        obtain ⟨z5, h5, h⟩ := ob_some h
        refine k_i (va_runV (As := [.int 6]) (rest := []) ⟨hx, hb, hml, hown, hts⟩ (c_X13_refused (l := l) (pI M a0 0 0) a0 6 k0 h5) (cwV 1 hts gX13_dig_X13_refused rfl rfl rfl hdV_X13_refused ⟨Nat.le_of_ble_eq_true rfl, Nat.le_of_ble_eq_true rfl⟩) (pV (T := TX13) hP hK hD hT hG hS k0 (by decide) rfl) rfl rfl hl.1 rfl (lv_room (Nat.le_of_ble_eq_true rfl)) dX13_dig_39 ⟨Nat.zero_le _, Nat.zero_le _⟩) hS (fun H locs hP hD hT hS => ?_)
        have hZ := Option.some.inj h
        exact r_iret hx hb hr hlocks hP hK hD hT hG hS (congrArg Prod.fst hZ) (congrArg Prod.snd hZ) dX13_dig_42
      · replace h := ite_f c4 h
        refine lv_aload_n hx hb dX13_dig_29 rfl (lv_at hl 0 rfl) ?_
        obtain ⟨z6, h6, h⟩ := ob_some h
        refine k_i (va_runV (As := []) (rest := []) ⟨hx, hb, hml, hown, hts⟩ (c_X13_fitting (l := l) (pI M a0 0 0) a0 k0 h6) (cwV 0 hts gX13_dig_X13_fitting rfl rfl rfl hdV_X13_fitting ⟨Nat.le_of_ble_eq_true rfl, Nat.le_of_ble_eq_true rfl⟩) (pV (T := TX13) hP hK hD hT hG hS k0 (by decide) rfl) rfl rfl hl.1 rfl (lv_room (Nat.le_of_ble_eq_true rfl)) dX13_dig_30 ⟨Nat.zero_le _, Nat.zero_le _⟩) hS (fun H locs hP hD hT hS => ?_)
        refine lv_if_ne (tgt := 43) hx hb dX13_dig_33 rfl (fun c7 => ?_) (fun c7 => ?_)
        · replace h := ite_f c7 h
          refine lv_aload_n hx hb dX13_dig_43 rfl (lv_at hl 0 rfl) ?_
          obtain ⟨z8, h8, h⟩ := ob_some h
          refine k_i (va_runV (As := []) (rest := []) ⟨hx, hb, hml, hown, hts⟩ (c_X13_fitting (l := l) (pI M a0 0 0) a0 k0 h8) (cwV 0 hts gX13_dig_X13_fitting rfl rfl rfl hdV_X13_fitting ⟨Nat.le_of_ble_eq_true rfl, Nat.le_of_ble_eq_true rfl⟩) (pV (T := TX13) hP hK hD hT hG hS k0 (by decide) rfl) rfl rfl hl.1 rfl (lv_room (Nat.le_of_ble_eq_true rfl)) dX13_dig_44 ⟨Nat.zero_le _, Nat.zero_le _⟩) hS (fun H locs hP hD hT hS => ?_)
          refine lv_istore_n (lv' := [(1, .int z8), (0, .ref (ad a0))]) hx hb dX13_dig_47 rfl hl (by decide) rfl (fun ls hl => ?_)
          refine lv_iconst (v := 0) hx hb dX13_dig_48 rfl ?_
          refine lv_istore_n (lv' := [(2, .int 0), (1, .int z8), (0, .ref (ad a0))]) hx hb dX13_dig_49 rfl hl (by decide) rfl (fun ls hl => ?_)
          refine lv_iconst (v := (-1)) hx hb dX13_dig_50 rfl ?_
          refine lv_istore_n (lv' := [(3, .int (-1)), (2, .int 0), (1, .int z8), (0, .ref (ad a0))]) hx hb dX13_dig_51 rfl hl (by decide) rfl (fun ls hl => ?_)
          refine lv_iconst (v := 0) hx hb dX13_dig_52 rfl ?_
          refine lv_istore (lv' := [(4, .int 0), (3, .int (-1)), (2, .int 0), (1, .int z8), (0, .ref (ad a0))]) hx hb dX13_dig_53 hl (by decide) rfl (fun ls hl => ?_)
          have L9 : ∀ n9 : Nat, ∀ (M9 : MM) (y9_0 : Nat) (y9_1 : Int32) (y9_2 : Int32) (y9_3 : Int32) (y9_4 : Int32) (ky9_0 : ok g y9_0 13 0) (H : Heap) (locs : List Loc), f_X13_dig_L55 n9 M9 y9_0 y9_1 y9_2 y9_3 y9_4 = some Z → va_P D vwCl (wd ad cy g M9) H → va_D A (wd ad cy g M9) → WT g M9 → va_S A s.heap H locs → ∀ (ls : Array Slot), lv_has ls 9 [(0, .ref (ad y9_0)), (1, .int y9_1), (2, .int y9_2), (3, .int y9_3), (4, .int y9_4)] → W p l e ((headSpec wsX13_dig ({ frames := 4, cells := 0, slots := 0, locals := 97 })).room) s m (([.ref (ad a0)] : List Value).toArray) below meth c H locs 0 0 (MQ below (va_Qi (fun r u => r = Z.1 ∧ u = Z.2) (Wd D ad cy A g q) A) ([.ref (ad a0)]).toArray s 0 0 A) (F0 m 55 ls []) := by
            intro n9
            induction n9 with
            | zero => intro M9 y9_0 y9_1 y9_2 y9_3 y9_4 ky9_0 H locs h; exact absurd h (by simp [f_X13_dig_L55])
            | succ n9 ih9 =>
              intro M9 y9_0 y9_1 y9_2 y9_3 y9_4 ky9_0 H locs h hP hD hT hS ls hl
              rw [f_X13_dig_L55] at h
              refine lv_iload hx hb dX13_dig_55 (lv_at hl 4 rfl) ?_
              refine lv_bipush (v := 100) hx hb dX13_dig_57 rfl ?_
              refine lv_icmp_ge (tgt := 172) hx hb dX13_dig_59 rfl (fun c10 => ?_) (fun c10 => ?_)
              · replace h := ite_t c10 h
                refine lv_aload_n hx hb dX13_dig_172 rfl (lv_at hl 0 rfl) ?_
                refine lv_iload_n hx hb dX13_dig_173 rfl (lv_at hl 2 rfl) ?_
                obtain ⟨z11, h11, h⟩ := ob_some h
                refine k_i (va_runV (As := [.int y9_2]) (rest := []) ⟨hx, hb, hml, hown, hts⟩ (c_X13_done (l := l) M9 y9_0 y9_2 ky9_0 h11) (cwV 1 hts gX13_dig_X13_done rfl rfl rfl hdV_X13_done ⟨Nat.le_of_ble_eq_true rfl, Nat.le_of_ble_eq_true rfl⟩) (pV (T := TX13) hP hK hD hT hG hS ky9_0 (by decide) rfl) rfl rfl hl.1 rfl (lv_room (Nat.le_of_ble_eq_true rfl)) dX13_dig_174 ⟨Nat.zero_le _, Nat.zero_le _⟩) hS (fun H locs hP hD hT hS => ?_)
                have hZ := Option.some.inj h
                exact r_iret hx hb hr hlocks hP hK hD hT hG hS (congrArg Prod.fst hZ) (congrArg Prod.snd hZ) dX13_dig_177
              · replace h := ite_f c10 h
                refine lv_sipush (v := 9999) hx hb dX13_dig_62 rfl ?_
                refine lv_istore (lv' := [(5, .int 9999), (0, .ref (ad y9_0)), (1, .int y9_1), (2, .int y9_2), (3, .int y9_3), (4, .int y9_4)]) hx hb dX13_dig_65 hl (by decide) rfl (fun ls hl => ?_)
                refine lv_iconst (v := 0) hx hb dX13_dig_67 rfl ?_
                refine lv_istore (lv' := [(6, .int 0), (5, .int 9999), (0, .ref (ad y9_0)), (1, .int y9_1), (2, .int y9_2), (3, .int y9_3), (4, .int y9_4)]) hx hb dX13_dig_68 hl (by decide) rfl (fun ls hl => ?_)
                refine lv_iconst (v := 0) hx hb dX13_dig_70 rfl ?_
                refine lv_istore (lv' := [(7, .int 0), (6, .int 0), (5, .int 9999), (0, .ref (ad y9_0)), (1, .int y9_1), (2, .int y9_2), (3, .int y9_3), (4, .int y9_4)]) hx hb dX13_dig_71 hl (by decide) rfl (fun ls hl => ?_)
                have L12 : ∀ n12 : Nat, ∀ (M12 : MM) (y12_0 : Nat) (y12_1 : Int32) (y12_2 : Int32) (y12_3 : Int32) (y12_4 : Int32) (y12_5 : Int32) (y12_6 : Int32) (y12_7 : Int32) (ky12_0 : ok g y12_0 13 0) (H : Heap) (locs : List Loc), f_X13_dig_L73 (fun M y9_0 y9_1 y9_2 y9_3 y9_4 => f_X13_dig_L55 n9 M y9_0 y9_1 y9_2 y9_3 y9_4) n12 M12 y12_0 y12_1 y12_2 y12_3 y12_4 y12_5 y12_6 y12_7 = some Z → va_P D vwCl (wd ad cy g M12) H → va_D A (wd ad cy g M12) → WT g M12 → va_S A s.heap H locs → ∀ (ls : Array Slot), lv_has ls 9 [(0, .ref (ad y12_0)), (1, .int y12_1), (2, .int y12_2), (3, .int y12_3), (4, .int y12_4), (5, .int y12_5), (6, .int y12_6), (7, .int y12_7)] → W p l e ((headSpec wsX13_dig ({ frames := 4, cells := 0, slots := 0, locals := 97 })).room) s m (([.ref (ad a0)] : List Value).toArray) below meth c H locs 0 0 (MQ below (va_Qi (fun r u => r = Z.1 ∧ u = Z.2) (Wd D ad cy A g q) A) ([.ref (ad a0)]).toArray s 0 0 A) (F0 m 73 ls []) := by
                  intro n12
                  induction n12 with
                  | zero => intro M12 y12_0 y12_1 y12_2 y12_3 y12_4 y12_5 y12_6 y12_7 ky12_0 H locs h; exact absurd h (by simp [f_X13_dig_L73])
                  | succ n12 ih12 =>
                    intro M12 y12_0 y12_1 y12_2 y12_3 y12_4 y12_5 y12_6 y12_7 ky12_0 H locs h hP hD hT hS ls hl
                    rw [f_X13_dig_L73] at h
                    refine lv_iload hx hb dX13_dig_73 (lv_at hl 7 rfl) ?_
                    refine lv_aload_n hx hb dX13_dig_75 rfl (lv_at hl 0 rfl) ?_
                    rcases hN13 : gR M12 y12_0 3 with _ | b13
                    · replace h := oc_n hN13 h
                      refine r_get (T := TX13) (v := .null) hx hb hts in13 hown hK hP ky12_0 (by decide) rfl 3 (by decide) (hts (.fieldLink RX13 431 "StoneWalkModel" "island" "LStoneWalkModel$Island;") (List.mem_of_getElem? (i := 2) (by decide +kernel))) rfl (t := 2) rfl (by show va_rf _ = _; rw [hN13]; rfl) dX13_dig_76 ?_
                      exact absurd h (by simp)
                    · replace h := oc_s hN13 h
                      have kb13 := hT.f ky12_0 (k := 3) (t := 12) (n := 0) rfl hN13
                      refine r_get (T := TX13) (v := .ref (ad b13)) hx hb hts in13 hown hK hP ky12_0 (by decide) rfl 3 (by decide) (hts (.fieldLink RX13 431 "StoneWalkModel" "island" "LStoneWalkModel$Island;") (List.mem_of_getElem? (i := 2) (by decide +kernel))) rfl (t := 2) rfl (by show va_rf _ = _; rw [hN13]; rfl) dX13_dig_76 ?_
                      refine r_getN (T := TX12) (v := .int (gI M12 b13 5)) hx hb hts in12 hown hK hP kb13 (by decide) rfl 5 (by decide) (hG.2.2.1 _ (List.mem_of_getElem? (i := 36) rfl)) rfl (t := 0) rfl rfl dX13_dig_79 ?_
                      refine lv_icmp_ge (tgt := 145) hx hb dX13_dig_82 rfl (fun c14 => ?_) (fun c14 => ?_)
                      · replace h := ite_t c14 h
                        refine lv_iload hx hb dX13_dig_145 (lv_at hl 6 rfl) ?_
                        refine lv_iload hx hb dX13_dig_147 (lv_at hl 5 rfl) ?_
                        refine lv_isub hx hb dX13_dig_149 ?_
                        refine lv_iload_n hx hb dX13_dig_150 rfl (lv_at hl 3 rfl) ?_
                        refine lv_icmp_gt (tgt := 157) hx hb dX13_dig_151 rfl (fun c15 => ?_) (fun c15 => ?_)
                        · replace h := ite_t c15 h
                          refine lv_iload hx hb dX13_dig_157 (lv_at hl 6 rfl) ?_
                          refine lv_iload hx hb dX13_dig_159 (lv_at hl 5 rfl) ?_
                          refine lv_isub hx hb dX13_dig_161 ?_
                          refine lv_istore_n (lv' := [(3, .int (y12_6 - y12_5)), (0, .ref (ad y12_0)), (1, .int y12_1), (2, .int y12_2), (4, .int y12_4), (5, .int y12_5), (6, .int y12_6), (7, .int y12_7)]) hx hb dX13_dig_162 rfl hl (by decide) rfl (fun ls hl => ?_)
                          refine lv_iload hx hb dX13_dig_163 (lv_at hl 4 rfl) ?_
                          refine lv_istore_n (lv' := [(2, .int y12_4), (3, .int (y12_6 - y12_5)), (0, .ref (ad y12_0)), (1, .int y12_1), (4, .int y12_4), (5, .int y12_5), (6, .int y12_6), (7, .int y12_7)]) hx hb dX13_dig_165 rfl hl (by decide) rfl (fun ls hl => ?_)
                          refine lv_iinc (v := y12_4 + 1) (lv' := [(4, .int (y12_4 + 1)), (2, .int y12_4), (3, .int (y12_6 - y12_5)), (0, .ref (ad y12_0)), (1, .int y12_1), (5, .int y12_5), (6, .int y12_6), (7, .int y12_7)]) hx hb dX13_dig_166 hl (k := 4) rfl rfl (by decide) rfl (fun ls hl => ?_)
                          refine lv_goto (tgt := 55) hx hb dX13_dig_169 rfl ?_
                          exact ih9 M12 y12_0 y12_1 y12_4 (y12_6 - y12_5) (y12_4 + 1) ky12_0 _ _ h hP hD hT hS ls (lv_sub hl [3, 4, 1, 2, 0] rfl)
                        · replace h := ite_f c15 h
                          refine lv_goto (tgt := 166) hx hb dX13_dig_154 rfl ?_
                          refine lv_iinc (v := y12_4 + 1) (lv' := [(4, .int (y12_4 + 1)), (0, .ref (ad y12_0)), (1, .int y12_1), (2, .int y12_2), (3, .int y12_3), (5, .int y12_5), (6, .int y12_6), (7, .int y12_7)]) hx hb dX13_dig_166 hl (k := 4) rfl rfl (by decide) rfl (fun ls hl => ?_)
                          refine lv_goto (tgt := 55) hx hb dX13_dig_169 rfl ?_
                          exact ih9 M12 y12_0 y12_1 y12_2 y12_3 (y12_4 + 1) ky12_0 _ _ h hP hD hT hS ls (lv_sub hl [1, 2, 3, 4, 0] rfl)
                      · replace h := ite_f c14 h
                        refine lv_iload_n hx hb dX13_dig_85 rfl (lv_at hl 1 rfl) ?_
                        refine lv_iload hx hb dX13_dig_86 (lv_at hl 7 rfl) ?_
                        refine lv_ishr hx hb dX13_dig_88 ?_
                        refine lv_iconst (v := 1) hx hb dX13_dig_89 rfl ?_
                        refine lv_iand hx hb dX13_dig_90 ?_
                        refine lv_if_ne (tgt := 97) hx hb dX13_dig_91 rfl (fun c16 => ?_) (fun c16 => ?_)
                        · replace h := ite_f c16 h
                          refine lv_aload_n hx hb dX13_dig_97 rfl (lv_at hl 0 rfl) ?_
                          refine lv_iload hx hb dX13_dig_98 (lv_at hl 7 rfl) ?_
                          refine lv_iload hx hb dX13_dig_100 (lv_at hl 4 rfl) ?_
                          obtain ⟨z17, h17, h⟩ := ob_some h
                          refine k_i (va_runV (As := [.int y12_7, .int y12_4]) (rest := []) ⟨hx, hb, hml, hown, hts⟩ (c_X13_treesIn (l := l) M12 y12_0 y12_7 y12_4 ky12_0 h17) (cwV 2 hts gX13_dig_X13_treesIn rfl rfl rfl hdV_X13_treesIn ⟨Nat.le_of_ble_eq_true rfl, Nat.le_of_ble_eq_true rfl⟩) (pV (T := TX13) hP hK hD hT hG hS ky12_0 (by decide) rfl) rfl rfl hl.1 rfl (lv_room (Nat.le_of_ble_eq_true rfl)) dX13_dig_102 ⟨Nat.zero_le _, Nat.zero_le _⟩) hS (fun H locs hP hD hT hS => ?_)
                          refine lv_istore (lv' := [(8, .int z17), (0, .ref (ad y12_0)), (1, .int y12_1), (2, .int y12_2), (3, .int y12_3), (4, .int y12_4), (5, .int y12_5), (6, .int y12_6), (7, .int y12_7)]) hx hb dX13_dig_105 hl (by decide) rfl (fun ls hl => ?_)
                          refine lv_iload hx hb dX13_dig_107 (lv_at hl 0 rfl) ?_
                          refine lv_iload hx hb dX13_dig_109 (lv_at hl 6 rfl) ?_
                          refine lv_icmp_ge (tgt := 119) hx hb dX13_dig_111 rfl (fun c18 => ?_) (fun c18 => ?_)
                          · replace h := ite_t c18 h
                            refine lv_iload hx hb dX13_dig_119 (lv_at hl 6 rfl) ?_
                            refine lv_istore (lv' := [(5, .int y12_5), (8, .int z17), (0, .ref (ad y12_0)), (1, .int y12_1), (2, .int y12_2), (3, .int y12_3), (4, .int y12_4), (6, .int y12_6), (7, .int y12_7)]) hx hb dX13_dig_121 hl (by decide) rfl (fun ls hl => ?_)
                            refine lv_iload hx hb dX13_dig_123 (lv_at hl 1 rfl) ?_
                            refine lv_iload hx hb dX13_dig_125 (lv_at hl 7 rfl) ?_
                            refine lv_icmp_le (tgt := 135) hx hb dX13_dig_127 rfl (fun c19 => ?_) (fun c19 => ?_)
                            · replace h := ite_t c19 h
                              refine lv_iload hx hb dX13_dig_135 (lv_at hl 7 rfl) ?_
                              refine lv_istore (lv' := [(6, .int y12_6), (5, .int y12_5), (8, .int z17), (0, .ref (ad y12_0)), (1, .int y12_1), (2, .int y12_2), (3, .int y12_3), (4, .int y12_4), (7, .int y12_7)]) hx hb dX13_dig_137 hl (by decide) rfl (fun ls hl => ?_)
                              refine lv_iinc (v := y12_7 + 1) (lv' := [(7, .int (y12_7 + 1)), (6, .int y12_6), (5, .int y12_5), (8, .int z17), (0, .ref (ad y12_0)), (1, .int y12_1), (2, .int y12_2), (3, .int y12_3), (4, .int y12_4)]) hx hb dX13_dig_139 hl (k := 8) rfl rfl (by decide) rfl (fun ls hl => ?_)
                              refine lv_goto (tgt := 73) hx hb dX13_dig_142 rfl ?_
                              exact ih12 M12 y12_0 y12_1 y12_2 y12_3 y12_4 y12_5 y12_6 (y12_7 + 1) ky12_0 _ _ h hP hD hT hS ls (lv_sub hl [4, 5, 6, 7, 8, 2, 1, 0] rfl)
                            · replace h := ite_f c19 h
                              refine lv_iload hx hb dX13_dig_130 (lv_at hl 1 rfl) ?_
                              refine lv_goto (tgt := 137) hx hb dX13_dig_132 rfl ?_
                              refine lv_istore (lv' := [(6, .int z17), (5, .int y12_5), (8, .int z17), (0, .ref (ad y12_0)), (1, .int y12_1), (2, .int y12_2), (3, .int y12_3), (4, .int y12_4), (7, .int y12_7)]) hx hb dX13_dig_137 hl (by decide) rfl (fun ls hl => ?_)
                              refine lv_iinc (v := y12_7 + 1) (lv' := [(7, .int (y12_7 + 1)), (6, .int z17), (5, .int y12_5), (8, .int z17), (0, .ref (ad y12_0)), (1, .int y12_1), (2, .int y12_2), (3, .int y12_3), (4, .int y12_4)]) hx hb dX13_dig_139 hl (k := 8) rfl rfl (by decide) rfl (fun ls hl => ?_)
                              refine lv_goto (tgt := 73) hx hb dX13_dig_142 rfl ?_
                              exact ih12 M12 y12_0 y12_1 y12_2 y12_3 y12_4 y12_5 z17 (y12_7 + 1) ky12_0 _ _ h hP hD hT hS ls (lv_sub hl [4, 5, 6, 7, 8, 2, 1, 0] rfl)
                          · replace h := ite_f c18 h
                            refine lv_iload hx hb dX13_dig_114 (lv_at hl 0 rfl) ?_
                            refine lv_goto (tgt := 121) hx hb dX13_dig_116 rfl ?_
                            refine lv_istore (lv' := [(5, .int z17), (8, .int z17), (0, .ref (ad y12_0)), (1, .int y12_1), (2, .int y12_2), (3, .int y12_3), (4, .int y12_4), (6, .int y12_6), (7, .int y12_7)]) hx hb dX13_dig_121 hl (by decide) rfl (fun ls hl => ?_)
                            refine lv_iload hx hb dX13_dig_123 (lv_at hl 1 rfl) ?_
                            refine lv_iload hx hb dX13_dig_125 (lv_at hl 7 rfl) ?_
                            refine lv_icmp_le (tgt := 135) hx hb dX13_dig_127 rfl (fun c20 => ?_) (fun c20 => ?_)
                            · replace h := ite_t c20 h
                              refine lv_iload hx hb dX13_dig_135 (lv_at hl 7 rfl) ?_
                              refine lv_istore (lv' := [(6, .int y12_6), (5, .int z17), (8, .int z17), (0, .ref (ad y12_0)), (1, .int y12_1), (2, .int y12_2), (3, .int y12_3), (4, .int y12_4), (7, .int y12_7)]) hx hb dX13_dig_137 hl (by decide) rfl (fun ls hl => ?_)
                              refine lv_iinc (v := y12_7 + 1) (lv' := [(7, .int (y12_7 + 1)), (6, .int y12_6), (5, .int z17), (8, .int z17), (0, .ref (ad y12_0)), (1, .int y12_1), (2, .int y12_2), (3, .int y12_3), (4, .int y12_4)]) hx hb dX13_dig_139 hl (k := 8) rfl rfl (by decide) rfl (fun ls hl => ?_)
                              refine lv_goto (tgt := 73) hx hb dX13_dig_142 rfl ?_
                              exact ih12 M12 y12_0 y12_1 y12_2 y12_3 y12_4 z17 y12_6 (y12_7 + 1) ky12_0 _ _ h hP hD hT hS ls (lv_sub hl [4, 5, 6, 7, 8, 2, 1, 0] rfl)
                            · replace h := ite_f c20 h
                              refine lv_iload hx hb dX13_dig_130 (lv_at hl 1 rfl) ?_
                              refine lv_goto (tgt := 137) hx hb dX13_dig_132 rfl ?_
                              refine lv_istore (lv' := [(6, .int z17), (5, .int z17), (8, .int z17), (0, .ref (ad y12_0)), (1, .int y12_1), (2, .int y12_2), (3, .int y12_3), (4, .int y12_4), (7, .int y12_7)]) hx hb dX13_dig_137 hl (by decide) rfl (fun ls hl => ?_)
                              refine lv_iinc (v := y12_7 + 1) (lv' := [(7, .int (y12_7 + 1)), (6, .int z17), (5, .int z17), (8, .int z17), (0, .ref (ad y12_0)), (1, .int y12_1), (2, .int y12_2), (3, .int y12_3), (4, .int y12_4)]) hx hb dX13_dig_139 hl (k := 8) rfl rfl (by decide) rfl (fun ls hl => ?_)
                              refine lv_goto (tgt := 73) hx hb dX13_dig_142 rfl ?_
                              exact ih12 M12 y12_0 y12_1 y12_2 y12_3 y12_4 z17 z17 (y12_7 + 1) ky12_0 _ _ h hP hD hT hS ls (lv_sub hl [4, 5, 6, 7, 8, 2, 1, 0] rfl)
                        · replace h := ite_t c16 h
                          refine lv_goto (tgt := 139) hx hb dX13_dig_94 rfl ?_
                          refine lv_iinc (v := y12_7 + 1) (lv' := [(7, .int (y12_7 + 1)), (0, .ref (ad y12_0)), (1, .int y12_1), (2, .int y12_2), (3, .int y12_3), (4, .int y12_4), (5, .int y12_5), (6, .int y12_6)]) hx hb dX13_dig_139 hl (k := 7) rfl rfl (by decide) rfl (fun ls hl => ?_)
                          refine lv_goto (tgt := 73) hx hb dX13_dig_142 rfl ?_
                          exact ih12 M12 y12_0 y12_1 y12_2 y12_3 y12_4 y12_5 y12_6 (y12_7 + 1) ky12_0 _ _ h hP hD hT hS ls (lv_sub hl [1, 2, 3, 4, 5, 6, 7, 0] rfl)
                exact L12 FU M9 y9_0 y9_1 y9_2 y9_3 y9_4 9999 0 0 ky9_0 _ _ h hP hD hT hS ls (lv_sub hl [3, 4, 5, 6, 7, 2, 1, 0] rfl)
          exact L9 FU (pI M a0 0 0) a0 z8 0 (-1) 0 k0 _ _ h hP hD hT hS ls (lv_sub hl [4, 3, 2, 1, 0] rfl)
        · replace h := ite_t c7 h
          refine lv_aload_n hx hb dX13_dig_36 rfl (lv_at hl 0 rfl) ?_
          refine lv_bipush (v := 6) hx hb dX13_dig_37 rfl ?_
          obtain ⟨z21, h21, h⟩ := ob_some h
          refine k_i (va_runV (As := [.int 6]) (rest := []) ⟨hx, hb, hml, hown, hts⟩ (c_X13_refused (l := l) (pI M a0 0 0) a0 6 k0 h21) (cwV 1 hts gX13_dig_X13_refused rfl rfl rfl hdV_X13_refused ⟨Nat.le_of_ble_eq_true rfl, Nat.le_of_ble_eq_true rfl⟩) (pV (T := TX13) hP hK hD hT hG hS k0 (by decide) rfl) rfl rfl hl.1 rfl (lv_room (Nat.le_of_ble_eq_true rfl)) dX13_dig_39 ⟨Nat.zero_le _, Nat.zero_le _⟩) hS (fun H locs hP hD hT hS => ?_)
          have hZ := Option.some.inj h
          exact r_iret hx hb hr hlocks hP hK hD hT hG hS (congrArg Prod.fst hZ) (congrArg Prod.snd hZ) dX13_dig_42
set_option maxHeartbeats 4000000 in
set_option maxRecDepth 100000 in
theorem c_X13_lived {l : Launch} {D : va_G} {ad : Nat → Nat} {cy : Nat → ClassId} {A : Nat → Prop} {g : CG} {q : SE} (M : MM) (a0 : Nat) (x1 : Int32) (k0 : ok g a0 13 0) {Z : (Int32 × MM)} (h : f_X13_lived M a0 x1 = some Z) : Met l yX13_lived wsX13_lived ({ frames := 1, cells := 0, slots := 0, locals := 21 }) (va_Pc [.ref (ad a0), .int x1] (Wd D ad cy A g q M)) (va_Qi (fun r u => r = Z.1 ∧ u = Z.2) (Wd D ad cy A g q) A) 0 0 A := by
  refine Met.ofW (cc := cX13_lived) (maxL := 4) (ret := (some .int)) (by decide) rfl ?_
  intro p e s m args below meth c s₁ B hml hv
  obtain ⟨rfl, hP, hK, hD, hT, hG⟩ := hv
  have hx := B.exec
  have hb := B.bytes
  have hr := B.returns
  have hts := atoms_spec (ws := wsX13_lived) B.pre
  have hown : s.vm.findClass RX13 = some m.cls := findClass_of_methodNamed B.named
  have hlocks := B.notSynchronized
  have in12 : ∀ w ∈ u_ws RX12 TX12 48, w ∈ wsX13_lived := fun w h => List.mem_cons_of_mem _ (List.mem_append_right _ h)
  have in13 : ∀ w ∈ u_ws RX13 TX13 29, w ∈ wsX13_lived := fun w h => List.mem_cons_of_mem _ (List.mem_append_left _ (List.mem_append_right _ h))
  have hS : va_S A s.heap s.heap [] := va_S.rf
  have hl := lv_entry ([.ref (ad a0), .int x1]) (n := 4) (Nat.le_of_ble_eq_true rfl)
  rw [lg_entry_eq]
  generalize (lg_sl ([.ref (ad a0), .int x1]) ++ List.replicate (4 - (lg_sl ([.ref (ad a0), .int x1])).length) Slot.unset).toArray = ls at hl ⊢
  have hl : lv_has ls 4 [(0, .ref (ad a0)), (1, .int x1)] := hl
  unfold f_X13_lived at h
  refine lv_aload_n hx hb dX13_lived_0 rfl (lv_at hl 0 rfl) ?_
  refine lv_iconst (v := 0) hx hb dX13_lived_1 rfl ?_
  refine r_putI (T := TX13) (ty := .int) (v := 0) hx hb hts in13 tyX13 tyX13_ok nmX13 hown hK hP hD hT hS k0 (by decide) rfl 0 (by decide) (hts (.fieldLink RX13 30 "StoneWalkModel" "thrown" "I") (List.mem_of_getElem? (i := 1) (by decide +kernel))) rfl rfl (tyX13_ok 0 (by decide)) rfl rfl rfl dX13_lived_2 (fun H locs hP hD hT hS => ?_)
  refine lv_aload_n hx hb dX13_lived_5 rfl (lv_at hl 0 rfl) ?_
  rcases hN1 : gR (pI M a0 0 0) a0 3 with _ | b1
  · replace h := oc_n hN1 h
    refine r_get (T := TX13) (v := .null) hx hb hts in13 hown hK hP k0 (by decide) rfl 3 (by decide) (hts (.fieldLink RX13 431 "StoneWalkModel" "island" "LStoneWalkModel$Island;") (List.mem_of_getElem? (i := 2) (by decide +kernel))) rfl (t := 2) rfl (by show va_rf _ = _; rw [hN1]; rfl) dX13_lived_6 ?_
    refine lv_ifnonnullN hx hb dX13_lived_9 ?_
    refine lv_aload_n hx hb dX13_lived_12 rfl (lv_at hl 0 rfl) ?_
    refine lv_iconst (v := 1) hx hb dX13_lived_13 rfl ?_
    obtain ⟨z2, h2, h⟩ := ob_some h
    refine k_i (va_runV (As := [.int 1]) (rest := []) ⟨hx, hb, hml, hown, hts⟩ (c_X13_refused (l := l) (pI M a0 0 0) a0 1 k0 h2) (cwV 1 hts gX13_lived_X13_refused rfl rfl rfl hdV_X13_refused ⟨Nat.le_of_ble_eq_true rfl, Nat.le_of_ble_eq_true rfl⟩) (pV (T := TX13) hP hK hD hT hG hS k0 (by decide) rfl) rfl rfl hl.1 rfl (lv_room (Nat.le_of_ble_eq_true rfl)) dX13_lived_14 ⟨Nat.zero_le _, Nat.zero_le _⟩) hS (fun H locs hP hD hT hS => ?_)
    have hZ := Option.some.inj h
    exact r_iret hx hb hr hlocks hP hK hD hT hG hS (congrArg Prod.fst hZ) (congrArg Prod.snd hZ) dX13_lived_17
  · replace h := oc_s hN1 h
    have kb1 := hT.f k0 (k := 3) (t := 12) (n := 0) rfl hN1
    refine r_get (T := TX13) (v := .ref (ad b1)) hx hb hts in13 hown hK hP k0 (by decide) rfl 3 (by decide) (hts (.fieldLink RX13 431 "StoneWalkModel" "island" "LStoneWalkModel$Island;") (List.mem_of_getElem? (i := 2) (by decide +kernel))) rfl (t := 2) rfl (by show va_rf _ = _; rw [hN1]; rfl) dX13_lived_6 ?_
    refine lv_ifnonnull (tgt := 18) hx hb dX13_lived_9 rfl ?_
    refine lv_aload_n hx hb dX13_lived_18 rfl (lv_at hl 0 rfl) ?_
    rcases hN3 : gR (pI M a0 0 0) a0 3 with _ | b3
    · replace h := oc_n hN3 h
      refine r_get (T := TX13) (v := .null) hx hb hts in13 hown hK hP k0 (by decide) rfl 3 (by decide) (hts (.fieldLink RX13 431 "StoneWalkModel" "island" "LStoneWalkModel$Island;") (List.mem_of_getElem? (i := 2) (by decide +kernel))) rfl (t := 2) rfl (by show va_rf _ = _; rw [hN3]; rfl) dX13_lived_19 ?_
      exact absurd h (by simp)
    · replace h := oc_s hN3 h
      have kb3 := hT.f k0 (k := 3) (t := 12) (n := 0) rfl hN3
      refine r_get (T := TX13) (v := .ref (ad b3)) hx hb hts in13 hown hK hP k0 (by decide) rfl 3 (by decide) (hts (.fieldLink RX13 431 "StoneWalkModel" "island" "LStoneWalkModel$Island;") (List.mem_of_getElem? (i := 2) (by decide +kernel))) rfl (t := 2) rfl (by show va_rf _ = _; rw [hN3]; rfl) dX13_lived_19 ?_
      refine r_getN (T := TX12) (v := .int (gI (pI M a0 0 0) b3 30)) hx hb hts in12 hown hK hP kb3 (by decide) rfl 30 (by decide) (hG.2.2.1 _ (List.mem_of_getElem? (i := 31) rfl)) rfl (t := 0) rfl rfl dX13_lived_22 ?_
      refine lv_iconst (v := (-1)) hx hb dX13_lived_25 rfl ?_
      refine lv_icmp_eq (tgt := 40) hx hb dX13_lived_26 rfl (fun c4 => ?_) (fun c4 => ?_)
      · replace h := ite_t c4 h
        refine lv_aload_n hx hb dX13_lived_40 rfl (lv_at hl 0 rfl) ?_
        refine lv_bipush (v := 6) hx hb dX13_lived_41 rfl ?_
        obtain ⟨z5, h5, h⟩ := ob_some h
        refine k_i (va_runV (As := [.int 6]) (rest := []) ⟨hx, hb, hml, hown, hts⟩ (c_X13_refused (l := l) (pI M a0 0 0) a0 6 k0 h5) (cwV 1 hts gX13_lived_X13_refused rfl rfl rfl hdV_X13_refused ⟨Nat.le_of_ble_eq_true rfl, Nat.le_of_ble_eq_true rfl⟩) (pV (T := TX13) hP hK hD hT hG hS k0 (by decide) rfl) rfl rfl hl.1 rfl (lv_room (Nat.le_of_ble_eq_true rfl)) dX13_lived_43 ⟨Nat.zero_le _, Nat.zero_le _⟩) hS (fun H locs hP hD hT hS => ?_)
        have hZ := Option.some.inj h
        exact r_iret hx hb hr hlocks hP hK hD hT hG hS (congrArg Prod.fst hZ) (congrArg Prod.snd hZ) dX13_lived_46
      · replace h := ite_f c4 h
        refine lv_aload_n hx hb dX13_lived_29 rfl (lv_at hl 0 rfl) ?_
        rcases hN6 : gR (pI M a0 0 0) a0 3 with _ | b6
        · replace h := oc_n hN6 h
          refine r_get (T := TX13) (v := .null) hx hb hts in13 hown hK hP k0 (by decide) rfl 3 (by decide) (hts (.fieldLink RX13 431 "StoneWalkModel" "island" "LStoneWalkModel$Island;") (List.mem_of_getElem? (i := 2) (by decide +kernel))) rfl (t := 2) rfl (by show va_rf _ = _; rw [hN6]; rfl) dX13_lived_30 ?_
          exact absurd h (by simp)
        · replace h := oc_s hN6 h
          have kb6 := hT.f k0 (k := 3) (t := 12) (n := 0) rfl hN6
          refine r_get (T := TX13) (v := .ref (ad b6)) hx hb hts in13 hown hK hP k0 (by decide) rfl 3 (by decide) (hts (.fieldLink RX13 431 "StoneWalkModel" "island" "LStoneWalkModel$Island;") (List.mem_of_getElem? (i := 2) (by decide +kernel))) rfl (t := 2) rfl (by show va_rf _ = _; rw [hN6]; rfl) dX13_lived_30 ?_
          refine r_getN (T := TX12) (v := .int (gI (pI M a0 0 0) b6 32)) hx hb hts in12 hown hK hP kb6 (by decide) rfl 32 (by decide) (hG.2.2.1 _ (List.mem_of_getElem? (i := 33) rfl)) rfl (t := 0) rfl rfl dX13_lived_33 ?_
          refine lv_iconst (v := (-1)) hx hb dX13_lived_36 rfl ?_
          refine lv_icmp_ne (tgt := 47) hx hb dX13_lived_37 rfl (fun c7 => ?_) (fun c7 => ?_)
          · replace h := ite_f c7 h
            refine lv_aload_n hx hb dX13_lived_47 rfl (lv_at hl 0 rfl) ?_
            rcases hN8 : gR (pI M a0 0 0) a0 3 with _ | b8
            · replace h := oc_n hN8 h
              refine r_get (T := TX13) (v := .null) hx hb hts in13 hown hK hP k0 (by decide) rfl 3 (by decide) (hts (.fieldLink RX13 431 "StoneWalkModel" "island" "LStoneWalkModel$Island;") (List.mem_of_getElem? (i := 2) (by decide +kernel))) rfl (t := 2) rfl (by show va_rf _ = _; rw [hN8]; rfl) dX13_lived_48 ?_
              exact absurd h (by simp)
            · replace h := oc_s hN8 h
              have kb8 := hT.f k0 (k := 3) (t := 12) (n := 0) rfl hN8
              refine r_get (T := TX13) (v := .ref (ad b8)) hx hb hts in13 hown hK hP k0 (by decide) rfl 3 (by decide) (hts (.fieldLink RX13 431 "StoneWalkModel" "island" "LStoneWalkModel$Island;") (List.mem_of_getElem? (i := 2) (by decide +kernel))) rfl (t := 2) rfl (by show va_rf _ = _; rw [hN8]; rfl) dX13_lived_48 ?_
              refine r_getN (T := TX12) (v := .int (gI (pI M a0 0 0) b8 30)) hx hb hts in12 hown hK hP kb8 (by decide) rfl 30 (by decide) (hG.2.2.1 _ (List.mem_of_getElem? (i := 31) rfl)) rfl (t := 0) rfl rfl dX13_lived_51 ?_
              refine lv_aload_n hx hb dX13_lived_54 rfl (lv_at hl 0 rfl) ?_
              rcases hN9 : gR (pI M a0 0 0) a0 3 with _ | b9
              · replace h := oc_n hN9 h
                refine r_get (T := TX13) (v := .null) hx hb hts in13 hown hK hP k0 (by decide) rfl 3 (by decide) (hts (.fieldLink RX13 431 "StoneWalkModel" "island" "LStoneWalkModel$Island;") (List.mem_of_getElem? (i := 2) (by decide +kernel))) rfl (t := 2) rfl (by show va_rf _ = _; rw [hN9]; rfl) dX13_lived_55 ?_
                exact absurd h (by simp)
              · replace h := oc_s hN9 h
                have kb9 := hT.f k0 (k := 3) (t := 12) (n := 0) rfl hN9
                refine r_get (T := TX13) (v := .ref (ad b9)) hx hb hts in13 hown hK hP k0 (by decide) rfl 3 (by decide) (hts (.fieldLink RX13 431 "StoneWalkModel" "island" "LStoneWalkModel$Island;") (List.mem_of_getElem? (i := 2) (by decide +kernel))) rfl (t := 2) rfl (by show va_rf _ = _; rw [hN9]; rfl) dX13_lived_55 ?_
                refine r_getN (T := TX12) (v := .int (gI (pI M a0 0 0) b9 31)) hx hb hts in12 hown hK hP kb9 (by decide) rfl 31 (by decide) (hG.2.2.1 _ (List.mem_of_getElem? (i := 32) rfl)) rfl (t := 0) rfl rfl dX13_lived_58 ?_
                refine lv_imul hx hb dX13_lived_61 ?_
                refine lv_istore_n (lv' := [(2, .int ((gI (pI M a0 0 0) b8 30) * (gI (pI M a0 0 0) b9 31))), (0, .ref (ad a0)), (1, .int x1)]) hx hb dX13_lived_62 rfl hl (by decide) rfl (fun ls hl => ?_)
                refine lv_aload_n hx hb dX13_lived_63 rfl (lv_at hl 1 rfl) ?_
                rcases hN10 : gR (pI M a0 0 0) a0 3 with _ | b10
                · replace h := oc_n hN10 h
                  refine r_get (T := TX13) (v := .null) hx hb hts in13 hown hK hP k0 (by decide) rfl 3 (by decide) (hts (.fieldLink RX13 431 "StoneWalkModel" "island" "LStoneWalkModel$Island;") (List.mem_of_getElem? (i := 2) (by decide +kernel))) rfl (t := 2) rfl (by show va_rf _ = _; rw [hN10]; rfl) dX13_lived_64 ?_
                  exact absurd h (by simp)
                · replace h := oc_s hN10 h
                  have kb10 := hT.f k0 (k := 3) (t := 12) (n := 0) rfl hN10
                  refine r_get (T := TX13) (v := .ref (ad b10)) hx hb hts in13 hown hK hP k0 (by decide) rfl 3 (by decide) (hts (.fieldLink RX13 431 "StoneWalkModel" "island" "LStoneWalkModel$Island;") (List.mem_of_getElem? (i := 2) (by decide +kernel))) rfl (t := 2) rfl (by show va_rf _ = _; rw [hN10]; rfl) dX13_lived_64 ?_
                  refine r_getN (T := TX12) (v := .int (gI (pI M a0 0 0) b10 32)) hx hb hts in12 hown hK hP kb10 (by decide) rfl 32 (by decide) (hG.2.2.1 _ (List.mem_of_getElem? (i := 33) rfl)) rfl (t := 0) rfl rfl dX13_lived_67 ?_
                  refine lv_iload_n hx hb dX13_lived_70 rfl (lv_at hl 2 rfl) ?_
                  refine lv_if_eq (tgt := 84) hx hb dX13_lived_71 rfl (fun c11 => ?_) (fun c11 => ?_)
                  · replace h := ite_t c11 h
                    refine lv_aload_n hx hb dX13_lived_84 rfl (lv_at hl 1 rfl) ?_
                    rcases hN12 : gR (pI M a0 0 0) a0 3 with _ | b12
                    · replace h := oc_n hN12 h
                      refine r_get (T := TX13) (v := .null) hx hb hts in13 hown hK hP k0 (by decide) rfl 3 (by decide) (hts (.fieldLink RX13 431 "StoneWalkModel" "island" "LStoneWalkModel$Island;") (List.mem_of_getElem? (i := 2) (by decide +kernel))) rfl (t := 2) rfl (by show va_rf _ = _; rw [hN12]; rfl) dX13_lived_85 ?_
                      exact absurd h (by simp)
                    · replace h := oc_s hN12 h
                      have kb12 := hT.f k0 (k := 3) (t := 12) (n := 0) rfl hN12
                      refine r_get (T := TX13) (v := .ref (ad b12)) hx hb hts in13 hown hK hP k0 (by decide) rfl 3 (by decide) (hts (.fieldLink RX13 431 "StoneWalkModel" "island" "LStoneWalkModel$Island;") (List.mem_of_getElem? (i := 2) (by decide +kernel))) rfl (t := 2) rfl (by show va_rf _ = _; rw [hN12]; rfl) dX13_lived_85 ?_
                      refine r_getN (T := TX12) (v := .int (gI (pI M a0 0 0) b12 33)) hx hb hts in12 hown hK hP kb12 (by decide) rfl 33 (by decide) (hG.2.2.1 _ (List.mem_of_getElem? (i := 34) rfl)) rfl (t := 0) rfl rfl dX13_lived_88 ?_
                      refine lv_imul hx hb dX13_lived_91 ?_
                      refine lv_istore_n (lv' := [(3, .int ((gI (pI M a0 0 0) b10 32) * (gI (pI M a0 0 0) b12 33))), (2, .int ((gI (pI M a0 0 0) b8 30) * (gI (pI M a0 0 0) b9 31))), (0, .ref (ad a0)), (1, .int x1)]) hx hb dX13_lived_92 rfl hl (by decide) rfl (fun ls hl => ?_)
                      refine lv_aload_n hx hb dX13_lived_93 rfl (lv_at hl 2 rfl) ?_
                      refine lv_iload_n hx hb dX13_lived_94 rfl (lv_at hl 1 rfl) ?_
                      refine lv_iload_n hx hb dX13_lived_95 rfl (lv_at hl 0 rfl) ?_
                      refine lv_icmp_ge (tgt := 103) hx hb dX13_lived_96 rfl (fun c13 => ?_) (fun c13 => ?_)
                      · replace h := ite_t c13 h
                        refine lv_iload_n hx hb dX13_lived_103 rfl (lv_at hl 0 rfl) ?_
                        obtain ⟨z14, h14, h⟩ := ob_some h
                        refine k_i (va_runV (As := [.int ((gI (pI M a0 0 0) b10 32) * (gI (pI M a0 0 0) b12 33))]) (rest := []) ⟨hx, hb, hml, hown, hts⟩ (c_X13_done (l := l) (pI M a0 0 0) a0 ((gI (pI M a0 0 0) b10 32) * (gI (pI M a0 0 0) b12 33)) k0 h14) (cwV 1 hts gX13_lived_X13_done rfl rfl rfl hdV_X13_done ⟨Nat.le_of_ble_eq_true rfl, Nat.le_of_ble_eq_true rfl⟩) (pV (T := TX13) hP hK hD hT hG hS k0 (by decide) rfl) rfl rfl hl.1 rfl (lv_room (Nat.le_of_ble_eq_true rfl)) dX13_lived_104 ⟨Nat.zero_le _, Nat.zero_le _⟩) hS (fun H locs hP hD hT hS => ?_)
                        have hZ := Option.some.inj h
                        exact r_iret hx hb hr hlocks hP hK hD hT hG hS (congrArg Prod.fst hZ) (congrArg Prod.snd hZ) dX13_lived_107
                      · replace h := ite_f c13 h
                        refine lv_iload_n hx hb dX13_lived_99 rfl (lv_at hl 1 rfl) ?_
                        refine lv_goto (tgt := 104) hx hb dX13_lived_100 rfl ?_
                        obtain ⟨z15, h15, h⟩ := ob_some h
                        refine k_i (va_runV (As := [.int ((gI (pI M a0 0 0) b8 30) * (gI (pI M a0 0 0) b9 31))]) (rest := []) ⟨hx, hb, hml, hown, hts⟩ (c_X13_done (l := l) (pI M a0 0 0) a0 ((gI (pI M a0 0 0) b8 30) * (gI (pI M a0 0 0) b9 31)) k0 h15) (cwV 1 hts gX13_lived_X13_done rfl rfl rfl hdV_X13_done ⟨Nat.le_of_ble_eq_true rfl, Nat.le_of_ble_eq_true rfl⟩) (pV (T := TX13) hP hK hD hT hG hS k0 (by decide) rfl) rfl rfl hl.1 rfl (lv_room (Nat.le_of_ble_eq_true rfl)) dX13_lived_104 ⟨Nat.zero_le _, Nat.zero_le _⟩) hS (fun H locs hP hD hT hS => ?_)
                        have hZ := Option.some.inj h
                        exact r_iret hx hb hr hlocks hP hK hD hT hG hS (congrArg Prod.fst hZ) (congrArg Prod.snd hZ) dX13_lived_107
                  · replace h := ite_f c11 h
                    refine lv_aload_n hx hb dX13_lived_74 rfl (lv_at hl 1 rfl) ?_
                    rcases hN16 : gR (pI M a0 0 0) a0 3 with _ | b16
                    · replace h := oc_n hN16 h
                      refine r_get (T := TX13) (v := .null) hx hb hts in13 hown hK hP k0 (by decide) rfl 3 (by decide) (hts (.fieldLink RX13 431 "StoneWalkModel" "island" "LStoneWalkModel$Island;") (List.mem_of_getElem? (i := 2) (by decide +kernel))) rfl (t := 2) rfl (by show va_rf _ = _; rw [hN16]; rfl) dX13_lived_75 ?_
                      exact absurd h (by simp)
                    · replace h := oc_s hN16 h
                      have kb16 := hT.f k0 (k := 3) (t := 12) (n := 0) rfl hN16
                      refine r_get (T := TX13) (v := .ref (ad b16)) hx hb hts in13 hown hK hP k0 (by decide) rfl 3 (by decide) (hts (.fieldLink RX13 431 "StoneWalkModel" "island" "LStoneWalkModel$Island;") (List.mem_of_getElem? (i := 2) (by decide +kernel))) rfl (t := 2) rfl (by show va_rf _ = _; rw [hN16]; rfl) dX13_lived_75 ?_
                      refine r_getN (T := TX12) (v := .int (gI (pI M a0 0 0) b16 34)) hx hb hts in12 hown hK hP kb16 (by decide) rfl 34 (by decide) (hG.2.2.1 _ (List.mem_of_getElem? (i := 35) rfl)) rfl (t := 0) rfl rfl dX13_lived_78 ?_
                      refine lv_goto (tgt := 91) hx hb dX13_lived_81 rfl ?_
                      refine lv_imul hx hb dX13_lived_91 ?_
                      refine lv_istore_n (lv' := [(3, .int ((gI (pI M a0 0 0) b10 32) * (gI (pI M a0 0 0) b16 34))), (2, .int ((gI (pI M a0 0 0) b8 30) * (gI (pI M a0 0 0) b9 31))), (0, .ref (ad a0)), (1, .int x1)]) hx hb dX13_lived_92 rfl hl (by decide) rfl (fun ls hl => ?_)
                      refine lv_aload_n hx hb dX13_lived_93 rfl (lv_at hl 2 rfl) ?_
                      refine lv_iload_n hx hb dX13_lived_94 rfl (lv_at hl 1 rfl) ?_
                      refine lv_iload_n hx hb dX13_lived_95 rfl (lv_at hl 0 rfl) ?_
                      refine lv_icmp_ge (tgt := 103) hx hb dX13_lived_96 rfl (fun c17 => ?_) (fun c17 => ?_)
                      · replace h := ite_t c17 h
                        refine lv_iload_n hx hb dX13_lived_103 rfl (lv_at hl 0 rfl) ?_
                        obtain ⟨z18, h18, h⟩ := ob_some h
                        refine k_i (va_runV (As := [.int ((gI (pI M a0 0 0) b10 32) * (gI (pI M a0 0 0) b16 34))]) (rest := []) ⟨hx, hb, hml, hown, hts⟩ (c_X13_done (l := l) (pI M a0 0 0) a0 ((gI (pI M a0 0 0) b10 32) * (gI (pI M a0 0 0) b16 34)) k0 h18) (cwV 1 hts gX13_lived_X13_done rfl rfl rfl hdV_X13_done ⟨Nat.le_of_ble_eq_true rfl, Nat.le_of_ble_eq_true rfl⟩) (pV (T := TX13) hP hK hD hT hG hS k0 (by decide) rfl) rfl rfl hl.1 rfl (lv_room (Nat.le_of_ble_eq_true rfl)) dX13_lived_104 ⟨Nat.zero_le _, Nat.zero_le _⟩) hS (fun H locs hP hD hT hS => ?_)
                        have hZ := Option.some.inj h
                        exact r_iret hx hb hr hlocks hP hK hD hT hG hS (congrArg Prod.fst hZ) (congrArg Prod.snd hZ) dX13_lived_107
                      · replace h := ite_f c17 h
                        refine lv_iload_n hx hb dX13_lived_99 rfl (lv_at hl 1 rfl) ?_
                        refine lv_goto (tgt := 104) hx hb dX13_lived_100 rfl ?_
                        obtain ⟨z19, h19, h⟩ := ob_some h
                        refine k_i (va_runV (As := [.int ((gI (pI M a0 0 0) b8 30) * (gI (pI M a0 0 0) b9 31))]) (rest := []) ⟨hx, hb, hml, hown, hts⟩ (c_X13_done (l := l) (pI M a0 0 0) a0 ((gI (pI M a0 0 0) b8 30) * (gI (pI M a0 0 0) b9 31)) k0 h19) (cwV 1 hts gX13_lived_X13_done rfl rfl rfl hdV_X13_done ⟨Nat.le_of_ble_eq_true rfl, Nat.le_of_ble_eq_true rfl⟩) (pV (T := TX13) hP hK hD hT hG hS k0 (by decide) rfl) rfl rfl hl.1 rfl (lv_room (Nat.le_of_ble_eq_true rfl)) dX13_lived_104 ⟨Nat.zero_le _, Nat.zero_le _⟩) hS (fun H locs hP hD hT hS => ?_)
                        have hZ := Option.some.inj h
                        exact r_iret hx hb hr hlocks hP hK hD hT hG hS (congrArg Prod.fst hZ) (congrArg Prod.snd hZ) dX13_lived_107
          · replace h := ite_t c7 h
            refine lv_aload_n hx hb dX13_lived_40 rfl (lv_at hl 0 rfl) ?_
            refine lv_bipush (v := 6) hx hb dX13_lived_41 rfl ?_
            obtain ⟨z20, h20, h⟩ := ob_some h
            refine k_i (va_runV (As := [.int 6]) (rest := []) ⟨hx, hb, hml, hown, hts⟩ (c_X13_refused (l := l) (pI M a0 0 0) a0 6 k0 h20) (cwV 1 hts gX13_lived_X13_refused rfl rfl rfl hdV_X13_refused ⟨Nat.le_of_ble_eq_true rfl, Nat.le_of_ble_eq_true rfl⟩) (pV (T := TX13) hP hK hD hT hG hS k0 (by decide) rfl) rfl rfl hl.1 rfl (lv_room (Nat.le_of_ble_eq_true rfl)) dX13_lived_43 ⟨Nat.zero_le _, Nat.zero_le _⟩) hS (fun H locs hP hD hT hS => ?_)
            have hZ := Option.some.inj h
            exact r_iret hx hb hr hlocks hP hK hD hT hG hS (congrArg Prod.fst hZ) (congrArg Prod.snd hZ) dX13_lived_46
set_option maxHeartbeats 4000000 in
set_option maxRecDepth 100000 in
theorem c_X13_led {l : Launch} {D : va_G} {ad : Nat → Nat} {cy : Nat → ClassId} {A : Nat → Prop} {g : CG} {q : SE} (M : MM) (a0 : Nat) (x1 : Int32) (x2 : Int32) (k0 : ok g a0 13 0) {Z : (Int32 × MM)} (h : f_X13_led M a0 x1 x2 = some Z) : Met l yX13_led wsX13_led ({ frames := 2, cells := 0, slots := 0, locals := 47 }) (va_Pc [.ref (ad a0), .int x1, .int x2] (Wd D ad cy A g q M)) (va_Qi (fun r u => r = Z.1 ∧ u = Z.2) (Wd D ad cy A g q) A) 0 0 A := by
  refine Met.ofW (cc := cX13_led) (maxL := 5) (ret := (some .int)) (by decide) rfl ?_
  intro p e s m args below meth c s₁ B hml hv
  obtain ⟨rfl, hP, hK, hD, hT, hG⟩ := hv
  have hx := B.exec
  have hb := B.bytes
  have hr := B.returns
  have hts := atoms_spec (ws := wsX13_led) B.pre
  have hown : s.vm.findClass RX13 = some m.cls := findClass_of_methodNamed B.named
  have hlocks := B.notSynchronized
  have in12 : ∀ w ∈ u_ws RX12 TX12 48, w ∈ wsX13_led := fun w h => List.mem_cons_of_mem _ (List.mem_append_right _ h)
  have in13 : ∀ w ∈ u_ws RX13 TX13 29, w ∈ wsX13_led := fun w h => List.mem_cons_of_mem _ (List.mem_append_left _ (List.mem_append_right _ h))
  have hS : va_S A s.heap s.heap [] := va_S.rf
  have hl := lv_entry ([.ref (ad a0), .int x1, .int x2]) (n := 5) (Nat.le_of_ble_eq_true rfl)
  rw [lg_entry_eq]
  generalize (lg_sl ([.ref (ad a0), .int x1, .int x2]) ++ List.replicate (5 - (lg_sl ([.ref (ad a0), .int x1, .int x2])).length) Slot.unset).toArray = ls at hl ⊢
  have hl : lv_has ls 5 [(0, .ref (ad a0)), (1, .int x1), (2, .int x2)] := hl
  unfold f_X13_led at h
  refine lv_aload_n hx hb dX13_led_0 rfl (lv_at hl 0 rfl) ?_
  refine lv_iconst (v := 0) hx hb dX13_led_1 rfl ?_
  refine r_putI (T := TX13) (ty := .int) (v := 0) hx hb hts in13 tyX13 tyX13_ok nmX13 hown hK hP hD hT hS k0 (by decide) rfl 0 (by decide) (hts (.fieldLink RX13 30 "StoneWalkModel" "thrown" "I") (List.mem_of_getElem? (i := 1) (by decide +kernel))) rfl rfl (tyX13_ok 0 (by decide)) rfl rfl rfl dX13_led_2 (fun H locs hP hD hT hS => ?_)
  refine lv_iconst (v := 0) hx hb dX13_led_5 rfl ?_
  refine lv_istore_n (lv' := [(3, .int 0), (0, .ref (ad a0)), (1, .int x1), (2, .int x2)]) hx hb dX13_led_6 rfl hl (by decide) rfl (fun ls hl => ?_)
  refine lv_iconst (v := 0) hx hb dX13_led_7 rfl ?_
  refine lv_istore (lv' := [(4, .int 0), (3, .int 0), (0, .ref (ad a0)), (1, .int x1), (2, .int x2)]) hx hb dX13_led_8 hl (by decide) rfl (fun ls hl => ?_)
  have L1 : ∀ n1 : Nat, ∀ (M1 : MM) (y1_0 : Nat) (y1_1 : Int32) (y1_2 : Int32) (y1_3 : Int32) (y1_4 : Int32) (ky1_0 : ok g y1_0 13 0) (H : Heap) (locs : List Loc), f_X13_led_L10 n1 M1 y1_0 y1_1 y1_2 y1_3 y1_4 = some Z → va_P D vwCl (wd ad cy g M1) H → va_D A (wd ad cy g M1) → WT g M1 → va_S A s.heap H locs → ∀ (ls : Array Slot), lv_has ls 5 [(0, .ref (ad y1_0)), (1, .int y1_1), (2, .int y1_2), (3, .int y1_3), (4, .int y1_4)] → W p l e ((headSpec wsX13_led ({ frames := 2, cells := 0, slots := 0, locals := 47 })).room) s m (([.ref (ad a0), .int x1, .int x2] : List Value).toArray) below meth c H locs 0 0 (MQ below (va_Qi (fun r u => r = Z.1 ∧ u = Z.2) (Wd D ad cy A g q) A) ([.ref (ad a0), .int x1, .int x2]).toArray s 0 0 A) (F0 m 10 ls []) := by
    intro n1
    induction n1 with
    | zero => intro M1 y1_0 y1_1 y1_2 y1_3 y1_4 ky1_0 H locs h; exact absurd h (by simp [f_X13_led_L10])
    | succ n1 ih1 =>
      intro M1 y1_0 y1_1 y1_2 y1_3 y1_4 ky1_0 H locs h hP hD hT hS ls hl
      rw [f_X13_led_L10] at h
      refine lv_aload_n hx hb dX13_led_10 rfl (lv_at hl 0 rfl) ?_
      refine lv_iload_n hx hb dX13_led_11 rfl (lv_at hl 1 rfl) ?_
      obtain ⟨z2, h2, h⟩ := ob_some h
      refine k_z (va_runV (As := [.int y1_1]) (rest := []) ⟨hx, hb, hml, hown, hts⟩ (c_X13_isWay (l := l) M1 y1_0 y1_1 ky1_0 h2) (cwV 1 hts gX13_led_X13_isWay rfl rfl rfl hdV_X13_isWay ⟨Nat.le_of_ble_eq_true rfl, Nat.le_of_ble_eq_true rfl⟩) (pV (T := TX13) hP hK hD hT hG hS ky1_0 (by decide) rfl) rfl rfl hl.1 rfl (lv_room (Nat.le_of_ble_eq_true rfl)) dX13_led_12 ⟨Nat.zero_le _, Nat.zero_le _⟩) hS (fun H locs hz2 hP hD hT hS => ?_)
      refine lv_if_eq (tgt := 75) hx hb dX13_led_15 rfl (fun c3 => ?_) (fun c3 => ?_)
      · replace h := ite_t c3 h
        refine lv_aload_n hx hb dX13_led_75 rfl (lv_at hl 0 rfl) ?_
        refine lv_iconst (v := 1) hx hb dX13_led_76 rfl ?_
        refine r_putI (T := TX13) (ty := .int) (v := 1) hx hb hts in13 tyX13 tyX13_ok nmX13 hown hK hP hD hT hS ky1_0 (by decide) rfl 0 (by decide) (hts (.fieldLink RX13 30 "StoneWalkModel" "thrown" "I") (List.mem_of_getElem? (i := 1) (by decide +kernel))) rfl rfl (tyX13_ok 0 (by decide)) rfl rfl rfl dX13_led_77 (fun H locs hP hD hT hS => ?_)
        refine lv_iconst (v := 0) hx hb dX13_led_80 rfl ?_
        have hZ := Option.some.inj h
        exact r_iret hx hb hr hlocks hP hK hD hT hG hS (congrArg Prod.fst hZ) (congrArg Prod.snd hZ) dX13_led_81
      · replace h := ite_f c3 h
        refine lv_iload hx hb dX13_led_18 (lv_at hl 4 rfl) ?_
        refine lv_aload_n hx hb dX13_led_20 rfl (lv_at hl 0 rfl) ?_
        rcases hN4 : gR M1 y1_0 3 with _ | b4
        · replace h := oc_n hN4 h
          refine r_get (T := TX13) (v := .null) hx hb hts in13 hown hK hP ky1_0 (by decide) rfl 3 (by decide) (hts (.fieldLink RX13 431 "StoneWalkModel" "island" "LStoneWalkModel$Island;") (List.mem_of_getElem? (i := 2) (by decide +kernel))) rfl (t := 2) rfl (by show va_rf _ = _; rw [hN4]; rfl) dX13_led_21 ?_
          exact absurd h (by simp)
        · replace h := oc_s hN4 h
          have kb4 := hT.f ky1_0 (k := 3) (t := 12) (n := 0) rfl hN4
          refine r_get (T := TX13) (v := .ref (ad b4)) hx hb hts in13 hown hK hP ky1_0 (by decide) rfl 3 (by decide) (hts (.fieldLink RX13 431 "StoneWalkModel" "island" "LStoneWalkModel$Island;") (List.mem_of_getElem? (i := 2) (by decide +kernel))) rfl (t := 2) rfl (by show va_rf _ = _; rw [hN4]; rfl) dX13_led_21 ?_
          refine r_getN (T := TX12) (v := .int (gI M1 b4 2)) hx hb hts in12 hown hK hP kb4 (by decide) rfl 2 (by decide) (hG.2.2.1 _ (List.mem_of_getElem? (i := 7) rfl)) rfl (t := 0) rfl rfl dX13_led_24 ?_
          refine lv_icmp_ge (tgt := 75) hx hb dX13_led_27 rfl (fun c5 => ?_) (fun c5 => ?_)
          · replace h := ite_t c5 h
            refine lv_aload_n hx hb dX13_led_75 rfl (lv_at hl 0 rfl) ?_
            refine lv_iconst (v := 1) hx hb dX13_led_76 rfl ?_
            refine r_putI (T := TX13) (ty := .int) (v := 1) hx hb hts in13 tyX13 tyX13_ok nmX13 hown hK hP hD hT hS ky1_0 (by decide) rfl 0 (by decide) (hts (.fieldLink RX13 30 "StoneWalkModel" "thrown" "I") (List.mem_of_getElem? (i := 1) (by decide +kernel))) rfl rfl (tyX13_ok 0 (by decide)) rfl rfl rfl dX13_led_77 (fun H locs hP hD hT hS => ?_)
            refine lv_iconst (v := 0) hx hb dX13_led_80 rfl ?_
            have hZ := Option.some.inj h
            exact r_iret hx hb hr hlocks hP hK hD hT hG hS (congrArg Prod.fst hZ) (congrArg Prod.snd hZ) dX13_led_81
          · replace h := ite_f c5 h
            refine lv_aload_n hx hb dX13_led_30 rfl (lv_at hl 0 rfl) ?_
            rcases hN6 : gR M1 y1_0 3 with _ | b6
            · replace h := oc_n hN6 h
              refine r_get (T := TX13) (v := .null) hx hb hts in13 hown hK hP ky1_0 (by decide) rfl 3 (by decide) (hts (.fieldLink RX13 431 "StoneWalkModel" "island" "LStoneWalkModel$Island;") (List.mem_of_getElem? (i := 2) (by decide +kernel))) rfl (t := 2) rfl (by show va_rf _ = _; rw [hN6]; rfl) dX13_led_31 ?_
              exact absurd h (by simp)
            · replace h := oc_s hN6 h
              have kb6 := hT.f ky1_0 (k := 3) (t := 12) (n := 0) rfl hN6
              refine r_get (T := TX13) (v := .ref (ad b6)) hx hb hts in13 hown hK hP ky1_0 (by decide) rfl 3 (by decide) (hts (.fieldLink RX13 431 "StoneWalkModel" "island" "LStoneWalkModel$Island;") (List.mem_of_getElem? (i := 2) (by decide +kernel))) rfl (t := 2) rfl (by show va_rf _ = _; rw [hN6]; rfl) dX13_led_31 ?_
              rcases hN7 : gR M1 b6 18 with _ | b7
              · exact absurd (oc_n hN7 h) (by simp)
              replace h := oc_s hN7 h
              have kb7 := hT.f kb6 (k := 18) (t := 15) (n := 10) rfl hN7
              refine r_getN (T := TX12) (v := .ref (ad b7)) hx hb hts in12 hown hK hP kb6 (by decide) rfl 18 (by decide) (hG.2.2.1 _ (List.mem_of_getElem? (i := 18) rfl)) rfl (t := 2) rfl (by show va_rf _ = _; rw [hN7]; rfl) dX13_led_34 ?_
              refine lv_iload hx hb dX13_led_37 (lv_at hl 4 rfl) ?_
              obtain ⟨hn8, h⟩ := chk_some h
              refine r_iald hx hb hK hP kb7 hn8 dX13_led_39 ?_
              refine lv_iconst (v := 5) hx hb dX13_led_40 rfl ?_
              refine lv_icmp_ne (tgt := 69) hx hb dX13_led_41 rfl (fun c9 => ?_) (fun c9 => ?_)
              · replace h := ite_f c9 h
                refine lv_iinc (v := y1_4 + 1) (lv' := [(4, .int (y1_4 + 1)), (0, .ref (ad y1_0)), (1, .int y1_1), (2, .int y1_2), (3, .int y1_3)]) hx hb dX13_led_69 hl (k := 4) rfl rfl (by decide) rfl (fun ls hl => ?_)
                refine lv_goto (tgt := 10) hx hb dX13_led_72 rfl ?_
                exact ih1 M1 y1_0 y1_1 y1_2 y1_3 (y1_4 + 1) ky1_0 _ _ h hP hD hT hS ls (lv_sub hl [1, 2, 3, 4, 0] rfl)
              · replace h := ite_t c9 h
                refine lv_aload_n hx hb dX13_led_44 rfl (lv_at hl 0 rfl) ?_
                refine lv_iload_n hx hb dX13_led_45 rfl (lv_at hl 1 rfl) ?_
                refine lv_iload hx hb dX13_led_46 (lv_at hl 4 rfl) ?_
                obtain ⟨z10, h10, h⟩ := ob_some h
                refine k_i (va_runV (As := [.int y1_1, .int y1_4]) (rest := []) ⟨hx, hb, hml, hown, hts⟩ (c_X13_liesBy (l := l) M1 y1_0 y1_1 y1_4 ky1_0 h10) (cwV 2 hts gX13_led_X13_liesBy rfl rfl rfl hdV_X13_liesBy ⟨Nat.le_of_ble_eq_true rfl, Nat.le_of_ble_eq_true rfl⟩) (pV (T := TX13) hP hK hD hT hG hS ky1_0 (by decide) rfl) rfl rfl hl.1 rfl (lv_room (Nat.le_of_ble_eq_true rfl)) dX13_led_48 ⟨Nat.zero_le _, Nat.zero_le _⟩) hS (fun H locs hP hD hT hS => ?_)
                refine lv_iconst (v := 5) hx hb dX13_led_51 rfl ?_
                refine lv_icmp_ge (tgt := 58) hx hb dX13_led_52 rfl (fun c11 => ?_) (fun c11 => ?_)
                · replace h := ite_t c11 h
                  refine lv_iload_n hx hb dX13_led_58 rfl (lv_at hl 3 rfl) ?_
                  refine lv_iload_n hx hb dX13_led_59 rfl (lv_at hl 2 rfl) ?_
                  refine lv_icmp_ne (tgt := 66) hx hb dX13_led_60 rfl (fun c12 => ?_) (fun c12 => ?_)
                  · replace h := ite_f c12 h
                    refine lv_iinc (v := y1_3 + 1) (lv' := [(3, .int (y1_3 + 1)), (0, .ref (ad y1_0)), (1, .int y1_1), (2, .int y1_2), (4, .int y1_4)]) hx hb dX13_led_66 hl (k := 3) rfl rfl (by decide) rfl (fun ls hl => ?_)
                    refine lv_iinc (v := y1_4 + 1) (lv' := [(4, .int (y1_4 + 1)), (3, .int (y1_3 + 1)), (0, .ref (ad y1_0)), (1, .int y1_1), (2, .int y1_2)]) hx hb dX13_led_69 hl (k := 4) rfl rfl (by decide) rfl (fun ls hl => ?_)
                    refine lv_goto (tgt := 10) hx hb dX13_led_72 rfl ?_
                    exact ih1 M1 y1_0 y1_1 y1_2 (y1_3 + 1) (y1_4 + 1) ky1_0 _ _ h hP hD hT hS ls (lv_sub hl [2, 3, 4, 1, 0] rfl)
                  · replace h := ite_t c12 h
                    refine lv_iload hx hb dX13_led_63 (lv_at hl 4 rfl) ?_
                    have hZ := Option.some.inj h
                    exact r_iret hx hb hr hlocks hP hK hD hT hG hS (congrArg Prod.fst hZ) (congrArg Prod.snd hZ) dX13_led_65
                · replace h := ite_f c11 h
                  refine lv_goto (tgt := 69) hx hb dX13_led_55 rfl ?_
                  refine lv_iinc (v := y1_4 + 1) (lv' := [(4, .int (y1_4 + 1)), (0, .ref (ad y1_0)), (1, .int y1_1), (2, .int y1_2), (3, .int y1_3)]) hx hb dX13_led_69 hl (k := 4) rfl rfl (by decide) rfl (fun ls hl => ?_)
                  refine lv_goto (tgt := 10) hx hb dX13_led_72 rfl ?_
                  exact ih1 M1 y1_0 y1_1 y1_2 y1_3 (y1_4 + 1) ky1_0 _ _ h hP hD hT hS ls (lv_sub hl [1, 2, 3, 4, 0] rfl)
  exact L1 FU (pI M a0 0 0) a0 x1 x2 0 0 k0 _ _ h hP hD hT hS ls (lv_sub hl [2, 3, 4, 1, 0] rfl)
set_option maxHeartbeats 4000000 in
set_option maxRecDepth 100000 in
theorem c_X13_size {l : Launch} {D : va_G} {ad : Nat → Nat} {cy : Nat → ClassId} {A : Nat → Prop} {g : CG} {q : SE} (M : MM) (a0 : Nat) (x1 : Int32) (k0 : ok g a0 13 0) {Z : (Int32 × MM)} (h : f_X13_size M a0 x1 = some Z) : Met l yX13_size wsX13_size ({ frames := 1, cells := 0, slots := 0, locals := 22 }) (va_Pc [.ref (ad a0), .int x1] (Wd D ad cy A g q M)) (va_Qi (fun r u => r = Z.1 ∧ u = Z.2) (Wd D ad cy A g q) A) 0 0 A := by
  refine Met.ofW (cc := cX13_size) (maxL := 2) (ret := (some .int)) (by decide) rfl ?_
  intro p e s m args below meth c s₁ B hml hv
  obtain ⟨rfl, hP, hK, hD, hT, hG⟩ := hv
  have hx := B.exec
  have hb := B.bytes
  have hr := B.returns
  have hts := atoms_spec (ws := wsX13_size) B.pre
  have hown : s.vm.findClass RX13 = some m.cls := findClass_of_methodNamed B.named
  have hlocks := B.notSynchronized
  have in12 : ∀ w ∈ u_ws RX12 TX12 48, w ∈ wsX13_size := fun w h => List.mem_cons_of_mem _ (List.mem_append_right _ h)
  have in13 : ∀ w ∈ u_ws RX13 TX13 29, w ∈ wsX13_size := fun w h => List.mem_cons_of_mem _ (List.mem_append_left _ (List.mem_append_right _ h))
  have hS : va_S A s.heap s.heap [] := va_S.rf
  have hl := lv_entry ([.ref (ad a0), .int x1]) (n := 2) (Nat.le_of_ble_eq_true rfl)
  rw [lg_entry_eq]
  generalize (lg_sl ([.ref (ad a0), .int x1]) ++ List.replicate (2 - (lg_sl ([.ref (ad a0), .int x1])).length) Slot.unset).toArray = ls at hl ⊢
  have hl : lv_has ls 2 [(0, .ref (ad a0)), (1, .int x1)] := hl
  unfold f_X13_size at h
  refine lv_aload_n hx hb dX13_size_0 rfl (lv_at hl 0 rfl) ?_
  refine lv_iconst (v := 0) hx hb dX13_size_1 rfl ?_
  refine r_putI (T := TX13) (ty := .int) (v := 0) hx hb hts in13 tyX13 tyX13_ok nmX13 hown hK hP hD hT hS k0 (by decide) rfl 0 (by decide) (hts (.fieldLink RX13 30 "StoneWalkModel" "thrown" "I") (List.mem_of_getElem? (i := 1) (by decide +kernel))) rfl rfl (tyX13_ok 0 (by decide)) rfl rfl rfl dX13_size_2 (fun H locs hP hD hT hS => ?_)
  refine lv_iload_n hx hb dX13_size_5 rfl (lv_at hl 1 rfl) ?_
  refine lv_bipush (v := 9) hx hb dX13_size_6 rfl ?_
  refine lv_icmp_ne (tgt := 16) hx hb dX13_size_8 rfl (fun c1 => ?_) (fun c1 => ?_)
  · replace h := ite_f c1 h
    refine lv_iload_n hx hb dX13_size_16 rfl (lv_at hl 1 rfl) ?_
    refine lv_iconst (v := 0) hx hb dX13_size_17 rfl ?_
    refine lv_bipush (v := 10) hx hb dX13_size_18 rfl ?_
    obtain ⟨z2, h2, h⟩ := ob_some h
    refine k_z (va_runS (As := [.int x1, .int 0, .int 10]) (rest := []) ⟨hx, hb, hml, hown, hts⟩ (c_X13_in (l := l) (pI M a0 0 0) x1 0 10 h2) (va_cwS 3 hts gX13_size_X13_in rfl rfl rfl hdS_X13_in ⟨Nat.le_of_ble_eq_true rfl, Nat.le_of_ble_eq_true rfl⟩) (pS hP hK hD hT hG hS) rfl rfl hl.1 rfl (lv_room (Nat.le_of_ble_eq_true rfl)) dX13_size_20 ⟨Nat.zero_le _, Nat.zero_le _⟩) hS (fun H locs hz2 hP hD hT hS => ?_)
    refine lv_if_ne (tgt := 28) hx hb dX13_size_23 rfl (fun c3 => ?_) (fun c3 => ?_)
    · replace h := ite_f c3 h
      refine lv_aload_n hx hb dX13_size_28 rfl (lv_at hl 0 rfl) ?_
      rcases hN4 : gR (pI M a0 0 0) a0 3 with _ | b4
      · replace h := oc_n hN4 h
        refine r_get (T := TX13) (v := .null) hx hb hts in13 hown hK hP k0 (by decide) rfl 3 (by decide) (hts (.fieldLink RX13 431 "StoneWalkModel" "island" "LStoneWalkModel$Island;") (List.mem_of_getElem? (i := 3) (by decide +kernel))) rfl (t := 2) rfl (by show va_rf _ = _; rw [hN4]; rfl) dX13_size_29 ?_
        refine lv_ifnonnullN hx hb dX13_size_32 ?_
        refine lv_iconst (v := 0) hx hb dX13_size_35 rfl ?_
        have hZ := Option.some.inj h
        exact r_iret hx hb hr hlocks hP hK hD hT hG hS (congrArg Prod.fst hZ) (congrArg Prod.snd hZ) dX13_size_36
      · replace h := oc_s hN4 h
        have kb4 := hT.f k0 (k := 3) (t := 12) (n := 0) rfl hN4
        refine r_get (T := TX13) (v := .ref (ad b4)) hx hb hts in13 hown hK hP k0 (by decide) rfl 3 (by decide) (hts (.fieldLink RX13 431 "StoneWalkModel" "island" "LStoneWalkModel$Island;") (List.mem_of_getElem? (i := 3) (by decide +kernel))) rfl (t := 2) rfl (by show va_rf _ = _; rw [hN4]; rfl) dX13_size_29 ?_
        refine lv_ifnonnull (tgt := 37) hx hb dX13_size_32 rfl ?_
        refine lv_iload_n hx hb dX13_size_37 rfl (lv_at hl 1 rfl) ?_
        by_cases c5_0 : x1 = 0
        · replace h := ite_t c5_0 h
          refine lv_tableIn (tgt := 88) (off := 50) hx hb dX13_size_38 (by rw [c5_0]; decide) (by rw [c5_0]; decide) (by rw [c5_0]; decide) rfl ?_
          refine lv_aload_n hx hb dX13_size_88 rfl (lv_at hl 0 rfl) ?_
          rcases hN6 : gR (pI M a0 0 0) a0 3 with _ | b6
          · replace h := oc_n hN6 h
            refine r_get (T := TX13) (v := .null) hx hb hts in13 hown hK hP k0 (by decide) rfl 3 (by decide) (hts (.fieldLink RX13 431 "StoneWalkModel" "island" "LStoneWalkModel$Island;") (List.mem_of_getElem? (i := 3) (by decide +kernel))) rfl (t := 2) rfl (by show va_rf _ = _; rw [hN6]; rfl) dX13_size_89 ?_
            exact absurd h (by simp)
          · replace h := oc_s hN6 h
            have kb6 := hT.f k0 (k := 3) (t := 12) (n := 0) rfl hN6
            refine r_get (T := TX13) (v := .ref (ad b6)) hx hb hts in13 hown hK hP k0 (by decide) rfl 3 (by decide) (hts (.fieldLink RX13 431 "StoneWalkModel" "island" "LStoneWalkModel$Island;") (List.mem_of_getElem? (i := 3) (by decide +kernel))) rfl (t := 2) rfl (by show va_rf _ = _; rw [hN6]; rfl) dX13_size_89 ?_
            refine r_getN (T := TX12) (v := .int (gI (pI M a0 0 0) b6 0)) hx hb hts in12 hown hK hP kb6 (by decide) rfl 0 (by decide) (hG.2.2.1 _ (List.mem_of_getElem? (i := 5) rfl)) rfl (t := 0) rfl rfl dX13_size_92 ?_
            have hZ := Option.some.inj h
            exact r_iret hx hb hr hlocks hP hK hD hT hG hS (congrArg Prod.fst hZ) (congrArg Prod.snd hZ) dX13_size_95
        · replace h := ite_f c5_0 h
          by_cases c5_1 : x1 = 1
          · replace h := ite_t c5_1 h
            refine lv_tableIn (tgt := 96) (off := 58) hx hb dX13_size_38 (by rw [c5_1]; decide) (by rw [c5_1]; decide) (by rw [c5_1]; decide) rfl ?_
            refine lv_aload_n hx hb dX13_size_96 rfl (lv_at hl 0 rfl) ?_
            rcases hN7 : gR (pI M a0 0 0) a0 3 with _ | b7
            · replace h := oc_n hN7 h
              refine r_get (T := TX13) (v := .null) hx hb hts in13 hown hK hP k0 (by decide) rfl 3 (by decide) (hts (.fieldLink RX13 431 "StoneWalkModel" "island" "LStoneWalkModel$Island;") (List.mem_of_getElem? (i := 3) (by decide +kernel))) rfl (t := 2) rfl (by show va_rf _ = _; rw [hN7]; rfl) dX13_size_97 ?_
              exact absurd h (by simp)
            · replace h := oc_s hN7 h
              have kb7 := hT.f k0 (k := 3) (t := 12) (n := 0) rfl hN7
              refine r_get (T := TX13) (v := .ref (ad b7)) hx hb hts in13 hown hK hP k0 (by decide) rfl 3 (by decide) (hts (.fieldLink RX13 431 "StoneWalkModel" "island" "LStoneWalkModel$Island;") (List.mem_of_getElem? (i := 3) (by decide +kernel))) rfl (t := 2) rfl (by show va_rf _ = _; rw [hN7]; rfl) dX13_size_97 ?_
              refine r_getN (T := TX12) (v := .int (gI (pI M a0 0 0) b7 1)) hx hb hts in12 hown hK hP kb7 (by decide) rfl 1 (by decide) (hG.2.2.1 _ (List.mem_of_getElem? (i := 6) rfl)) rfl (t := 0) rfl rfl dX13_size_100 ?_
              have hZ := Option.some.inj h
              exact r_iret hx hb hr hlocks hP hK hD hT hG hS (congrArg Prod.fst hZ) (congrArg Prod.snd hZ) dX13_size_103
          · replace h := ite_f c5_1 h
            by_cases c5_2 : x1 = 2
            · replace h := ite_t c5_2 h
              refine lv_tableIn (tgt := 104) (off := 66) hx hb dX13_size_38 (by rw [c5_2]; decide) (by rw [c5_2]; decide) (by rw [c5_2]; decide) rfl ?_
              refine lv_aload_n hx hb dX13_size_104 rfl (lv_at hl 0 rfl) ?_
              rcases hN8 : gR (pI M a0 0 0) a0 3 with _ | b8
              · replace h := oc_n hN8 h
                refine r_get (T := TX13) (v := .null) hx hb hts in13 hown hK hP k0 (by decide) rfl 3 (by decide) (hts (.fieldLink RX13 431 "StoneWalkModel" "island" "LStoneWalkModel$Island;") (List.mem_of_getElem? (i := 3) (by decide +kernel))) rfl (t := 2) rfl (by show va_rf _ = _; rw [hN8]; rfl) dX13_size_105 ?_
                exact absurd h (by simp)
              · replace h := oc_s hN8 h
                have kb8 := hT.f k0 (k := 3) (t := 12) (n := 0) rfl hN8
                refine r_get (T := TX13) (v := .ref (ad b8)) hx hb hts in13 hown hK hP k0 (by decide) rfl 3 (by decide) (hts (.fieldLink RX13 431 "StoneWalkModel" "island" "LStoneWalkModel$Island;") (List.mem_of_getElem? (i := 3) (by decide +kernel))) rfl (t := 2) rfl (by show va_rf _ = _; rw [hN8]; rfl) dX13_size_105 ?_
                refine r_getN (T := TX12) (v := .int (gI (pI M a0 0 0) b8 2)) hx hb hts in12 hown hK hP kb8 (by decide) rfl 2 (by decide) (hG.2.2.1 _ (List.mem_of_getElem? (i := 7) rfl)) rfl (t := 0) rfl rfl dX13_size_108 ?_
                have hZ := Option.some.inj h
                exact r_iret hx hb hr hlocks hP hK hD hT hG hS (congrArg Prod.fst hZ) (congrArg Prod.snd hZ) dX13_size_111
            · replace h := ite_f c5_2 h
              by_cases c5_3 : x1 = 3
              · replace h := ite_t c5_3 h
                refine lv_tableIn (tgt := 112) (off := 74) hx hb dX13_size_38 (by rw [c5_3]; decide) (by rw [c5_3]; decide) (by rw [c5_3]; decide) rfl ?_
                refine lv_aload_n hx hb dX13_size_112 rfl (lv_at hl 0 rfl) ?_
                rcases hN9 : gR (pI M a0 0 0) a0 3 with _ | b9
                · replace h := oc_n hN9 h
                  refine r_get (T := TX13) (v := .null) hx hb hts in13 hown hK hP k0 (by decide) rfl 3 (by decide) (hts (.fieldLink RX13 431 "StoneWalkModel" "island" "LStoneWalkModel$Island;") (List.mem_of_getElem? (i := 3) (by decide +kernel))) rfl (t := 2) rfl (by show va_rf _ = _; rw [hN9]; rfl) dX13_size_113 ?_
                  exact absurd h (by simp)
                · replace h := oc_s hN9 h
                  have kb9 := hT.f k0 (k := 3) (t := 12) (n := 0) rfl hN9
                  refine r_get (T := TX13) (v := .ref (ad b9)) hx hb hts in13 hown hK hP k0 (by decide) rfl 3 (by decide) (hts (.fieldLink RX13 431 "StoneWalkModel" "island" "LStoneWalkModel$Island;") (List.mem_of_getElem? (i := 3) (by decide +kernel))) rfl (t := 2) rfl (by show va_rf _ = _; rw [hN9]; rfl) dX13_size_113 ?_
                  refine r_getN (T := TX12) (v := .int (gI (pI M a0 0 0) b9 4)) hx hb hts in12 hown hK hP kb9 (by decide) rfl 4 (by decide) (hG.2.2.1 _ (List.mem_of_getElem? (i := 22) rfl)) rfl (t := 0) rfl rfl dX13_size_116 ?_
                  have hZ := Option.some.inj h
                  exact r_iret hx hb hr hlocks hP hK hD hT hG hS (congrArg Prod.fst hZ) (congrArg Prod.snd hZ) dX13_size_119
              · replace h := ite_f c5_3 h
                by_cases c5_4 : x1 = 4
                · replace h := ite_t c5_4 h
                  refine lv_tableIn (tgt := 120) (off := 82) hx hb dX13_size_38 (by rw [c5_4]; decide) (by rw [c5_4]; decide) (by rw [c5_4]; decide) rfl ?_
                  refine lv_aload_n hx hb dX13_size_120 rfl (lv_at hl 0 rfl) ?_
                  rcases hN10 : gR (pI M a0 0 0) a0 3 with _ | b10
                  · replace h := oc_n hN10 h
                    refine r_get (T := TX13) (v := .null) hx hb hts in13 hown hK hP k0 (by decide) rfl 3 (by decide) (hts (.fieldLink RX13 431 "StoneWalkModel" "island" "LStoneWalkModel$Island;") (List.mem_of_getElem? (i := 3) (by decide +kernel))) rfl (t := 2) rfl (by show va_rf _ = _; rw [hN10]; rfl) dX13_size_121 ?_
                    exact absurd h (by simp)
                  · replace h := oc_s hN10 h
                    have kb10 := hT.f k0 (k := 3) (t := 12) (n := 0) rfl hN10
                    refine r_get (T := TX13) (v := .ref (ad b10)) hx hb hts in13 hown hK hP k0 (by decide) rfl 3 (by decide) (hts (.fieldLink RX13 431 "StoneWalkModel" "island" "LStoneWalkModel$Island;") (List.mem_of_getElem? (i := 3) (by decide +kernel))) rfl (t := 2) rfl (by show va_rf _ = _; rw [hN10]; rfl) dX13_size_121 ?_
                    refine r_getN (T := TX12) (v := .int (gI (pI M a0 0 0) b10 5)) hx hb hts in12 hown hK hP kb10 (by decide) rfl 5 (by decide) (hG.2.2.1 _ (List.mem_of_getElem? (i := 36) rfl)) rfl (t := 0) rfl rfl dX13_size_124 ?_
                    have hZ := Option.some.inj h
                    exact r_iret hx hb hr hlocks hP hK hD hT hG hS (congrArg Prod.fst hZ) (congrArg Prod.snd hZ) dX13_size_127
                · replace h := ite_f c5_4 h
                  by_cases c5_5 : x1 = 5
                  · replace h := ite_t c5_5 h
                    refine lv_tableIn (tgt := 128) (off := 90) hx hb dX13_size_38 (by rw [c5_5]; decide) (by rw [c5_5]; decide) (by rw [c5_5]; decide) rfl ?_
                    refine lv_aload_n hx hb dX13_size_128 rfl (lv_at hl 0 rfl) ?_
                    rcases hN11 : gR (pI M a0 0 0) a0 3 with _ | b11
                    · replace h := oc_n hN11 h
                      refine r_get (T := TX13) (v := .null) hx hb hts in13 hown hK hP k0 (by decide) rfl 3 (by decide) (hts (.fieldLink RX13 431 "StoneWalkModel" "island" "LStoneWalkModel$Island;") (List.mem_of_getElem? (i := 3) (by decide +kernel))) rfl (t := 2) rfl (by show va_rf _ = _; rw [hN11]; rfl) dX13_size_129 ?_
                      exact absurd h (by simp)
                    · replace h := oc_s hN11 h
                      have kb11 := hT.f k0 (k := 3) (t := 12) (n := 0) rfl hN11
                      refine r_get (T := TX13) (v := .ref (ad b11)) hx hb hts in13 hown hK hP k0 (by decide) rfl 3 (by decide) (hts (.fieldLink RX13 431 "StoneWalkModel" "island" "LStoneWalkModel$Island;") (List.mem_of_getElem? (i := 3) (by decide +kernel))) rfl (t := 2) rfl (by show va_rf _ = _; rw [hN11]; rfl) dX13_size_129 ?_
                      refine r_getN (T := TX12) (v := .int (gI (pI M a0 0 0) b11 6)) hx hb hts in12 hown hK hP kb11 (by decide) rfl 6 (by decide) (hG.2.2.1 _ (List.mem_of_getElem? (i := 41) rfl)) rfl (t := 0) rfl rfl dX13_size_132 ?_
                      have hZ := Option.some.inj h
                      exact r_iret hx hb hr hlocks hP hK hD hT hG hS (congrArg Prod.fst hZ) (congrArg Prod.snd hZ) dX13_size_135
                  · replace h := ite_f c5_5 h
                    by_cases c5_6 : x1 = 6
                    · replace h := ite_t c5_6 h
                      refine lv_tableIn (tgt := 136) (off := 98) hx hb dX13_size_38 (by rw [c5_6]; decide) (by rw [c5_6]; decide) (by rw [c5_6]; decide) rfl ?_
                      refine lv_aload_n hx hb dX13_size_136 rfl (lv_at hl 0 rfl) ?_
                      rcases hN12 : gR (pI M a0 0 0) a0 3 with _ | b12
                      · replace h := oc_n hN12 h
                        refine r_get (T := TX13) (v := .null) hx hb hts in13 hown hK hP k0 (by decide) rfl 3 (by decide) (hts (.fieldLink RX13 431 "StoneWalkModel" "island" "LStoneWalkModel$Island;") (List.mem_of_getElem? (i := 3) (by decide +kernel))) rfl (t := 2) rfl (by show va_rf _ = _; rw [hN12]; rfl) dX13_size_137 ?_
                        exact absurd h (by simp)
                      · replace h := oc_s hN12 h
                        have kb12 := hT.f k0 (k := 3) (t := 12) (n := 0) rfl hN12
                        refine r_get (T := TX13) (v := .ref (ad b12)) hx hb hts in13 hown hK hP k0 (by decide) rfl 3 (by decide) (hts (.fieldLink RX13 431 "StoneWalkModel" "island" "LStoneWalkModel$Island;") (List.mem_of_getElem? (i := 3) (by decide +kernel))) rfl (t := 2) rfl (by show va_rf _ = _; rw [hN12]; rfl) dX13_size_137 ?_
                        refine r_getN (T := TX12) (v := .int (gI (pI M a0 0 0) b12 7)) hx hb hts in12 hown hK hP kb12 (by decide) rfl 7 (by decide) (hG.2.2.1 _ (List.mem_of_getElem? (i := 44) rfl)) rfl (t := 0) rfl rfl dX13_size_140 ?_
                        have hZ := Option.some.inj h
                        exact r_iret hx hb hr hlocks hP hK hD hT hG hS (congrArg Prod.fst hZ) (congrArg Prod.snd hZ) dX13_size_143
                    · replace h := ite_f c5_6 h
                      by_cases c5_7 : x1 = 7
                      · replace h := ite_t c5_7 h
                        refine lv_tableIn (tgt := 144) (off := 106) hx hb dX13_size_38 (by rw [c5_7]; decide) (by rw [c5_7]; decide) (by rw [c5_7]; decide) rfl ?_
                        refine lv_aload_n hx hb dX13_size_144 rfl (lv_at hl 0 rfl) ?_
                        refine r_get (T := TX13) (v := .int (gI (pI M a0 0 0) a0 25)) hx hb hts in13 hown hK hP k0 (by decide) rfl 25 (by decide) (hts (.fieldLink RX13 434 "StoneWalkModel" "seen" "I") (List.mem_of_getElem? (i := 4) (by decide +kernel))) rfl (t := 0) rfl rfl dX13_size_145 ?_
                        have hZ := Option.some.inj h
                        exact r_iret hx hb hr hlocks hP hK hD hT hG hS (congrArg Prod.fst hZ) (congrArg Prod.snd hZ) dX13_size_148
                      · replace h := ite_f c5_7 h
                        by_cases c5_8 : x1 = 8
                        · replace h := ite_t c5_8 h
                          refine lv_tableIn (tgt := 149) (off := 111) hx hb dX13_size_38 (by rw [c5_8]; decide) (by rw [c5_8]; decide) (by rw [c5_8]; decide) rfl ?_
                          refine lv_aload_n hx hb dX13_size_149 rfl (lv_at hl 0 rfl) ?_
                          refine r_get (T := TX13) (v := .int (gI (pI M a0 0 0) a0 16)) hx hb hts in13 hown hK hP k0 (by decide) rfl 16 (by decide) (hts (.fieldLink RX13 437 "StoneWalkModel" "seed" "I") (List.mem_of_getElem? (i := 5) (by decide +kernel))) rfl (t := 0) rfl rfl dX13_size_150 ?_
                          have hZ := Option.some.inj h
                          exact r_iret hx hb hr hlocks hP hK hD hT hG hS (congrArg Prod.fst hZ) (congrArg Prod.snd hZ) dX13_size_153
                        · replace h := ite_f c5_8 h
                          refine lv_tableOut (tgt := 154) hx hb dX13_size_38 (by
                              have e0 := lv_neT (a := 0) c5_0 rfl
                              have e1 := lv_neT (a := 1) c5_1 rfl
                              have e2 := lv_neT (a := 2) c5_2 rfl
                              have e3 := lv_neT (a := 3) c5_3 rfl
                              have e4 := lv_neT (a := 4) c5_4 rfl
                              have e5 := lv_neT (a := 5) c5_5 rfl
                              have e6 := lv_neT (a := 6) c5_6 rfl
                              have e7 := lv_neT (a := 7) c5_7 rfl
                              have e8 := lv_neT (a := 8) c5_8 rfl
                              omega) rfl ?_
                          refine lv_aload_n hx hb dX13_size_154 rfl (lv_at hl 0 rfl) ?_
                          rcases hN13 : gR (pI M a0 0 0) a0 3 with _ | b13
                          · replace h := oc_n hN13 h
                            refine r_get (T := TX13) (v := .null) hx hb hts in13 hown hK hP k0 (by decide) rfl 3 (by decide) (hts (.fieldLink RX13 431 "StoneWalkModel" "island" "LStoneWalkModel$Island;") (List.mem_of_getElem? (i := 3) (by decide +kernel))) rfl (t := 2) rfl (by show va_rf _ = _; rw [hN13]; rfl) dX13_size_155 ?_
                            exact absurd h (by simp)
                          · replace h := oc_s hN13 h
                            have kb13 := hT.f k0 (k := 3) (t := 12) (n := 0) rfl hN13
                            refine r_get (T := TX13) (v := .ref (ad b13)) hx hb hts in13 hown hK hP k0 (by decide) rfl 3 (by decide) (hts (.fieldLink RX13 431 "StoneWalkModel" "island" "LStoneWalkModel$Island;") (List.mem_of_getElem? (i := 3) (by decide +kernel))) rfl (t := 2) rfl (by show va_rf _ = _; rw [hN13]; rfl) dX13_size_155 ?_
                            refine r_getN (T := TX12) (v := .int (gI (pI M a0 0 0) b13 3)) hx hb hts in12 hown hK hP kb13 (by decide) rfl 3 (by decide) (hG.2.2.1 _ (List.mem_of_getElem? (i := 14) rfl)) rfl (t := 0) rfl rfl dX13_size_158 ?_
                            have hZ := Option.some.inj h
                            exact r_iret hx hb hr hlocks hP hK hD hT hG hS (congrArg Prod.fst hZ) (congrArg Prod.snd hZ) dX13_size_161
    · replace h := ite_t c3 h
      refine lv_iconst (v := (-1)) hx hb dX13_size_26 rfl ?_
      have hZ := Option.some.inj h
      exact r_iret hx hb hr hlocks hP hK hD hT hG hS (congrArg Prod.fst hZ) (congrArg Prod.snd hZ) dX13_size_27
  · replace h := ite_t c1 h
    refine lv_aload_n hx hb dX13_size_11 rfl (lv_at hl 0 rfl) ?_
    refine r_get (T := TX13) (v := .int (gI (pI M a0 0 0) a0 6)) hx hb hts in13 hown hK hP k0 (by decide) rfl 6 (by decide) (hts (.fieldLink RX13 424 "StoneWalkModel" "taped" "I") (List.mem_of_getElem? (i := 2) (by decide +kernel))) rfl (t := 0) rfl rfl dX13_size_12 ?_
    have hZ := Option.some.inj h
    exact r_iret hx hb hr hlocks hP hK hD hT hG hS (congrArg Prod.fst hZ) (congrArg Prod.snd hZ) dX13_size_15
set_option maxHeartbeats 4000000 in
set_option maxRecDepth 100000 in
theorem c_X13_statue {l : Launch} {D : va_G} {ad : Nat → Nat} {cy : Nat → ClassId} {A : Nat → Prop} {g : CG} {q : SE} (M : MM) (a0 : Nat) (x1 : Int32) (x2 : Int32) (k0 : ok g a0 13 0) {Z : (Int32 × MM)} (h : f_X13_statue M a0 x1 x2 = some Z) : Met l yX13_statue wsX13_statue ({ frames := 1, cells := 0, slots := 0, locals := 22 }) (va_Pc [.ref (ad a0), .int x1, .int x2] (Wd D ad cy A g q M)) (va_Qi (fun r u => r = Z.1 ∧ u = Z.2) (Wd D ad cy A g q) A) 0 0 A := by
  refine Met.ofW (cc := cX13_statue) (maxL := 3) (ret := (some .int)) (by decide) rfl ?_
  intro p e s m args below meth c s₁ B hml hv
  obtain ⟨rfl, hP, hK, hD, hT, hG⟩ := hv
  have hx := B.exec
  have hb := B.bytes
  have hr := B.returns
  have hts := atoms_spec (ws := wsX13_statue) B.pre
  have hown : s.vm.findClass RX13 = some m.cls := findClass_of_methodNamed B.named
  have hlocks := B.notSynchronized
  have in12 : ∀ w ∈ u_ws RX12 TX12 48, w ∈ wsX13_statue := fun w h => List.mem_cons_of_mem _ (List.mem_append_right _ h)
  have in13 : ∀ w ∈ u_ws RX13 TX13 29, w ∈ wsX13_statue := fun w h => List.mem_cons_of_mem _ (List.mem_append_left _ (List.mem_append_right _ h))
  have hS : va_S A s.heap s.heap [] := va_S.rf
  have hl := lv_entry ([.ref (ad a0), .int x1, .int x2]) (n := 3) (Nat.le_of_ble_eq_true rfl)
  rw [lg_entry_eq]
  generalize (lg_sl ([.ref (ad a0), .int x1, .int x2]) ++ List.replicate (3 - (lg_sl ([.ref (ad a0), .int x1, .int x2])).length) Slot.unset).toArray = ls at hl ⊢
  have hl : lv_has ls 3 [(0, .ref (ad a0)), (1, .int x1), (2, .int x2)] := hl
  unfold f_X13_statue at h
  refine lv_aload_n hx hb dX13_statue_0 rfl (lv_at hl 0 rfl) ?_
  refine lv_iconst (v := 0) hx hb dX13_statue_1 rfl ?_
  refine r_putI (T := TX13) (ty := .int) (v := 0) hx hb hts in13 tyX13 tyX13_ok nmX13 hown hK hP hD hT hS k0 (by decide) rfl 0 (by decide) (hts (.fieldLink RX13 30 "StoneWalkModel" "thrown" "I") (List.mem_of_getElem? (i := 1) (by decide +kernel))) rfl rfl (tyX13_ok 0 (by decide)) rfl rfl rfl dX13_statue_2 (fun H locs hP hD hT hS => ?_)
  refine lv_aload_n hx hb dX13_statue_5 rfl (lv_at hl 0 rfl) ?_
  refine lv_iload_n hx hb dX13_statue_6 rfl (lv_at hl 1 rfl) ?_
  obtain ⟨z1, h1, h⟩ := ob_some h
  refine k_z (va_runV (As := [.int x1]) (rest := []) ⟨hx, hb, hml, hown, hts⟩ (c_X13_isStatue (l := l) (pI M a0 0 0) a0 x1 k0 h1) (cwV 1 hts gX13_statue_X13_isStatue rfl rfl rfl hdV_X13_isStatue ⟨Nat.le_of_ble_eq_true rfl, Nat.le_of_ble_eq_true rfl⟩) (pV (T := TX13) hP hK hD hT hG hS k0 (by decide) rfl) rfl rfl hl.1 rfl (lv_room (Nat.le_of_ble_eq_true rfl)) dX13_statue_7 ⟨Nat.zero_le _, Nat.zero_le _⟩) hS (fun H locs hz1 hP hD hT hS => ?_)
  refine lv_if_eq (tgt := 23) hx hb dX13_statue_10 rfl (fun c2 => ?_) (fun c2 => ?_)
  · replace h := ite_t c2 h
    refine lv_iconst (v := (-1)) hx hb dX13_statue_23 rfl ?_
    have hZ := Option.some.inj h
    exact r_iret hx hb hr hlocks hP hK hD hT hG hS (congrArg Prod.fst hZ) (congrArg Prod.snd hZ) dX13_statue_24
  · replace h := ite_f c2 h
    refine lv_iload_n hx hb dX13_statue_13 rfl (lv_at hl 2 rfl) ?_
    refine lv_iconst (v := 0) hx hb dX13_statue_14 rfl ?_
    refine lv_bipush (v := 6) hx hb dX13_statue_15 rfl ?_
    obtain ⟨z3, h3, h⟩ := ob_some h
    refine k_z (va_runS (As := [.int x2, .int 0, .int 6]) (rest := []) ⟨hx, hb, hml, hown, hts⟩ (c_X13_in (l := l) (pI M a0 0 0) x2 0 6 h3) (va_cwS 3 hts gX13_statue_X13_in rfl rfl rfl hdS_X13_in ⟨Nat.le_of_ble_eq_true rfl, Nat.le_of_ble_eq_true rfl⟩) (pS hP hK hD hT hG hS) rfl rfl hl.1 rfl (lv_room (Nat.le_of_ble_eq_true rfl)) dX13_statue_17 ⟨Nat.zero_le _, Nat.zero_le _⟩) hS (fun H locs hz3 hP hD hT hS => ?_)
    refine lv_if_ne (tgt := 25) hx hb dX13_statue_20 rfl (fun c4 => ?_) (fun c4 => ?_)
    · replace h := ite_f c4 h
      refine lv_iload_n hx hb dX13_statue_25 rfl (lv_at hl 2 rfl) ?_
      by_cases c5_0 : x2 = 0
      · replace h := ite_t c5_0 h
        refine lv_tableIn (tgt := 64) (off := 38) hx hb dX13_statue_26 (by rw [c5_0]; decide) (by rw [c5_0]; decide) (by rw [c5_0]; decide) rfl ?_
        refine lv_aload_n hx hb dX13_statue_64 rfl (lv_at hl 0 rfl) ?_
        rcases hN6 : gR (pI M a0 0 0) a0 3 with _ | b6
        · replace h := oc_n hN6 h
          refine r_get (T := TX13) (v := .null) hx hb hts in13 hown hK hP k0 (by decide) rfl 3 (by decide) (hts (.fieldLink RX13 431 "StoneWalkModel" "island" "LStoneWalkModel$Island;") (List.mem_of_getElem? (i := 2) (by decide +kernel))) rfl (t := 2) rfl (by show va_rf _ = _; rw [hN6]; rfl) dX13_statue_65 ?_
          exact absurd h (by simp)
        · replace h := oc_s hN6 h
          have kb6 := hT.f k0 (k := 3) (t := 12) (n := 0) rfl hN6
          refine r_get (T := TX13) (v := .ref (ad b6)) hx hb hts in13 hown hK hP k0 (by decide) rfl 3 (by decide) (hts (.fieldLink RX13 431 "StoneWalkModel" "island" "LStoneWalkModel$Island;") (List.mem_of_getElem? (i := 2) (by decide +kernel))) rfl (t := 2) rfl (by show va_rf _ = _; rw [hN6]; rfl) dX13_statue_65 ?_
          rcases hN7 : gR (pI M a0 0 0) b6 15 with _ | b7
          · exact absurd (oc_n hN7 h) (by simp)
          replace h := oc_s hN7 h
          have kb7 := hT.f kb6 (k := 15) (t := 15) (n := 10) rfl hN7
          refine r_getN (T := TX12) (v := .ref (ad b7)) hx hb hts in12 hown hK hP kb6 (by decide) rfl 15 (by decide) (hG.2.2.1 _ (List.mem_of_getElem? (i := 15) rfl)) rfl (t := 2) rfl (by show va_rf _ = _; rw [hN7]; rfl) dX13_statue_68 ?_
          refine lv_iload_n hx hb dX13_statue_71 rfl (lv_at hl 1 rfl) ?_
          obtain ⟨hn8, h⟩ := chk_some h
          refine r_iald hx hb hK hP kb7 hn8 dX13_statue_72 ?_
          have hZ := Option.some.inj h
          exact r_iret hx hb hr hlocks hP hK hD hT hG hS (congrArg Prod.fst hZ) (congrArg Prod.snd hZ) dX13_statue_73
      · replace h := ite_f c5_0 h
        by_cases c5_1 : x2 = 1
        · replace h := ite_t c5_1 h
          refine lv_tableIn (tgt := 74) (off := 48) hx hb dX13_statue_26 (by rw [c5_1]; decide) (by rw [c5_1]; decide) (by rw [c5_1]; decide) rfl ?_
          refine lv_aload_n hx hb dX13_statue_74 rfl (lv_at hl 0 rfl) ?_
          rcases hN9 : gR (pI M a0 0 0) a0 3 with _ | b9
          · replace h := oc_n hN9 h
            refine r_get (T := TX13) (v := .null) hx hb hts in13 hown hK hP k0 (by decide) rfl 3 (by decide) (hts (.fieldLink RX13 431 "StoneWalkModel" "island" "LStoneWalkModel$Island;") (List.mem_of_getElem? (i := 2) (by decide +kernel))) rfl (t := 2) rfl (by show va_rf _ = _; rw [hN9]; rfl) dX13_statue_75 ?_
            exact absurd h (by simp)
          · replace h := oc_s hN9 h
            have kb9 := hT.f k0 (k := 3) (t := 12) (n := 0) rfl hN9
            refine r_get (T := TX13) (v := .ref (ad b9)) hx hb hts in13 hown hK hP k0 (by decide) rfl 3 (by decide) (hts (.fieldLink RX13 431 "StoneWalkModel" "island" "LStoneWalkModel$Island;") (List.mem_of_getElem? (i := 2) (by decide +kernel))) rfl (t := 2) rfl (by show va_rf _ = _; rw [hN9]; rfl) dX13_statue_75 ?_
            rcases hN10 : gR (pI M a0 0 0) b9 16 with _ | b10
            · exact absurd (oc_n hN10 h) (by simp)
            replace h := oc_s hN10 h
            have kb10 := hT.f kb9 (k := 16) (t := 15) (n := 10) rfl hN10
            refine r_getN (T := TX12) (v := .ref (ad b10)) hx hb hts in12 hown hK hP kb9 (by decide) rfl 16 (by decide) (hG.2.2.1 _ (List.mem_of_getElem? (i := 16) rfl)) rfl (t := 2) rfl (by show va_rf _ = _; rw [hN10]; rfl) dX13_statue_78 ?_
            refine lv_iload_n hx hb dX13_statue_81 rfl (lv_at hl 1 rfl) ?_
            obtain ⟨hn11, h⟩ := chk_some h
            refine r_iald hx hb hK hP kb10 hn11 dX13_statue_82 ?_
            have hZ := Option.some.inj h
            exact r_iret hx hb hr hlocks hP hK hD hT hG hS (congrArg Prod.fst hZ) (congrArg Prod.snd hZ) dX13_statue_83
        · replace h := ite_f c5_1 h
          by_cases c5_2 : x2 = 2
          · replace h := ite_t c5_2 h
            refine lv_tableIn (tgt := 84) (off := 58) hx hb dX13_statue_26 (by rw [c5_2]; decide) (by rw [c5_2]; decide) (by rw [c5_2]; decide) rfl ?_
            refine lv_aload_n hx hb dX13_statue_84 rfl (lv_at hl 0 rfl) ?_
            rcases hN12 : gR (pI M a0 0 0) a0 3 with _ | b12
            · replace h := oc_n hN12 h
              refine r_get (T := TX13) (v := .null) hx hb hts in13 hown hK hP k0 (by decide) rfl 3 (by decide) (hts (.fieldLink RX13 431 "StoneWalkModel" "island" "LStoneWalkModel$Island;") (List.mem_of_getElem? (i := 2) (by decide +kernel))) rfl (t := 2) rfl (by show va_rf _ = _; rw [hN12]; rfl) dX13_statue_85 ?_
              exact absurd h (by simp)
            · replace h := oc_s hN12 h
              have kb12 := hT.f k0 (k := 3) (t := 12) (n := 0) rfl hN12
              refine r_get (T := TX13) (v := .ref (ad b12)) hx hb hts in13 hown hK hP k0 (by decide) rfl 3 (by decide) (hts (.fieldLink RX13 431 "StoneWalkModel" "island" "LStoneWalkModel$Island;") (List.mem_of_getElem? (i := 2) (by decide +kernel))) rfl (t := 2) rfl (by show va_rf _ = _; rw [hN12]; rfl) dX13_statue_85 ?_
              rcases hN13 : gR (pI M a0 0 0) b12 17 with _ | b13
              · exact absurd (oc_n hN13 h) (by simp)
              replace h := oc_s hN13 h
              have kb13 := hT.f kb12 (k := 17) (t := 15) (n := 10) rfl hN13
              refine r_getN (T := TX12) (v := .ref (ad b13)) hx hb hts in12 hown hK hP kb12 (by decide) rfl 17 (by decide) (hG.2.2.1 _ (List.mem_of_getElem? (i := 17) rfl)) rfl (t := 2) rfl (by show va_rf _ = _; rw [hN13]; rfl) dX13_statue_88 ?_
              refine lv_iload_n hx hb dX13_statue_91 rfl (lv_at hl 1 rfl) ?_
              obtain ⟨hn14, h⟩ := chk_some h
              refine r_iald hx hb hK hP kb13 hn14 dX13_statue_92 ?_
              have hZ := Option.some.inj h
              exact r_iret hx hb hr hlocks hP hK hD hT hG hS (congrArg Prod.fst hZ) (congrArg Prod.snd hZ) dX13_statue_93
          · replace h := ite_f c5_2 h
            by_cases c5_3 : x2 = 3
            · replace h := ite_t c5_3 h
              refine lv_tableIn (tgt := 94) (off := 68) hx hb dX13_statue_26 (by rw [c5_3]; decide) (by rw [c5_3]; decide) (by rw [c5_3]; decide) rfl ?_
              refine lv_aload_n hx hb dX13_statue_94 rfl (lv_at hl 0 rfl) ?_
              rcases hN15 : gR (pI M a0 0 0) a0 3 with _ | b15
              · replace h := oc_n hN15 h
                refine r_get (T := TX13) (v := .null) hx hb hts in13 hown hK hP k0 (by decide) rfl 3 (by decide) (hts (.fieldLink RX13 431 "StoneWalkModel" "island" "LStoneWalkModel$Island;") (List.mem_of_getElem? (i := 2) (by decide +kernel))) rfl (t := 2) rfl (by show va_rf _ = _; rw [hN15]; rfl) dX13_statue_95 ?_
                exact absurd h (by simp)
              · replace h := oc_s hN15 h
                have kb15 := hT.f k0 (k := 3) (t := 12) (n := 0) rfl hN15
                refine r_get (T := TX13) (v := .ref (ad b15)) hx hb hts in13 hown hK hP k0 (by decide) rfl 3 (by decide) (hts (.fieldLink RX13 431 "StoneWalkModel" "island" "LStoneWalkModel$Island;") (List.mem_of_getElem? (i := 2) (by decide +kernel))) rfl (t := 2) rfl (by show va_rf _ = _; rw [hN15]; rfl) dX13_statue_95 ?_
                rcases hN16 : gR (pI M a0 0 0) b15 18 with _ | b16
                · exact absurd (oc_n hN16 h) (by simp)
                replace h := oc_s hN16 h
                have kb16 := hT.f kb15 (k := 18) (t := 15) (n := 10) rfl hN16
                refine r_getN (T := TX12) (v := .ref (ad b16)) hx hb hts in12 hown hK hP kb15 (by decide) rfl 18 (by decide) (hG.2.2.1 _ (List.mem_of_getElem? (i := 18) rfl)) rfl (t := 2) rfl (by show va_rf _ = _; rw [hN16]; rfl) dX13_statue_98 ?_
                refine lv_iload_n hx hb dX13_statue_101 rfl (lv_at hl 1 rfl) ?_
                obtain ⟨hn17, h⟩ := chk_some h
                refine r_iald hx hb hK hP kb16 hn17 dX13_statue_102 ?_
                have hZ := Option.some.inj h
                exact r_iret hx hb hr hlocks hP hK hD hT hG hS (congrArg Prod.fst hZ) (congrArg Prod.snd hZ) dX13_statue_103
            · replace h := ite_f c5_3 h
              by_cases c5_4 : x2 = 4
              · replace h := ite_t c5_4 h
                refine lv_tableIn (tgt := 104) (off := 78) hx hb dX13_statue_26 (by rw [c5_4]; decide) (by rw [c5_4]; decide) (by rw [c5_4]; decide) rfl ?_
                refine lv_aload_n hx hb dX13_statue_104 rfl (lv_at hl 0 rfl) ?_
                rcases hN18 : gR (pI M a0 0 0) a0 3 with _ | b18
                · replace h := oc_n hN18 h
                  refine r_get (T := TX13) (v := .null) hx hb hts in13 hown hK hP k0 (by decide) rfl 3 (by decide) (hts (.fieldLink RX13 431 "StoneWalkModel" "island" "LStoneWalkModel$Island;") (List.mem_of_getElem? (i := 2) (by decide +kernel))) rfl (t := 2) rfl (by show va_rf _ = _; rw [hN18]; rfl) dX13_statue_105 ?_
                  exact absurd h (by simp)
                · replace h := oc_s hN18 h
                  have kb18 := hT.f k0 (k := 3) (t := 12) (n := 0) rfl hN18
                  refine r_get (T := TX13) (v := .ref (ad b18)) hx hb hts in13 hown hK hP k0 (by decide) rfl 3 (by decide) (hts (.fieldLink RX13 431 "StoneWalkModel" "island" "LStoneWalkModel$Island;") (List.mem_of_getElem? (i := 2) (by decide +kernel))) rfl (t := 2) rfl (by show va_rf _ = _; rw [hN18]; rfl) dX13_statue_105 ?_
                  rcases hN19 : gR (pI M a0 0 0) b18 19 with _ | b19
                  · exact absurd (oc_n hN19 h) (by simp)
                  replace h := oc_s hN19 h
                  have kb19 := hT.f kb18 (k := 19) (t := 15) (n := 10) rfl hN19
                  refine r_getN (T := TX12) (v := .ref (ad b19)) hx hb hts in12 hown hK hP kb18 (by decide) rfl 19 (by decide) (hG.2.2.1 _ (List.mem_of_getElem? (i := 19) rfl)) rfl (t := 2) rfl (by show va_rf _ = _; rw [hN19]; rfl) dX13_statue_108 ?_
                  refine lv_iload_n hx hb dX13_statue_111 rfl (lv_at hl 1 rfl) ?_
                  obtain ⟨hn20, h⟩ := chk_some h
                  refine r_iald hx hb hK hP kb19 hn20 dX13_statue_112 ?_
                  have hZ := Option.some.inj h
                  exact r_iret hx hb hr hlocks hP hK hD hT hG hS (congrArg Prod.fst hZ) (congrArg Prod.snd hZ) dX13_statue_113
              · replace h := ite_f c5_4 h
                by_cases c5_5 : x2 = 5
                · replace h := ite_t c5_5 h
                  refine lv_tableIn (tgt := 114) (off := 88) hx hb dX13_statue_26 (by rw [c5_5]; decide) (by rw [c5_5]; decide) (by rw [c5_5]; decide) rfl ?_
                  refine lv_aload_n hx hb dX13_statue_114 rfl (lv_at hl 0 rfl) ?_
                  rcases hN21 : gR (pI M a0 0 0) a0 3 with _ | b21
                  · replace h := oc_n hN21 h
                    refine r_get (T := TX13) (v := .null) hx hb hts in13 hown hK hP k0 (by decide) rfl 3 (by decide) (hts (.fieldLink RX13 431 "StoneWalkModel" "island" "LStoneWalkModel$Island;") (List.mem_of_getElem? (i := 2) (by decide +kernel))) rfl (t := 2) rfl (by show va_rf _ = _; rw [hN21]; rfl) dX13_statue_115 ?_
                    exact absurd h (by simp)
                  · replace h := oc_s hN21 h
                    have kb21 := hT.f k0 (k := 3) (t := 12) (n := 0) rfl hN21
                    refine r_get (T := TX13) (v := .ref (ad b21)) hx hb hts in13 hown hK hP k0 (by decide) rfl 3 (by decide) (hts (.fieldLink RX13 431 "StoneWalkModel" "island" "LStoneWalkModel$Island;") (List.mem_of_getElem? (i := 2) (by decide +kernel))) rfl (t := 2) rfl (by show va_rf _ = _; rw [hN21]; rfl) dX13_statue_115 ?_
                    rcases hN22 : gR (pI M a0 0 0) b21 20 with _ | b22
                    · exact absurd (oc_n hN22 h) (by simp)
                    replace h := oc_s hN22 h
                    have kb22 := hT.f kb21 (k := 20) (t := 15) (n := 10) rfl hN22
                    refine r_getN (T := TX12) (v := .ref (ad b22)) hx hb hts in12 hown hK hP kb21 (by decide) rfl 20 (by decide) (hG.2.2.1 _ (List.mem_of_getElem? (i := 20) rfl)) rfl (t := 2) rfl (by show va_rf _ = _; rw [hN22]; rfl) dX13_statue_118 ?_
                    refine lv_iload_n hx hb dX13_statue_121 rfl (lv_at hl 1 rfl) ?_
                    obtain ⟨hn23, h⟩ := chk_some h
                    refine r_iald hx hb hK hP kb22 hn23 dX13_statue_122 ?_
                    have hZ := Option.some.inj h
                    exact r_iret hx hb hr hlocks hP hK hD hT hG hS (congrArg Prod.fst hZ) (congrArg Prod.snd hZ) dX13_statue_123
                · replace h := ite_f c5_5 h
                  refine lv_tableOut (tgt := 124) hx hb dX13_statue_26 (by
                      have e0 := lv_neT (a := 0) c5_0 rfl
                      have e1 := lv_neT (a := 1) c5_1 rfl
                      have e2 := lv_neT (a := 2) c5_2 rfl
                      have e3 := lv_neT (a := 3) c5_3 rfl
                      have e4 := lv_neT (a := 4) c5_4 rfl
                      have e5 := lv_neT (a := 5) c5_5 rfl
                      omega) rfl ?_
                  refine lv_aload_n hx hb dX13_statue_124 rfl (lv_at hl 0 rfl) ?_
                  rcases hN24 : gR (pI M a0 0 0) a0 3 with _ | b24
                  · replace h := oc_n hN24 h
                    refine r_get (T := TX13) (v := .null) hx hb hts in13 hown hK hP k0 (by decide) rfl 3 (by decide) (hts (.fieldLink RX13 431 "StoneWalkModel" "island" "LStoneWalkModel$Island;") (List.mem_of_getElem? (i := 2) (by decide +kernel))) rfl (t := 2) rfl (by show va_rf _ = _; rw [hN24]; rfl) dX13_statue_125 ?_
                    exact absurd h (by simp)
                  · replace h := oc_s hN24 h
                    have kb24 := hT.f k0 (k := 3) (t := 12) (n := 0) rfl hN24
                    refine r_get (T := TX13) (v := .ref (ad b24)) hx hb hts in13 hown hK hP k0 (by decide) rfl 3 (by decide) (hts (.fieldLink RX13 431 "StoneWalkModel" "island" "LStoneWalkModel$Island;") (List.mem_of_getElem? (i := 2) (by decide +kernel))) rfl (t := 2) rfl (by show va_rf _ = _; rw [hN24]; rfl) dX13_statue_125 ?_
                    rcases hN25 : gR (pI M a0 0 0) b24 21 with _ | b25
                    · exact absurd (oc_n hN25 h) (by simp)
                    replace h := oc_s hN25 h
                    have kb25 := hT.f kb24 (k := 21) (t := 15) (n := 10) rfl hN25
                    refine r_getN (T := TX12) (v := .ref (ad b25)) hx hb hts in12 hown hK hP kb24 (by decide) rfl 21 (by decide) (hG.2.2.1 _ (List.mem_of_getElem? (i := 21) rfl)) rfl (t := 2) rfl (by show va_rf _ = _; rw [hN25]; rfl) dX13_statue_128 ?_
                    refine lv_iload_n hx hb dX13_statue_131 rfl (lv_at hl 1 rfl) ?_
                    obtain ⟨hn26, h⟩ := chk_some h
                    refine r_iald hx hb hK hP kb25 hn26 dX13_statue_132 ?_
                    have hZ := Option.some.inj h
                    exact r_iret hx hb hr hlocks hP hK hD hT hG hS (congrArg Prod.fst hZ) (congrArg Prod.snd hZ) dX13_statue_133
    · replace h := ite_t c4 h
      refine lv_iconst (v := (-1)) hx hb dX13_statue_23 rfl ?_
      have hZ := Option.some.inj h
      exact r_iret hx hb hr hlocks hP hK hD hT hG hS (congrArg Prod.fst hZ) (congrArg Prod.snd hZ) dX13_statue_24
set_option maxHeartbeats 4000000 in
set_option maxRecDepth 100000 in
theorem c_X13_trouble {l : Launch} {D : va_G} {ad : Nat → Nat} {cy : Nat → ClassId} {A : Nat → Prop} {g : CG} {q : SE} (M : MM) (a0 : Nat) (k0 : ok g a0 13 0) {Z : (Int32 × MM)} (h : f_X13_trouble M a0 = some Z) : Met l yX13_trouble wsX13_trouble ({ frames := 0, cells := 0, slots := 0, locals := 0 }) (va_Pc [.ref (ad a0)] (Wd D ad cy A g q M)) (va_Qi (fun r u => r = Z.1 ∧ u = Z.2) (Wd D ad cy A g q) A) 0 0 A := by
  refine Met.ofW (cc := cX13_trouble) (maxL := 1) (ret := (some .int)) (by decide) rfl ?_
  intro p e s m args below meth c s₁ B hml hv
  obtain ⟨rfl, hP, hK, hD, hT, hG⟩ := hv
  have hx := B.exec
  have hb := B.bytes
  have hr := B.returns
  have hts := atoms_spec (ws := wsX13_trouble) B.pre
  have hown : s.vm.findClass RX13 = some m.cls := findClass_of_methodNamed B.named
  have hlocks := B.notSynchronized
  have in13 : ∀ w ∈ u_ws RX13 TX13 29, w ∈ wsX13_trouble := fun w h => List.mem_cons_of_mem _ (List.mem_append_right _ h)
  have hS : va_S A s.heap s.heap [] := va_S.rf
  have hl := lv_entry ([.ref (ad a0)]) (n := 1) (Nat.le_of_ble_eq_true rfl)
  rw [lg_entry_eq]
  generalize (lg_sl ([.ref (ad a0)]) ++ List.replicate (1 - (lg_sl ([.ref (ad a0)])).length) Slot.unset).toArray = ls at hl ⊢
  have hl : lv_has ls 1 [(0, .ref (ad a0))] := hl
  unfold f_X13_trouble at h
  refine lv_aload_n hx hb dX13_trouble_0 rfl (lv_at hl 0 rfl) ?_
  refine lv_iconst (v := 0) hx hb dX13_trouble_1 rfl ?_
  refine r_putI (T := TX13) (ty := .int) (v := 0) hx hb hts in13 tyX13 tyX13_ok nmX13 hown hK hP hD hT hS k0 (by decide) rfl 0 (by decide) (hts (.fieldLink RX13 30 "StoneWalkModel" "thrown" "I") (List.mem_of_getElem? (i := 1) (by decide +kernel))) rfl rfl (tyX13_ok 0 (by decide)) rfl rfl rfl dX13_trouble_2 (fun H locs hP hD hT hS => ?_)
  refine lv_aload_n hx hb dX13_trouble_5 rfl (lv_at hl 0 rfl) ?_
  refine r_get (T := TX13) (v := .int (gI (pI M a0 0 0) a0 1)) hx hb hts in13 hown hK hP k0 (by decide) rfl 1 (by decide) (hts (.fieldLink RX13 33 "StoneWalkModel" "trouble" "I") (List.mem_of_getElem? (i := 2) (by decide +kernel))) rfl (t := 0) rfl rfl dX13_trouble_6 ?_
  have hZ := Option.some.inj h
  exact r_iret hx hb hr hlocks hP hK hD hT hG hS (congrArg Prod.fst hZ) (congrArg Prod.snd hZ) dX13_trouble_9
