theorem hdV_X1_clear : yX1_clear.cls = RX1 ∧ yX1_clear.cls ≠ "java/lang/invoke/MethodHandle" ∧ yX1_clear.cls ≠ "java/lang/invoke/VarHandle" ∧ (parseMethodDescriptor yX1_clear.desc).map (fun d => d.parameters.length) = some 0 := by decide +kernel
theorem hdV_X1_begin : yX1_begin.cls = RX1 ∧ yX1_begin.cls ≠ "java/lang/invoke/MethodHandle" ∧ yX1_begin.cls ≠ "java/lang/invoke/VarHandle" ∧ (parseMethodDescriptor yX1_begin.desc).map (fun d => d.parameters.length) = some 4 := by decide +kernel
theorem hdV_X1_draw : yX1_draw.cls = RX1 ∧ yX1_draw.cls ≠ "java/lang/invoke/MethodHandle" ∧ yX1_draw.cls ≠ "java/lang/invoke/VarHandle" ∧ (parseMethodDescriptor yX1_draw.desc).map (fun d => d.parameters.length) = some 0 := by decide +kernel
theorem hdV_X1_falls : yX1_falls.cls = RX1 ∧ yX1_falls.cls ≠ "java/lang/invoke/MethodHandle" ∧ yX1_falls.cls ≠ "java/lang/invoke/VarHandle" ∧ (parseMethodDescriptor yX1_falls.desc).map (fun d => d.parameters.length) = some 1 := by decide +kernel
theorem hdV_X1_laid : yX1_laid.cls = RX1 ∧ yX1_laid.cls ≠ "java/lang/invoke/MethodHandle" ∧ yX1_laid.cls ≠ "java/lang/invoke/VarHandle" ∧ (parseMethodDescriptor yX1_laid.desc).map (fun d => d.parameters.length) = some 2 := by decide +kernel
theorem hdV_X1_advance : yX1_advance.cls = RX1 ∧ yX1_advance.cls ≠ "java/lang/invoke/MethodHandle" ∧ yX1_advance.cls ≠ "java/lang/invoke/VarHandle" ∧ (parseMethodDescriptor yX1_advance.desc).map (fun d => d.parameters.length) = some 1 := by decide +kernel
theorem hdV_X1_arrives : yX1_arrives.cls = RX1 ∧ yX1_arrives.cls ≠ "java/lang/invoke/MethodHandle" ∧ yX1_arrives.cls ≠ "java/lang/invoke/VarHandle" ∧ (parseMethodDescriptor yX1_arrives.desc).map (fun d => d.parameters.length) = some 1 := by decide +kernel
theorem hdV_X1_report : yX1_report.cls = RX1 ∧ yX1_report.cls ≠ "java/lang/invoke/MethodHandle" ∧ yX1_report.cls ≠ "java/lang/invoke/VarHandle" ∧ (parseMethodDescriptor yX1_report.desc).map (fun d => d.parameters.length) = some 1 := by decide +kernel
theorem hdV_X1_toImage : yX1_toImage.cls = RX1 ∧ yX1_toImage.cls ≠ "java/lang/invoke/MethodHandle" ∧ yX1_toImage.cls ≠ "java/lang/invoke/VarHandle" ∧ (parseMethodDescriptor yX1_toImage.desc).map (fun d => d.parameters.length) = some 0 := by decide +kernel
theorem hdV_X1_isOf : yX1_isOf.cls = RX1 ∧ yX1_isOf.cls ≠ "java/lang/invoke/MethodHandle" ∧ yX1_isOf.cls ≠ "java/lang/invoke/VarHandle" ∧ (parseMethodDescriptor yX1_isOf.desc).map (fun d => d.parameters.length) = some 1 := by decide +kernel
theorem hdV_X1_woodSoFar : yX1_woodSoFar.cls = RX1 ∧ yX1_woodSoFar.cls ≠ "java/lang/invoke/MethodHandle" ∧ yX1_woodSoFar.cls ≠ "java/lang/invoke/VarHandle" ∧ (parseMethodDescriptor yX1_woodSoFar.desc).map (fun d => d.parameters.length) = some 1 := by decide +kernel
theorem hdV_X1_fromImage : yX1_fromImage.cls = RX1 ∧ yX1_fromImage.cls ≠ "java/lang/invoke/MethodHandle" ∧ yX1_fromImage.cls ≠ "java/lang/invoke/VarHandle" ∧ (parseMethodDescriptor yX1_fromImage.desc).map (fun d => d.parameters.length) = some 2 := by decide +kernel
theorem hdV_X2_fail : yX2_fail.cls = RX2 ∧ yX2_fail.cls ≠ "java/lang/invoke/MethodHandle" ∧ yX2_fail.cls ≠ "java/lang/invoke/VarHandle" ∧ (parseMethodDescriptor yX2_fail.desc).map (fun d => d.parameters.length) = some 1 := by decide +kernel
theorem hdV_X2_findName : yX2_findName.cls = RX2 ∧ yX2_findName.cls ≠ "java/lang/invoke/MethodHandle" ∧ yX2_findName.cls ≠ "java/lang/invoke/VarHandle" ∧ (parseMethodDescriptor yX2_findName.desc).map (fun d => d.parameters.length) = some 0 := by decide +kernel
theorem hdV_X2_tellName : yX2_tellName.cls = RX2 ∧ yX2_tellName.cls ≠ "java/lang/invoke/MethodHandle" ∧ yX2_tellName.cls ≠ "java/lang/invoke/VarHandle" ∧ (parseMethodDescriptor yX2_tellName.desc).map (fun d => d.parameters.length) = some 2 := by decide +kernel
theorem hdV_X2_choice : yX2_choice.cls = RX2 ∧ yX2_choice.cls ≠ "java/lang/invoke/MethodHandle" ∧ yX2_choice.cls ≠ "java/lang/invoke/VarHandle" ∧ (parseMethodDescriptor yX2_choice.desc).map (fun d => d.parameters.length) = some 1 := by decide +kernel
theorem hdV_X2_whole : yX2_whole.cls = RX2 ∧ yX2_whole.cls ≠ "java/lang/invoke/MethodHandle" ∧ yX2_whole.cls ≠ "java/lang/invoke/VarHandle" ∧ (parseMethodDescriptor yX2_whole.desc).map (fun d => d.parameters.length) = some 2 := by decide +kernel
theorem hdV_X2_measure : yX2_measure.cls = RX2 ∧ yX2_measure.cls ≠ "java/lang/invoke/MethodHandle" ∧ yX2_measure.cls ≠ "java/lang/invoke/VarHandle" ∧ (parseMethodDescriptor yX2_measure.desc).map (fun d => d.parameters.length) = some 3 := by decide +kernel
theorem hdV_X2_readWay : yX2_readWay.cls = RX2 ∧ yX2_readWay.cls ≠ "java/lang/invoke/MethodHandle" ∧ yX2_readWay.cls ≠ "java/lang/invoke/VarHandle" ∧ (parseMethodDescriptor yX2_readWay.desc).map (fun d => d.parameters.length) = some 1 := by decide +kernel
theorem hdV_X2_readSlope : yX2_readSlope.cls = RX2 ∧ yX2_readSlope.cls ≠ "java/lang/invoke/MethodHandle" ∧ yX2_readSlope.cls ≠ "java/lang/invoke/VarHandle" ∧ (parseMethodDescriptor yX2_readSlope.desc).map (fun d => d.parameters.length) = some 0 := by decide +kernel
theorem hdV_X2_passes : yX2_passes.cls = RX2 ∧ yX2_passes.cls ≠ "java/lang/invoke/MethodHandle" ∧ yX2_passes.cls ≠ "java/lang/invoke/VarHandle" ∧ (parseMethodDescriptor yX2_passes.desc).map (fun d => d.parameters.length) = some 1 := by decide +kernel
theorem hdV_X2_readRoad : yX2_readRoad.cls = RX2 ∧ yX2_readRoad.cls ≠ "java/lang/invoke/MethodHandle" ∧ yX2_readRoad.cls ≠ "java/lang/invoke/VarHandle" ∧ (parseMethodDescriptor yX2_readRoad.desc).map (fun d => d.parameters.length) = some 1 := by decide +kernel
theorem hdV_X2_readMeasures : yX2_readMeasures.cls = RX2 ∧ yX2_readMeasures.cls ≠ "java/lang/invoke/MethodHandle" ∧ yX2_readMeasures.cls ≠ "java/lang/invoke/VarHandle" ∧ (parseMethodDescriptor yX2_readMeasures.desc).map (fun d => d.parameters.length) = some 1 := by decide +kernel
theorem hdV_X2_toldName : yX2_toldName.cls = RX2 ∧ yX2_toldName.cls ≠ "java/lang/invoke/MethodHandle" ∧ yX2_toldName.cls ≠ "java/lang/invoke/VarHandle" ∧ (parseMethodDescriptor yX2_toldName.desc).map (fun d => d.parameters.length) = some 1 := by decide +kernel
theorem hdV_X2_readLying : yX2_readLying.cls = RX2 ∧ yX2_readLying.cls ≠ "java/lang/invoke/MethodHandle" ∧ yX2_readLying.cls ≠ "java/lang/invoke/VarHandle" ∧ (parseMethodDescriptor yX2_readLying.desc).map (fun d => d.parameters.length) = some 2 := by decide +kernel
theorem hdV_X2_readSort : yX2_readSort.cls = RX2 ∧ yX2_readSort.cls ≠ "java/lang/invoke/MethodHandle" ∧ yX2_readSort.cls ≠ "java/lang/invoke/VarHandle" ∧ (parseMethodDescriptor yX2_readSort.desc).map (fun d => d.parameters.length) = some 2 := by decide +kernel
theorem hdV_X2_readTrial : yX2_readTrial.cls = RX2 ∧ yX2_readTrial.cls ≠ "java/lang/invoke/MethodHandle" ∧ yX2_readTrial.cls ≠ "java/lang/invoke/VarHandle" ∧ (parseMethodDescriptor yX2_readTrial.desc).map (fun d => d.parameters.length) = some 1 := by decide +kernel
theorem hdV_X2_readStory : yX2_readStory.cls = RX2 ∧ yX2_readStory.cls ≠ "java/lang/invoke/MethodHandle" ∧ yX2_readStory.cls ≠ "java/lang/invoke/VarHandle" ∧ (parseMethodDescriptor yX2_readStory.desc).map (fun d => d.parameters.length) = some 1 := by decide +kernel
theorem hdV_X2_readMeant : yX2_readMeant.cls = RX2 ∧ yX2_readMeant.cls ≠ "java/lang/invoke/MethodHandle" ∧ yX2_readMeant.cls ≠ "java/lang/invoke/VarHandle" ∧ (parseMethodDescriptor yX2_readMeant.desc).map (fun d => d.parameters.length) = some 1 := by decide +kernel
theorem hdV_X2_readTeller : yX2_readTeller.cls = RX2 ∧ yX2_readTeller.cls ≠ "java/lang/invoke/MethodHandle" ∧ yX2_readTeller.cls ≠ "java/lang/invoke/VarHandle" ∧ (parseMethodDescriptor yX2_readTeller.desc).map (fun d => d.parameters.length) = some 1 := by decide +kernel
theorem hdV_X2_readGround : yX2_readGround.cls = RX2 ∧ yX2_readGround.cls ≠ "java/lang/invoke/MethodHandle" ∧ yX2_readGround.cls ≠ "java/lang/invoke/VarHandle" ∧ (parseMethodDescriptor yX2_readGround.desc).map (fun d => d.parameters.length) = some 1 := by decide +kernel
theorem hdV_X2_readLand : yX2_readLand.cls = RX2 ∧ yX2_readLand.cls ≠ "java/lang/invoke/MethodHandle" ∧ yX2_readLand.cls ≠ "java/lang/invoke/VarHandle" ∧ (parseMethodDescriptor yX2_readLand.desc).map (fun d => d.parameters.length) = some 1 := by decide +kernel
theorem hdV_X2_readFields : yX2_readFields.cls = RX2 ∧ yX2_readFields.cls ≠ "java/lang/invoke/MethodHandle" ∧ yX2_readFields.cls ≠ "java/lang/invoke/VarHandle" ∧ (parseMethodDescriptor yX2_readFields.desc).map (fun d => d.parameters.length) = some 1 := by decide +kernel
theorem hdV_X2_readHouses : yX2_readHouses.cls = RX2 ∧ yX2_readHouses.cls ≠ "java/lang/invoke/MethodHandle" ∧ yX2_readHouses.cls ≠ "java/lang/invoke/VarHandle" ∧ (parseMethodDescriptor yX2_readHouses.desc).map (fun d => d.parameters.length) = some 1 := by decide +kernel
theorem hdV_X2_readLine : yX2_readLine.cls = RX2 ∧ yX2_readLine.cls ≠ "java/lang/invoke/MethodHandle" ∧ yX2_readLine.cls ≠ "java/lang/invoke/VarHandle" ∧ (parseMethodDescriptor yX2_readLine.desc).map (fun d => d.parameters.length) = some 1 := by decide +kernel
theorem hdV_X2_readIsland : yX2_readIsland.cls = RX2 ∧ yX2_readIsland.cls ≠ "java/lang/invoke/MethodHandle" ∧ yX2_readIsland.cls ≠ "java/lang/invoke/VarHandle" ∧ (parseMethodDescriptor yX2_readIsland.desc).map (fun d => d.parameters.length) = some 2 := by decide +kernel
set_option maxHeartbeats 4000000 in
set_option maxRecDepth 100000 in
theorem c_X1_clear {l : Launch} {D : va_G} {ad : Nat → Nat} {cy : Nat → ClassId} {A : Nat → Prop} {g : CG} {q : SE} (M : MM) (a0 : Nat) (k0 : ok g a0 1 0) {Z : MM} (h : f_X1_clear M a0 = some Z) : Met l yX1_clear wsX1_clear ({ frames := 0, cells := 0, slots := 0, locals := 0 }) (va_Pc [.ref (ad a0)] (Wd D ad cy A g q M)) (va_Qv (fun u => u = Z) (Wd D ad cy A g q) A) 0 0 A := by
  refine Met.ofW (cc := cX1_clear) (maxL := 1) (ret := none) (by decide) rfl ?_
  intro p e s m args below meth c s₁ B hml hv
  obtain ⟨rfl, hP, hK, hD, hT, hG⟩ := hv
  have hx := B.exec
  have hb := B.bytes
  have hr := B.returns
  have hts := atoms_spec (ws := wsX1_clear) B.pre
  have hown : s.vm.findClass RX1 = some m.cls := findClass_of_methodNamed B.named
  have hlocks := B.notSynchronized
  have in1 : ∀ w ∈ u_ws RX1 TX1 11, w ∈ wsX1_clear := fun w h => List.mem_cons_of_mem _ (List.mem_append_right _ h)
  have hS : va_S A s.heap s.heap [] := va_S.rf
  have hl := lv_entry ([.ref (ad a0)]) (n := 1) (Nat.le_of_ble_eq_true rfl)
  rw [lg_entry_eq]
  generalize (lg_sl ([.ref (ad a0)]) ++ List.replicate (1 - (lg_sl ([.ref (ad a0)])).length) Slot.unset).toArray = ls at hl ⊢
  have hl : lv_has ls 1 [(0, .ref (ad a0))] := hl
  unfold f_X1_clear at h
  refine lv_aload_n hx hb dX1_clear_0 rfl (lv_at hl 0 rfl) ?_
  refine lv_iconst (v := 0) hx hb dX1_clear_1 rfl ?_
  refine r_putI (T := TX1) (ty := .boolean) (v := 0) hx hb hts in1 tyX1 tyX1_ok nmX1 hown hK hP hD hT hS k0 (by decide) rfl 1 (by decide) (hts (.fieldLink RX1 9 "StoneWalk$Journey" "begun" "Z") (List.mem_of_getElem? (i := 1) (by decide +kernel))) rfl rfl (tyX1_ok 1 (by decide)) (zb_n zb_0) rfl rfl dX1_clear_2 (fun H locs hP hD hT hS => ?_)
  refine lv_aload_n hx hb dX1_clear_5 rfl (lv_at hl 0 rfl) ?_
  refine lv_iconst (v := 0) hx hb dX1_clear_6 rfl ?_
  refine r_putI (T := TX1) (ty := .int) (v := 0) hx hb hts in1 tyX1 tyX1_ok nmX1 hown hK hP hD hT hS k0 (by decide) rfl 0 (by decide) (hts (.fieldLink RX1 15 "StoneWalk$Journey" "seed" "I") (List.mem_of_getElem? (i := 2) (by decide +kernel))) rfl rfl (tyX1_ok 0 (by decide)) rfl rfl rfl dX1_clear_7 (fun H locs hP hD hT hS => ?_)
  exact r_vret hx hb hr hlocks hP hK hD hT hG hS (Option.some.inj h) dX1_clear_10
set_option maxHeartbeats 4000000 in
set_option maxRecDepth 100000 in
theorem c_X1_begin {l : Launch} {D : va_G} {ad : Nat → Nat} {cy : Nat → ClassId} {A : Nat → Prop} {g : CG} {q : SE} (M : MM) (a0 : Nat) (x1 : Int32) (x2 : Int32) (x3 : Int32) (x4 : Int32) (k0 : ok g a0 1 0) {Z : MM} (h : f_X1_begin M a0 x1 x2 x3 x4 = some Z) : Met l yX1_begin wsX1_begin ({ frames := 0, cells := 0, slots := 0, locals := 0 }) (va_Pc [.ref (ad a0), .int x1, .int x2, .int x3, .int x4] (Wd D ad cy A g q M)) (va_Qv (fun u => u = Z) (Wd D ad cy A g q) A) 0 0 A := by
  refine Met.ofW (cc := cX1_begin) (maxL := 5) (ret := none) (by decide) rfl ?_
  intro p e s m args below meth c s₁ B hml hv
  obtain ⟨rfl, hP, hK, hD, hT, hG⟩ := hv
  have hx := B.exec
  have hb := B.bytes
  have hr := B.returns
  have hts := atoms_spec (ws := wsX1_begin) B.pre
  have hown : s.vm.findClass RX1 = some m.cls := findClass_of_methodNamed B.named
  have hlocks := B.notSynchronized
  have in1 : ∀ w ∈ u_ws RX1 TX1 11, w ∈ wsX1_begin := fun w h => List.mem_cons_of_mem _ (List.mem_append_right _ h)
  have hS : va_S A s.heap s.heap [] := va_S.rf
  have hl := lv_entry ([.ref (ad a0), .int x1, .int x2, .int x3, .int x4]) (n := 5) (Nat.le_of_ble_eq_true rfl)
  rw [lg_entry_eq]
  generalize (lg_sl ([.ref (ad a0), .int x1, .int x2, .int x3, .int x4]) ++ List.replicate (5 - (lg_sl ([.ref (ad a0), .int x1, .int x2, .int x3, .int x4])).length) Slot.unset).toArray = ls at hl ⊢
  have hl : lv_has ls 5 [(0, .ref (ad a0)), (1, .int x1), (2, .int x2), (3, .int x3), (4, .int x4)] := hl
  unfold f_X1_begin at h
  refine lv_aload_n hx hb dX1_begin_0 rfl (lv_at hl 0 rfl) ?_
  refine lv_iconst (v := 1) hx hb dX1_begin_1 rfl ?_
  refine r_putI (T := TX1) (ty := .boolean) (v := 1) hx hb hts in1 tyX1 tyX1_ok nmX1 hown hK hP hD hT hS k0 (by decide) rfl 1 (by decide) (hts (.fieldLink RX1 9 "StoneWalk$Journey" "begun" "Z") (List.mem_of_getElem? (i := 1) (by decide +kernel))) rfl rfl (tyX1_ok 1 (by decide)) (zb_n zb_1) rfl rfl dX1_begin_2 (fun H locs hP hD hT hS => ?_)
  refine lv_aload_n hx hb dX1_begin_5 rfl (lv_at hl 0 rfl) ?_
  refine lv_iconst (v := 1) hx hb dX1_begin_6 rfl ?_
  refine r_putI (T := TX1) (ty := .int) (v := 1) hx hb hts in1 tyX1 tyX1_ok nmX1 hown hK hP hD hT hS k0 (by decide) rfl 2 (by decide) (hts (.fieldLink RX1 19 "StoneWalk$Journey" "told" "I") (List.mem_of_getElem? (i := 2) (by decide +kernel))) rfl rfl (tyX1_ok 2 (by decide)) rfl rfl rfl dX1_begin_7 (fun H locs hP hD hT hS => ?_)
  refine lv_aload_n hx hb dX1_begin_10 rfl (lv_at hl 0 rfl) ?_
  refine lv_iload_n hx hb dX1_begin_11 rfl (lv_at hl 1 rfl) ?_
  refine r_putI (T := TX1) (ty := .int) (v := x1) hx hb hts in1 tyX1 tyX1_ok nmX1 hown hK hP hD hT hS k0 (by decide) rfl 4 (by decide) (hts (.fieldLink RX1 22 "StoneWalk$Journey" "statue" "I") (List.mem_of_getElem? (i := 3) (by decide +kernel))) rfl rfl (tyX1_ok 4 (by decide)) rfl rfl rfl dX1_begin_12 (fun H locs hP hD hT hS => ?_)
  refine lv_aload_n hx hb dX1_begin_15 rfl (lv_at hl 0 rfl) ?_
  refine lv_iload_n hx hb dX1_begin_16 rfl (lv_at hl 2 rfl) ?_
  refine r_putI (T := TX1) (ty := .int) (v := x2) hx hb hts in1 tyX1 tyX1_ok nmX1 hown hK hP hD hT hS k0 (by decide) rfl 5 (by decide) (hts (.fieldLink RX1 25 "StoneWalk$Journey" "way" "I") (List.mem_of_getElem? (i := 4) (by decide +kernel))) rfl rfl (tyX1_ok 5 (by decide)) rfl rfl rfl dX1_begin_17 (fun H locs hP hD hT hS => ?_)
  refine lv_aload_n hx hb dX1_begin_20 rfl (lv_at hl 0 rfl) ?_
  refine lv_iload_n hx hb dX1_begin_21 rfl (lv_at hl 3 rfl) ?_
  refine r_putI (T := TX1) (ty := .int) (v := x3) hx hb hts in1 tyX1 tyX1_ok nmX1 hown hK hP hD hT hS k0 (by decide) rfl 6 (by decide) (hts (.fieldLink RX1 28 "StoneWalk$Journey" "road" "I") (List.mem_of_getElem? (i := 5) (by decide +kernel))) rfl rfl (tyX1_ok 6 (by decide)) rfl rfl rfl dX1_begin_22 (fun H locs hP hD hT hS => ?_)
  refine lv_aload_n hx hb dX1_begin_25 rfl (lv_at hl 0 rfl) ?_
  refine lv_iload hx hb dX1_begin_26 (lv_at hl 4 rfl) ?_
  refine r_putI (T := TX1) (ty := .int) (v := x4) hx hb hts in1 tyX1 tyX1_ok nmX1 hown hK hP hD hT hS k0 (by decide) rfl 3 (by decide) (hts (.fieldLink RX1 31 "StoneWalk$Journey" "people" "I") (List.mem_of_getElem? (i := 6) (by decide +kernel))) rfl rfl (tyX1_ok 3 (by decide)) rfl rfl rfl dX1_begin_28 (fun H locs hP hD hT hS => ?_)
  refine lv_aload_n hx hb dX1_begin_31 rfl (lv_at hl 0 rfl) ?_
  refine lv_iconst (v := 0) hx hb dX1_begin_32 rfl ?_
  refine r_putI (T := TX1) (ty := .int) (v := 0) hx hb hts in1 tyX1 tyX1_ok nmX1 hown hK hP hD hT hS k0 (by decide) rfl 7 (by decide) (hts (.fieldLink RX1 34 "StoneWalk$Journey" "place" "I") (List.mem_of_getElem? (i := 7) (by decide +kernel))) rfl rfl (tyX1_ok 7 (by decide)) rfl rfl rfl dX1_begin_33 (fun H locs hP hD hT hS => ?_)
  refine lv_aload_n hx hb dX1_begin_36 rfl (lv_at hl 0 rfl) ?_
  refine lv_iconst (v := 0) hx hb dX1_begin_37 rfl ?_
  refine r_putI (T := TX1) (ty := .int) (v := 0) hx hb hts in1 tyX1 tyX1_ok nmX1 hown hK hP hD hT hS k0 (by decide) rfl 8 (by decide) (hts (.fieldLink RX1 37 "StoneWalk$Journey" "minutes" "I") (List.mem_of_getElem? (i := 8) (by decide +kernel))) rfl rfl (tyX1_ok 8 (by decide)) rfl rfl rfl dX1_begin_38 (fun H locs hP hD hT hS => ?_)
  refine lv_aload_n hx hb dX1_begin_41 rfl (lv_at hl 0 rfl) ?_
  refine lv_iconst (v := 0) hx hb dX1_begin_42 rfl ?_
  refine r_putI (T := TX1) (ty := .int) (v := 0) hx hb hts in1 tyX1 tyX1_ok nmX1 hown hK hP hD hT hS k0 (by decide) rfl 9 (by decide) (hts (.fieldLink RX1 40 "StoneWalk$Journey" "wood" "I") (List.mem_of_getElem? (i := 9) (by decide +kernel))) rfl rfl (tyX1_ok 9 (by decide)) rfl rfl rfl dX1_begin_43 (fun H locs hP hD hT hS => ?_)
  refine lv_aload_n hx hb dX1_begin_46 rfl (lv_at hl 0 rfl) ?_
  refine lv_bipush (v := (-2)) hx hb dX1_begin_47 rfl ?_
  refine r_putI (T := TX1) (ty := .int) (v := (-2)) hx hb hts in1 tyX1 tyX1_ok nmX1 hown hK hP hD hT hS k0 (by decide) rfl 10 (by decide) (hts (.fieldLink RX1 43 "StoneWalk$Journey" "lie" "I") (List.mem_of_getElem? (i := 10) (by decide +kernel))) rfl rfl (tyX1_ok 10 (by decide)) rfl rfl rfl dX1_begin_49 (fun H locs hP hD hT hS => ?_)
  exact r_vret hx hb hr hlocks hP hK hD hT hG hS (Option.some.inj h) dX1_begin_52
set_option maxHeartbeats 4000000 in
set_option maxRecDepth 100000 in
theorem c_X1_draw {l : Launch} {D : va_G} {ad : Nat → Nat} {cy : Nat → ClassId} {A : Nat → Prop} {g : CG} {q : SE} (M : MM) (a0 : Nat) (k0 : ok g a0 1 0) {Z : (Int32 × MM)} (h : f_X1_draw M a0 = some Z) : Met l yX1_draw wsX1_draw ({ frames := 0, cells := 0, slots := 0, locals := 0 }) (va_Pc [.ref (ad a0)] (Wd D ad cy A g q M)) (va_Qi (fun r u => r = Z.1 ∧ u = Z.2) (Wd D ad cy A g q) A) 0 0 A := by
  refine Met.ofW (cc := cX1_draw) (maxL := 1) (ret := (some .int)) (by decide) rfl ?_
  intro p e s m args below meth c s₁ B hml hv
  obtain ⟨rfl, hP, hK, hD, hT, hG⟩ := hv
  have hx := B.exec
  have hb := B.bytes
  have hr := B.returns
  have hts := atoms_spec (ws := wsX1_draw) B.pre
  have hown : s.vm.findClass RX1 = some m.cls := findClass_of_methodNamed B.named
  have hlocks := B.notSynchronized
  have in1 : ∀ w ∈ u_ws RX1 TX1 11, w ∈ wsX1_draw := fun w h => List.mem_cons_of_mem _ (List.mem_append_right _ h)
  have hS : va_S A s.heap s.heap [] := va_S.rf
  have hl := lv_entry ([.ref (ad a0)]) (n := 1) (Nat.le_of_ble_eq_true rfl)
  rw [lg_entry_eq]
  generalize (lg_sl ([.ref (ad a0)]) ++ List.replicate (1 - (lg_sl ([.ref (ad a0)])).length) Slot.unset).toArray = ls at hl ⊢
  have hl : lv_has ls 1 [(0, .ref (ad a0))] := hl
  unfold f_X1_draw at h
  refine lv_aload_n hx hb dX1_draw_0 rfl (lv_at hl 0 rfl) ?_
  refine lv_bipush (v := 75) hx hb dX1_draw_1 rfl ?_
  refine lv_aload_n hx hb dX1_draw_3 rfl (lv_at hl 0 rfl) ?_
  refine r_get (T := TX1) (v := .int (gI M a0 0)) hx hb hts in1 hown hK hP k0 (by decide) rfl 0 (by decide) (hts (.fieldLink RX1 15 "StoneWalk$Journey" "seed" "I") (List.mem_of_getElem? (i := 1) (by decide +kernel))) rfl (t := 0) rfl rfl dX1_draw_4 ?_
  refine lv_imul hx hb dX1_draw_7 ?_
  refine lv_bipush (v := 74) hx hb dX1_draw_8 rfl ?_
  refine lv_iadd hx hb dX1_draw_10 ?_
  refine lv_ldc hx hb hown (hts (.constant RX1 116 (65537)) (List.mem_of_getElem? (i := 2) (by decide +kernel))) dX1_draw_11 ?_
  refine lv_irem hx hb dX1_draw_13 (by decide) ?_
  refine r_putI (T := TX1) (ty := .int) (v := ((75 * (gI M a0 0)) + 74) - ((75 * (gI M a0 0)) + 74) / 65537 * 65537) hx hb hts in1 tyX1 tyX1_ok nmX1 hown hK hP hD hT hS k0 (by decide) rfl 0 (by decide) (hts (.fieldLink RX1 15 "StoneWalk$Journey" "seed" "I") (List.mem_of_getElem? (i := 1) (by decide +kernel))) rfl rfl (tyX1_ok 0 (by decide)) rfl rfl rfl dX1_draw_14 (fun H locs hP hD hT hS => ?_)
  refine lv_aload_n hx hb dX1_draw_17 rfl (lv_at hl 0 rfl) ?_
  refine r_get (T := TX1) (v := .int (gI (pI M a0 0 (((75 * (gI M a0 0)) + 74) - ((75 * (gI M a0 0)) + 74) / 65537 * 65537)) a0 0)) hx hb hts in1 hown hK hP k0 (by decide) rfl 0 (by decide) (hts (.fieldLink RX1 15 "StoneWalk$Journey" "seed" "I") (List.mem_of_getElem? (i := 1) (by decide +kernel))) rfl (t := 0) rfl rfl dX1_draw_18 ?_
  have hZ := Option.some.inj h
  have hZ1 := congrArg Prod.fst hZ
  have hZ2 := congrArg Prod.snd hZ
  exact r_iret hx hb hr hlocks hP hK hD hT hG hS hZ1 hZ2 dX1_draw_21
set_option maxHeartbeats 4000000 in
set_option maxRecDepth 100000 in
theorem c_X1_falls {l : Launch} {D : va_G} {ad : Nat → Nat} {cy : Nat → ClassId} {A : Nat → Prop} {g : CG} {q : SE} (M : MM) (a0 : Nat) (x1 : Int32) (k0 : ok g a0 1 0) {Z : (Int32 × MM)} (h : f_X1_falls M a0 x1 = some Z) : Met l yX1_falls wsX1_falls ({ frames := 1, cells := 0, slots := 0, locals := 20 }) (va_Pc [.ref (ad a0), .int x1] (Wd D ad cy A g q M)) (va_Qi (fun r u => r = Z.1 ∧ u = Z.2 ∧ zb r) (Wd D ad cy A g q) A) 0 0 A := by
  refine Met.ofW (cc := cX1_falls) (maxL := 2) (ret := (some .boolean)) (by decide) rfl ?_
  intro p e s m args below meth c s₁ B hml hv
  obtain ⟨rfl, hP, hK, hD, hT, hG⟩ := hv
  have hx := B.exec
  have hb := B.bytes
  have hr := B.returns
  have hts := atoms_spec (ws := wsX1_falls) B.pre
  have hown : s.vm.findClass RX1 = some m.cls := findClass_of_methodNamed B.named
  have hlocks := B.notSynchronized
  have hS : va_S A s.heap s.heap [] := va_S.rf
  have hl := lv_entry ([.ref (ad a0), .int x1]) (n := 2) (Nat.le_of_ble_eq_true rfl)
  rw [lg_entry_eq]
  generalize (lg_sl ([.ref (ad a0), .int x1]) ++ List.replicate (2 - (lg_sl ([.ref (ad a0), .int x1])).length) Slot.unset).toArray = ls at hl ⊢
  have hl : lv_has ls 2 [(0, .ref (ad a0)), (1, .int x1)] := hl
  unfold f_X1_falls at h
  refine lv_iload_n hx hb dX1_falls_0 rfl (lv_at hl 1 rfl) ?_
  refine lv_if_le (tgt := 19) hx hb dX1_falls_1 rfl (fun c1 => ?_) (fun c1 => ?_)
  · replace h := ite_t c1 h
    refine lv_iconst (v := 0) hx hb dX1_falls_19 rfl ?_
    have hZ := Option.some.inj h
    have hZ1 := congrArg Prod.fst hZ
    have hZ2 := congrArg Prod.snd hZ
    exact r_zret hx hb hr hlocks hP hK hD hT hG hS zb_0 hZ1 hZ2 dX1_falls_20
  · replace h := ite_f c1 h
    refine lv_aload_n hx hb dX1_falls_4 rfl (lv_at hl 0 rfl) ?_
    obtain ⟨z2, h2, h⟩ := ob_some h
    refine k_i (va_runV (As := []) (rest := []) ⟨hx, hb, hml, hown, hts⟩ (c_X1_draw (l := l) M a0 k0 h2) (cwV 0 hts gX1_falls_X1_draw rfl rfl rfl hdV_X1_draw ⟨Nat.le_of_ble_eq_true rfl, Nat.le_of_ble_eq_true rfl⟩) (pV (T := TX1) hP hK hD hT hG hS k0 (by decide) rfl) rfl rfl hl.1 rfl (lv_room (Nat.le_of_ble_eq_true rfl)) dX1_falls_5 ⟨Nat.zero_le _, Nat.zero_le _⟩) hS (fun H locs hP hD hT hS => ?_)
    refine lv_bipush (v := 100) hx hb dX1_falls_8 rfl ?_
    refine lv_irem hx hb dX1_falls_10 (by decide) ?_
    refine lv_iload_n hx hb dX1_falls_11 rfl (lv_at hl 1 rfl) ?_
    refine lv_icmp_ge (tgt := 19) hx hb dX1_falls_12 rfl (fun c3 => ?_) (fun c3 => ?_)
    · replace h := ite_t c3 h
      refine lv_iconst (v := 0) hx hb dX1_falls_19 rfl ?_
      have hZ := Option.some.inj h
      have hZ1 := congrArg Prod.fst hZ
      have hZ2 := congrArg Prod.snd hZ
      exact r_zret hx hb hr hlocks hP hK hD hT hG hS zb_0 hZ1 hZ2 dX1_falls_20
    · replace h := ite_f c3 h
      refine lv_iconst (v := 1) hx hb dX1_falls_15 rfl ?_
      refine lv_goto (tgt := 20) hx hb dX1_falls_16 rfl ?_
      have hZ := Option.some.inj h
      have hZ1 := congrArg Prod.fst hZ
      have hZ2 := congrArg Prod.snd hZ
      exact r_zret hx hb hr hlocks hP hK hD hT hG hS zb_1 hZ1 hZ2 dX1_falls_20
set_option maxHeartbeats 4000000 in
set_option maxRecDepth 100000 in
theorem c_X1_laid {l : Launch} {D : va_G} {ad : Nat → Nat} {cy : Nat → ClassId} {A : Nat → Prop} {g : CG} {q : SE} (M : MM) (a0 : Nat) (a1 : Nat) (x2 : Int32) (k0 : ok g a0 1 0) (k1 : ok g a1 10 0) {Z : (Int32 × MM)} (h : f_X1_laid M a0 a1 x2 = some Z) : Met l yX1_laid wsX1_laid ({ frames := 2, cells := 0, slots := 0, locals := 44 }) (va_Pc [.ref (ad a0), .ref (ad a1), .int x2] (Wd D ad cy A g q M)) (va_Qi (fun r u => r = Z.1 ∧ u = Z.2) (Wd D ad cy A g q) A) 0 0 A := by
  refine Met.ofW (cc := cX1_laid) (maxL := 5) (ret := (some .int)) (by decide) rfl ?_
  intro p e s m args below meth c s₁ B hml hv
  obtain ⟨rfl, hP, hK, hD, hT, hG⟩ := hv
  have hx := B.exec
  have hb := B.bytes
  have hr := B.returns
  have hts := atoms_spec (ws := wsX1_laid) B.pre
  have hown : s.vm.findClass RX1 = some m.cls := findClass_of_methodNamed B.named
  have hlocks := B.notSynchronized
  have hS : va_S A s.heap s.heap [] := va_S.rf
  have hl := lv_entry ([.ref (ad a0), .ref (ad a1), .int x2]) (n := 5) (Nat.le_of_ble_eq_true rfl)
  rw [lg_entry_eq]
  generalize (lg_sl ([.ref (ad a0), .ref (ad a1), .int x2]) ++ List.replicate (5 - (lg_sl ([.ref (ad a0), .ref (ad a1), .int x2])).length) Slot.unset).toArray = ls at hl ⊢
  have hl : lv_has ls 5 [(0, .ref (ad a0)), (1, .ref (ad a1)), (2, .int x2)] := hl
  unfold f_X1_laid at h
  refine lv_aload_n hx hb dX1_laid_0 rfl (lv_at hl 0 rfl) ?_
  obtain ⟨z1, h1, h⟩ := ob_some h
  refine k_i (va_runV (As := []) (rest := []) ⟨hx, hb, hml, hown, hts⟩ (c_X1_draw (l := l) M a0 k0 h1) (cwV 0 hts gX1_laid_X1_draw rfl rfl rfl hdV_X1_draw ⟨Nat.le_of_ble_eq_true rfl, Nat.le_of_ble_eq_true rfl⟩) (pV (T := TX1) hP hK hD hT hG hS k0 (by decide) rfl) rfl rfl hl.1 rfl (lv_room (Nat.le_of_ble_eq_true rfl)) dX1_laid_1 ⟨Nat.zero_le _, Nat.zero_le _⟩) hS (fun H locs hP hD hT hS => ?_)
  refine lv_bipush (v := 10) hx hb dX1_laid_4 rfl ?_
  refine lv_irem hx hb dX1_laid_6 (by decide) ?_
  refine lv_istore_n (lv' := [(3, .int (z1.1 - z1.1 / 10 * 10)), (0, .ref (ad a0)), (1, .ref (ad a1)), (2, .int x2)]) hx hb dX1_laid_7 rfl hl (by decide) rfl (fun ls hl => ?_)
  refine lv_aload_n hx hb dX1_laid_8 rfl (lv_at hl 2 rfl) ?_
  refine lv_iload_n hx hb dX1_laid_9 rfl (lv_at hl 3 rfl) ?_
  refine lv_iconst (v := 0) hx hb dX1_laid_10 rfl ?_
  obtain ⟨z2, h2, h⟩ := ob_some h
  refine k_i (va_runV (As := [.int x2, .int 0]) (rest := []) ⟨hx, hb, hml, hown, hts⟩ (c_X10_tenths (l := l) z1.2 a1 x2 0 k1 h2) (cwV 2 hts gX1_laid_X10_tenths rfl rfl rfl hdV_X10_tenths ⟨Nat.le_of_ble_eq_true rfl, Nat.le_of_ble_eq_true rfl⟩) (pV (T := TX10) hP hK hD hT hG hS k1 (by decide) rfl) rfl rfl hl.1 rfl (lv_room (Nat.le_of_ble_eq_true rfl)) dX1_laid_11 ⟨Nat.zero_le _, Nat.zero_le _⟩) hS (fun H locs hP hD hT hS => ?_)
  refine lv_istore (lv' := [(4, .int z2), (3, .int (z1.1 - z1.1 / 10 * 10)), (0, .ref (ad a0)), (1, .ref (ad a1)), (2, .int x2)]) hx hb dX1_laid_14 hl (by decide) rfl (fun ls hl => ?_)
  refine lv_iload_n hx hb dX1_laid_16 rfl (lv_at hl 1 rfl) ?_
  refine lv_iload hx hb dX1_laid_17 (lv_at hl 0 rfl) ?_
  refine lv_icmp_ge (tgt := 24) hx hb dX1_laid_19 rfl (fun c3 => ?_) (fun c3 => ?_)
  · replace h := ite_t c3 h
    refine lv_iload_n hx hb dX1_laid_24 rfl (lv_at hl 1 rfl) ?_
    refine lv_iload hx hb dX1_laid_25 (lv_at hl 0 rfl) ?_
    refine lv_aload_n hx hb dX1_laid_27 rfl (lv_at hl 3 rfl) ?_
    refine lv_iload_n hx hb dX1_laid_28 rfl (lv_at hl 4 rfl) ?_
    refine lv_iconst (v := 1) hx hb dX1_laid_29 rfl ?_
    obtain ⟨z4, h4, h⟩ := ob_some h
    refine k_i (va_runV (As := [.int x2, .int 1]) (rest := [.int z2, .int (z1.1 - z1.1 / 10 * 10)]) ⟨hx, hb, hml, hown, hts⟩ (c_X10_tenths (l := l) z1.2 a1 x2 1 k1 h4) (cwV 2 hts gX1_laid_X10_tenths rfl rfl rfl hdV_X10_tenths ⟨Nat.le_of_ble_eq_true rfl, Nat.le_of_ble_eq_true rfl⟩) (pV (T := TX10) hP hK hD hT hG hS k1 (by decide) rfl) rfl rfl hl.1 rfl (lv_room (Nat.le_of_ble_eq_true rfl)) dX1_laid_30 ⟨Nat.zero_le _, Nat.zero_le _⟩) hS (fun H locs hP hD hT hS => ?_)
    refine lv_iadd hx hb dX1_laid_33 ?_
    refine lv_icmp_ge (tgt := 41) hx hb dX1_laid_34 rfl (fun c5 => ?_) (fun c5 => ?_)
    · replace h := ite_t c5 h
      refine lv_iconst (v := 2) hx hb dX1_laid_41 rfl ?_
      have hZ := Option.some.inj h
      have hZ1 := congrArg Prod.fst hZ
      have hZ2 := congrArg Prod.snd hZ
      exact r_iret hx hb hr hlocks hP hK hD hT hG hS hZ1 hZ2 dX1_laid_42
    · replace h := ite_f c5 h
      refine lv_iconst (v := 1) hx hb dX1_laid_37 rfl ?_
      refine lv_goto (tgt := 42) hx hb dX1_laid_38 rfl ?_
      have hZ := Option.some.inj h
      have hZ1 := congrArg Prod.fst hZ
      have hZ2 := congrArg Prod.snd hZ
      exact r_iret hx hb hr hlocks hP hK hD hT hG hS hZ1 hZ2 dX1_laid_42
  · replace h := ite_f c3 h
    refine lv_iconst (v := 0) hx hb dX1_laid_22 rfl ?_
    have hZ := Option.some.inj h
    have hZ1 := congrArg Prod.fst hZ
    have hZ2 := congrArg Prod.snd hZ
    exact r_iret hx hb hr hlocks hP hK hD hT hG hS hZ1 hZ2 dX1_laid_23
set_option maxHeartbeats 4000000 in
set_option maxRecDepth 100000 in
theorem c_X1_advance {l : Launch} {D : va_G} {ad : Nat → Nat} {cy : Nat → ClassId} {A : Nat → Prop} {g : CG} {q : SE} (M : MM) (a0 : Nat) (a1 : Nat) (k0 : ok g a0 1 0) (k1 : ok g a1 0 0) {Z : (Int32 × MM)} (h : f_X1_advance M a0 a1 = some Z) : Met l yX1_advance wsX1_advance ({ frames := 3, cells := 0, slots := 0, locals := 70 }) (va_Pc [.ref (ad a0), .ref (ad a1)] (Wd D ad cy A g q M)) (va_Qi (fun r u => r = Z.1 ∧ u = Z.2) (Wd D ad cy A g q) A) 0 0 A := by
  refine Met.ofW (cc := cX1_advance) (maxL := 6) (ret := (some .int)) (by decide) rfl ?_
  intro p e s m args below meth c s₁ B hml hv
  obtain ⟨rfl, hP, hK, hD, hT, hG⟩ := hv
  have hx := B.exec
  have hb := B.bytes
  have hr := B.returns
  have hts := atoms_spec (ws := wsX1_advance) B.pre
  have hown : s.vm.findClass RX1 = some m.cls := findClass_of_methodNamed B.named
  have hlocks := B.notSynchronized
  have in1 : ∀ w ∈ u_ws RX1 TX1 11, w ∈ wsX1_advance := fun w h => List.mem_cons_of_mem _ (List.mem_append_left _ (List.mem_append_left _ (List.mem_append_left _ (List.mem_append_left _ (List.mem_append_right _ h)))))
  have in3 : ∀ w ∈ u_ws RX3 TX3 3, w ∈ wsX1_advance := fun w h => List.mem_cons_of_mem _ (List.mem_append_left _ (List.mem_append_left _ (List.mem_append_right _ h)))
  have in5 : ∀ w ∈ u_ws RX5 TX5 8, w ∈ wsX1_advance := fun w h => List.mem_cons_of_mem _ (List.mem_append_left _ (List.mem_append_left _ (List.mem_append_left _ (List.mem_append_right _ h))))
  have hS : va_S A s.heap s.heap [] := va_S.rf
  have hl := lv_entry ([.ref (ad a0), .ref (ad a1)]) (n := 6) (Nat.le_of_ble_eq_true rfl)
  rw [lg_entry_eq]
  generalize (lg_sl ([.ref (ad a0), .ref (ad a1)]) ++ List.replicate (6 - (lg_sl ([.ref (ad a0), .ref (ad a1)])).length) Slot.unset).toArray = ls at hl ⊢
  have hl : lv_has ls 6 [(0, .ref (ad a0)), (1, .ref (ad a1))] := hl
  unfold f_X1_advance at h
  refine lv_aload_n hx hb dX1_advance_0 rfl (lv_at hl 1 rfl) ?_
  refine lv_aload_n hx hb dX1_advance_1 rfl (lv_at hl 0 rfl) ?_
  refine r_get (T := TX1) (v := .int (gI M a0 4)) hx hb hts in1 hown hK hP k0 (by decide) rfl 4 (by decide) (hts (.fieldLink RX1 22 "StoneWalk$Journey" "statue" "I") (List.mem_of_getElem? (i := 1) (by decide +kernel))) rfl (t := 0) rfl rfl dX1_advance_2 ?_
  obtain ⟨z1, h1, h⟩ := ob_some h
  refine k_q (va_runV (As := [.int (gI M a0 4)]) (rest := []) ⟨hx, hb, hml, hown, hts⟩ (c_X0_statueAt (l := l) M a1 (gI M a0 4) k1 h1) (cwV 1 hts gX1_advance_X0_statueAt rfl rfl rfl hdV_X0_statueAt ⟨Nat.le_of_ble_eq_true rfl, Nat.le_of_ble_eq_true rfl⟩) (pV (T := TX0) hP hK hD hT hG hS k1 (by decide) rfl) rfl rfl hl.1 rfl (lv_room (Nat.le_of_ble_eq_true rfl)) dX1_advance_5 ⟨Nat.zero_le _, Nat.zero_le _⟩) hS (fun H locs hq1 hP hD hT hS => ?_)
  rcases hN1 : z1 with _ | b1
  · replace h := oc_n hN1 h
    show W _ _ _ _ _ _ _ _ _ _ _ _ _ _ _ (F0 _ _ _ (.null :: []))
    refine lv_astore_nN (lv' := [(2, .null), (0, .ref (ad a0)), (1, .ref (ad a1))]) hx hb dX1_advance_8 rfl hl (by decide) rfl (fun ls hl => ?_)
    refine lv_aload_n hx hb dX1_advance_9 rfl (lv_at hl 2 rfl) ?_
    refine lv_aload_n hx hb dX1_advance_10 rfl (lv_at hl 1 rfl) ?_
    refine r_get (T := TX1) (v := .int (gI M a0 5)) hx hb hts in1 hown hK hP k0 (by decide) rfl 5 (by decide) (hts (.fieldLink RX1 25 "StoneWalk$Journey" "way" "I") (List.mem_of_getElem? (i := 2) (by decide +kernel))) rfl (t := 0) rfl rfl dX1_advance_11 ?_
    obtain ⟨z2, h2, h⟩ := ob_some h
    refine k_q (va_runV (As := [.int (gI M a0 5)]) (rest := []) ⟨hx, hb, hml, hown, hts⟩ (c_X0_wayAt (l := l) M a1 (gI M a0 5) k1 h2) (cwV 1 hts gX1_advance_X0_wayAt rfl rfl rfl hdV_X0_wayAt ⟨Nat.le_of_ble_eq_true rfl, Nat.le_of_ble_eq_true rfl⟩) (pV (T := TX0) hP hK hD hT hG hS k1 (by decide) rfl) rfl rfl hl.1 rfl (lv_room (Nat.le_of_ble_eq_true rfl)) dX1_advance_14 ⟨Nat.zero_le _, Nat.zero_le _⟩) hS (fun H locs hq2 hP hD hT hS => ?_)
    rcases hN2 : z2 with _ | b2
    · replace h := oc_n hN2 h
      show W _ _ _ _ _ _ _ _ _ _ _ _ _ _ _ (F0 _ _ _ (.null :: []))
      refine lv_astore_nN (lv' := [(3, .null), (2, .null), (0, .ref (ad a0)), (1, .ref (ad a1))]) hx hb dX1_advance_17 rfl hl (by decide) rfl (fun ls hl => ?_)
      refine lv_aload_n hx hb dX1_advance_18 rfl (lv_at hl 3 rfl) ?_
      refine lv_aload_n hx hb dX1_advance_19 rfl (lv_at hl 2 rfl) ?_
      refine r_get (T := TX1) (v := .int (gI M a0 6)) hx hb hts in1 hown hK hP k0 (by decide) rfl 6 (by decide) (hts (.fieldLink RX1 28 "StoneWalk$Journey" "road" "I") (List.mem_of_getElem? (i := 3) (by decide +kernel))) rfl (t := 0) rfl rfl dX1_advance_20 ?_
      obtain ⟨z3, h3, h⟩ := ob_some h
      refine k_q (va_runV (As := [.int (gI M a0 6)]) (rest := []) ⟨hx, hb, hml, hown, hts⟩ (c_X0_roadAt (l := l) M a1 (gI M a0 6) k1 h3) (cwV 1 hts gX1_advance_X0_roadAt rfl rfl rfl hdV_X0_roadAt ⟨Nat.le_of_ble_eq_true rfl, Nat.le_of_ble_eq_true rfl⟩) (pV (T := TX0) hP hK hD hT hG hS k1 (by decide) rfl) rfl rfl hl.1 rfl (lv_room (Nat.le_of_ble_eq_true rfl)) dX1_advance_23 ⟨Nat.zero_le _, Nat.zero_le _⟩) hS (fun H locs hq3 hP hD hT hS => ?_)
      rcases hN3 : z3 with _ | b3
      · replace h := oc_n hN3 h
        show W _ _ _ _ _ _ _ _ _ _ _ _ _ _ _ (F0 _ _ _ (.null :: []))
        refine lv_astoreN (lv' := [(4, .null), (3, .null), (2, .null), (0, .ref (ad a0)), (1, .ref (ad a1))]) hx hb dX1_advance_26 hl (by decide) rfl (fun ls hl => ?_)
        refine lv_aload_nN hx hb dX1_advance_28 rfl (lv_at hl 2 rfl) ?_
        refine lv_ifnullN (tgt := 41) hx hb dX1_advance_29 rfl ?_
        refine lv_aload_n hx hb dX1_advance_41 rfl (lv_at hl 3 rfl) ?_
        refine r_get (T := TX1) (v := .int (gI M a0 2)) hx hb hts in1 hown hK hP k0 (by decide) rfl 2 (by decide) (hts (.fieldLink RX1 19 "StoneWalk$Journey" "told" "I") (List.mem_of_getElem? (i := 4) (by decide +kernel))) rfl (t := 0) rfl rfl dX1_advance_42 ?_
        have hZ := Option.some.inj h
        have hZ1 := congrArg Prod.fst hZ
        have hZ2 := congrArg Prod.snd hZ
        exact r_iret hx hb hr hlocks hP hK hD hT hG hS hZ1 hZ2 dX1_advance_45
      · replace h := oc_s hN3 h
        have kb3 := hq3 _ hN3
        show W _ _ _ _ _ _ _ _ _ _ _ _ _ _ _ (F0 _ _ _ (.ref (ad b3) :: []))
        refine lv_astore (lv' := [(4, .ref (ad b3)), (3, .null), (2, .null), (0, .ref (ad a0)), (1, .ref (ad a1))]) hx hb dX1_advance_26 hl (by decide) rfl (fun ls hl => ?_)
        refine lv_aload_nN hx hb dX1_advance_28 rfl (lv_at hl 2 rfl) ?_
        refine lv_ifnullN (tgt := 41) hx hb dX1_advance_29 rfl ?_
        refine lv_aload_n hx hb dX1_advance_41 rfl (lv_at hl 3 rfl) ?_
        refine r_get (T := TX1) (v := .int (gI M a0 2)) hx hb hts in1 hown hK hP k0 (by decide) rfl 2 (by decide) (hts (.fieldLink RX1 19 "StoneWalk$Journey" "told" "I") (List.mem_of_getElem? (i := 4) (by decide +kernel))) rfl (t := 0) rfl rfl dX1_advance_42 ?_
        have hZ := Option.some.inj h
        have hZ1 := congrArg Prod.fst hZ
        have hZ2 := congrArg Prod.snd hZ
        exact r_iret hx hb hr hlocks hP hK hD hT hG hS hZ1 hZ2 dX1_advance_45
    · replace h := oc_s hN2 h
      have kb2 := hq2 _ hN2
      show W _ _ _ _ _ _ _ _ _ _ _ _ _ _ _ (F0 _ _ _ (.ref (ad b2) :: []))
      refine lv_astore_n (lv' := [(3, .ref (ad b2)), (2, .null), (0, .ref (ad a0)), (1, .ref (ad a1))]) hx hb dX1_advance_17 rfl hl (by decide) rfl (fun ls hl => ?_)
      refine lv_aload_n hx hb dX1_advance_18 rfl (lv_at hl 3 rfl) ?_
      refine lv_aload_n hx hb dX1_advance_19 rfl (lv_at hl 2 rfl) ?_
      refine r_get (T := TX1) (v := .int (gI M a0 6)) hx hb hts in1 hown hK hP k0 (by decide) rfl 6 (by decide) (hts (.fieldLink RX1 28 "StoneWalk$Journey" "road" "I") (List.mem_of_getElem? (i := 3) (by decide +kernel))) rfl (t := 0) rfl rfl dX1_advance_20 ?_
      obtain ⟨z4, h4, h⟩ := ob_some h
      refine k_q (va_runV (As := [.int (gI M a0 6)]) (rest := []) ⟨hx, hb, hml, hown, hts⟩ (c_X0_roadAt (l := l) M a1 (gI M a0 6) k1 h4) (cwV 1 hts gX1_advance_X0_roadAt rfl rfl rfl hdV_X0_roadAt ⟨Nat.le_of_ble_eq_true rfl, Nat.le_of_ble_eq_true rfl⟩) (pV (T := TX0) hP hK hD hT hG hS k1 (by decide) rfl) rfl rfl hl.1 rfl (lv_room (Nat.le_of_ble_eq_true rfl)) dX1_advance_23 ⟨Nat.zero_le _, Nat.zero_le _⟩) hS (fun H locs hq4 hP hD hT hS => ?_)
      rcases hN4 : z4 with _ | b4
      · replace h := oc_n hN4 h
        show W _ _ _ _ _ _ _ _ _ _ _ _ _ _ _ (F0 _ _ _ (.null :: []))
        refine lv_astoreN (lv' := [(4, .null), (3, .ref (ad b2)), (2, .null), (0, .ref (ad a0)), (1, .ref (ad a1))]) hx hb dX1_advance_26 hl (by decide) rfl (fun ls hl => ?_)
        refine lv_aload_nN hx hb dX1_advance_28 rfl (lv_at hl 2 rfl) ?_
        refine lv_ifnullN (tgt := 41) hx hb dX1_advance_29 rfl ?_
        refine lv_aload_n hx hb dX1_advance_41 rfl (lv_at hl 3 rfl) ?_
        refine r_get (T := TX1) (v := .int (gI M a0 2)) hx hb hts in1 hown hK hP k0 (by decide) rfl 2 (by decide) (hts (.fieldLink RX1 19 "StoneWalk$Journey" "told" "I") (List.mem_of_getElem? (i := 4) (by decide +kernel))) rfl (t := 0) rfl rfl dX1_advance_42 ?_
        have hZ := Option.some.inj h
        have hZ1 := congrArg Prod.fst hZ
        have hZ2 := congrArg Prod.snd hZ
        exact r_iret hx hb hr hlocks hP hK hD hT hG hS hZ1 hZ2 dX1_advance_45
      · replace h := oc_s hN4 h
        have kb4 := hq4 _ hN4
        show W _ _ _ _ _ _ _ _ _ _ _ _ _ _ _ (F0 _ _ _ (.ref (ad b4) :: []))
        refine lv_astore (lv' := [(4, .ref (ad b4)), (3, .ref (ad b2)), (2, .null), (0, .ref (ad a0)), (1, .ref (ad a1))]) hx hb dX1_advance_26 hl (by decide) rfl (fun ls hl => ?_)
        refine lv_aload_nN hx hb dX1_advance_28 rfl (lv_at hl 2 rfl) ?_
        refine lv_ifnullN (tgt := 41) hx hb dX1_advance_29 rfl ?_
        refine lv_aload_n hx hb dX1_advance_41 rfl (lv_at hl 3 rfl) ?_
        refine r_get (T := TX1) (v := .int (gI M a0 2)) hx hb hts in1 hown hK hP k0 (by decide) rfl 2 (by decide) (hts (.fieldLink RX1 19 "StoneWalk$Journey" "told" "I") (List.mem_of_getElem? (i := 4) (by decide +kernel))) rfl (t := 0) rfl rfl dX1_advance_42 ?_
        have hZ := Option.some.inj h
        have hZ1 := congrArg Prod.fst hZ
        have hZ2 := congrArg Prod.snd hZ
        exact r_iret hx hb hr hlocks hP hK hD hT hG hS hZ1 hZ2 dX1_advance_45
  · replace h := oc_s hN1 h
    have kb1 := hq1 _ hN1
    show W _ _ _ _ _ _ _ _ _ _ _ _ _ _ _ (F0 _ _ _ (.ref (ad b1) :: []))
    refine lv_astore_n (lv' := [(2, .ref (ad b1)), (0, .ref (ad a0)), (1, .ref (ad a1))]) hx hb dX1_advance_8 rfl hl (by decide) rfl (fun ls hl => ?_)
    refine lv_aload_n hx hb dX1_advance_9 rfl (lv_at hl 2 rfl) ?_
    refine lv_aload_n hx hb dX1_advance_10 rfl (lv_at hl 1 rfl) ?_
    refine r_get (T := TX1) (v := .int (gI M a0 5)) hx hb hts in1 hown hK hP k0 (by decide) rfl 5 (by decide) (hts (.fieldLink RX1 25 "StoneWalk$Journey" "way" "I") (List.mem_of_getElem? (i := 2) (by decide +kernel))) rfl (t := 0) rfl rfl dX1_advance_11 ?_
    obtain ⟨z5, h5, h⟩ := ob_some h
    refine k_q (va_runV (As := [.int (gI M a0 5)]) (rest := []) ⟨hx, hb, hml, hown, hts⟩ (c_X0_wayAt (l := l) M a1 (gI M a0 5) k1 h5) (cwV 1 hts gX1_advance_X0_wayAt rfl rfl rfl hdV_X0_wayAt ⟨Nat.le_of_ble_eq_true rfl, Nat.le_of_ble_eq_true rfl⟩) (pV (T := TX0) hP hK hD hT hG hS k1 (by decide) rfl) rfl rfl hl.1 rfl (lv_room (Nat.le_of_ble_eq_true rfl)) dX1_advance_14 ⟨Nat.zero_le _, Nat.zero_le _⟩) hS (fun H locs hq5 hP hD hT hS => ?_)
    rcases hN5 : z5 with _ | b5
    · replace h := oc_n hN5 h
      show W _ _ _ _ _ _ _ _ _ _ _ _ _ _ _ (F0 _ _ _ (.null :: []))
      refine lv_astore_nN (lv' := [(3, .null), (2, .ref (ad b1)), (0, .ref (ad a0)), (1, .ref (ad a1))]) hx hb dX1_advance_17 rfl hl (by decide) rfl (fun ls hl => ?_)
      refine lv_aload_n hx hb dX1_advance_18 rfl (lv_at hl 3 rfl) ?_
      refine lv_aload_n hx hb dX1_advance_19 rfl (lv_at hl 2 rfl) ?_
      refine r_get (T := TX1) (v := .int (gI M a0 6)) hx hb hts in1 hown hK hP k0 (by decide) rfl 6 (by decide) (hts (.fieldLink RX1 28 "StoneWalk$Journey" "road" "I") (List.mem_of_getElem? (i := 3) (by decide +kernel))) rfl (t := 0) rfl rfl dX1_advance_20 ?_
      obtain ⟨z6, h6, h⟩ := ob_some h
      refine k_q (va_runV (As := [.int (gI M a0 6)]) (rest := []) ⟨hx, hb, hml, hown, hts⟩ (c_X0_roadAt (l := l) M a1 (gI M a0 6) k1 h6) (cwV 1 hts gX1_advance_X0_roadAt rfl rfl rfl hdV_X0_roadAt ⟨Nat.le_of_ble_eq_true rfl, Nat.le_of_ble_eq_true rfl⟩) (pV (T := TX0) hP hK hD hT hG hS k1 (by decide) rfl) rfl rfl hl.1 rfl (lv_room (Nat.le_of_ble_eq_true rfl)) dX1_advance_23 ⟨Nat.zero_le _, Nat.zero_le _⟩) hS (fun H locs hq6 hP hD hT hS => ?_)
      rcases hN6 : z6 with _ | b6
      · replace h := oc_n hN6 h
        show W _ _ _ _ _ _ _ _ _ _ _ _ _ _ _ (F0 _ _ _ (.null :: []))
        refine lv_astoreN (lv' := [(4, .null), (3, .null), (2, .ref (ad b1)), (0, .ref (ad a0)), (1, .ref (ad a1))]) hx hb dX1_advance_26 hl (by decide) rfl (fun ls hl => ?_)
        refine lv_aload_n hx hb dX1_advance_28 rfl (lv_at hl 2 rfl) ?_
        refine lv_ifnull hx hb dX1_advance_29 ?_
        refine lv_aload_nN hx hb dX1_advance_32 rfl (lv_at hl 1 rfl) ?_
        refine lv_ifnullN (tgt := 41) hx hb dX1_advance_33 rfl ?_
        refine lv_aload_n hx hb dX1_advance_41 rfl (lv_at hl 3 rfl) ?_
        refine r_get (T := TX1) (v := .int (gI M a0 2)) hx hb hts in1 hown hK hP k0 (by decide) rfl 2 (by decide) (hts (.fieldLink RX1 19 "StoneWalk$Journey" "told" "I") (List.mem_of_getElem? (i := 4) (by decide +kernel))) rfl (t := 0) rfl rfl dX1_advance_42 ?_
        have hZ := Option.some.inj h
        have hZ1 := congrArg Prod.fst hZ
        have hZ2 := congrArg Prod.snd hZ
        exact r_iret hx hb hr hlocks hP hK hD hT hG hS hZ1 hZ2 dX1_advance_45
      · replace h := oc_s hN6 h
        have kb6 := hq6 _ hN6
        show W _ _ _ _ _ _ _ _ _ _ _ _ _ _ _ (F0 _ _ _ (.ref (ad b6) :: []))
        refine lv_astore (lv' := [(4, .ref (ad b6)), (3, .null), (2, .ref (ad b1)), (0, .ref (ad a0)), (1, .ref (ad a1))]) hx hb dX1_advance_26 hl (by decide) rfl (fun ls hl => ?_)
        refine lv_aload_n hx hb dX1_advance_28 rfl (lv_at hl 2 rfl) ?_
        refine lv_ifnull hx hb dX1_advance_29 ?_
        refine lv_aload_nN hx hb dX1_advance_32 rfl (lv_at hl 1 rfl) ?_
        refine lv_ifnullN (tgt := 41) hx hb dX1_advance_33 rfl ?_
        refine lv_aload_n hx hb dX1_advance_41 rfl (lv_at hl 3 rfl) ?_
        refine r_get (T := TX1) (v := .int (gI M a0 2)) hx hb hts in1 hown hK hP k0 (by decide) rfl 2 (by decide) (hts (.fieldLink RX1 19 "StoneWalk$Journey" "told" "I") (List.mem_of_getElem? (i := 4) (by decide +kernel))) rfl (t := 0) rfl rfl dX1_advance_42 ?_
        have hZ := Option.some.inj h
        have hZ1 := congrArg Prod.fst hZ
        have hZ2 := congrArg Prod.snd hZ
        exact r_iret hx hb hr hlocks hP hK hD hT hG hS hZ1 hZ2 dX1_advance_45
    · replace h := oc_s hN5 h
      have kb5 := hq5 _ hN5
      show W _ _ _ _ _ _ _ _ _ _ _ _ _ _ _ (F0 _ _ _ (.ref (ad b5) :: []))
      refine lv_astore_n (lv' := [(3, .ref (ad b5)), (2, .ref (ad b1)), (0, .ref (ad a0)), (1, .ref (ad a1))]) hx hb dX1_advance_17 rfl hl (by decide) rfl (fun ls hl => ?_)
      refine lv_aload_n hx hb dX1_advance_18 rfl (lv_at hl 3 rfl) ?_
      refine lv_aload_n hx hb dX1_advance_19 rfl (lv_at hl 2 rfl) ?_
      refine r_get (T := TX1) (v := .int (gI M a0 6)) hx hb hts in1 hown hK hP k0 (by decide) rfl 6 (by decide) (hts (.fieldLink RX1 28 "StoneWalk$Journey" "road" "I") (List.mem_of_getElem? (i := 3) (by decide +kernel))) rfl (t := 0) rfl rfl dX1_advance_20 ?_
      obtain ⟨z7, h7, h⟩ := ob_some h
      refine k_q (va_runV (As := [.int (gI M a0 6)]) (rest := []) ⟨hx, hb, hml, hown, hts⟩ (c_X0_roadAt (l := l) M a1 (gI M a0 6) k1 h7) (cwV 1 hts gX1_advance_X0_roadAt rfl rfl rfl hdV_X0_roadAt ⟨Nat.le_of_ble_eq_true rfl, Nat.le_of_ble_eq_true rfl⟩) (pV (T := TX0) hP hK hD hT hG hS k1 (by decide) rfl) rfl rfl hl.1 rfl (lv_room (Nat.le_of_ble_eq_true rfl)) dX1_advance_23 ⟨Nat.zero_le _, Nat.zero_le _⟩) hS (fun H locs hq7 hP hD hT hS => ?_)
      rcases hN7 : z7 with _ | b7
      · replace h := oc_n hN7 h
        show W _ _ _ _ _ _ _ _ _ _ _ _ _ _ _ (F0 _ _ _ (.null :: []))
        refine lv_astoreN (lv' := [(4, .null), (3, .ref (ad b5)), (2, .ref (ad b1)), (0, .ref (ad a0)), (1, .ref (ad a1))]) hx hb dX1_advance_26 hl (by decide) rfl (fun ls hl => ?_)
        refine lv_aload_n hx hb dX1_advance_28 rfl (lv_at hl 2 rfl) ?_
        refine lv_ifnull hx hb dX1_advance_29 ?_
        refine lv_aload_n hx hb dX1_advance_32 rfl (lv_at hl 1 rfl) ?_
        refine lv_ifnull hx hb dX1_advance_33 ?_
        refine lv_aloadN hx hb dX1_advance_36 (lv_at hl 0 rfl) ?_
        refine lv_ifnonnullN hx hb dX1_advance_38 ?_
        refine lv_aload_n hx hb dX1_advance_41 rfl (lv_at hl 3 rfl) ?_
        refine r_get (T := TX1) (v := .int (gI M a0 2)) hx hb hts in1 hown hK hP k0 (by decide) rfl 2 (by decide) (hts (.fieldLink RX1 19 "StoneWalk$Journey" "told" "I") (List.mem_of_getElem? (i := 4) (by decide +kernel))) rfl (t := 0) rfl rfl dX1_advance_42 ?_
        have hZ := Option.some.inj h
        have hZ1 := congrArg Prod.fst hZ
        have hZ2 := congrArg Prod.snd hZ
        exact r_iret hx hb hr hlocks hP hK hD hT hG hS hZ1 hZ2 dX1_advance_45
      · replace h := oc_s hN7 h
        have kb7 := hq7 _ hN7
        show W _ _ _ _ _ _ _ _ _ _ _ _ _ _ _ (F0 _ _ _ (.ref (ad b7) :: []))
        refine lv_astore (lv' := [(4, .ref (ad b7)), (3, .ref (ad b5)), (2, .ref (ad b1)), (0, .ref (ad a0)), (1, .ref (ad a1))]) hx hb dX1_advance_26 hl (by decide) rfl (fun ls hl => ?_)
        refine lv_aload_n hx hb dX1_advance_28 rfl (lv_at hl 2 rfl) ?_
        refine lv_ifnull hx hb dX1_advance_29 ?_
        refine lv_aload_n hx hb dX1_advance_32 rfl (lv_at hl 1 rfl) ?_
        refine lv_ifnull hx hb dX1_advance_33 ?_
        refine lv_aload hx hb dX1_advance_36 (lv_at hl 0 rfl) ?_
        refine lv_ifnonnull (tgt := 46) hx hb dX1_advance_38 rfl ?_
        refine lv_aload hx hb dX1_advance_46 (lv_at hl 0 rfl) ?_
        refine lv_aload_n hx hb dX1_advance_48 rfl (lv_at hl 3 rfl) ?_
        refine r_get (T := TX1) (v := .int (gI M a0 7)) hx hb hts in1 hown hK hP k0 (by decide) rfl 7 (by decide) (hts (.fieldLink RX1 34 "StoneWalk$Journey" "place" "I") (List.mem_of_getElem? (i := 5) (by decide +kernel))) rfl (t := 0) rfl rfl dX1_advance_49 ?_
        obtain ⟨z8, h8, h⟩ := ob_some h
        refine k_i (va_runV (As := [.int (gI M a0 7)]) (rest := []) ⟨hx, hb, hml, hown, hts⟩ (c_X3_slopeAt (l := l) M b7 (gI M a0 7) kb7 h8) (cwV 1 hts gX1_advance_X3_slopeAt rfl rfl rfl hdV_X3_slopeAt ⟨Nat.le_of_ble_eq_true rfl, Nat.le_of_ble_eq_true rfl⟩) (pV (T := TX3) hP hK hD hT hG hS kb7 (by decide) rfl) rfl rfl hl.1 rfl (lv_room (Nat.le_of_ble_eq_true rfl)) dX1_advance_52 ⟨Nat.zero_le _, Nat.zero_le _⟩) hS (fun H locs hP hD hT hS => ?_)
        refine lv_istore (lv' := [(5, .int z8), (4, .ref (ad b7)), (3, .ref (ad b5)), (2, .ref (ad b1)), (0, .ref (ad a0)), (1, .ref (ad a1))]) hx hb dX1_advance_55 hl (by decide) rfl (fun ls hl => ?_)
        refine lv_aload_n hx hb dX1_advance_57 rfl (lv_at hl 2 rfl) ?_
        refine lv_aload_n hx hb dX1_advance_58 rfl (lv_at hl 3 rfl) ?_
        refine lv_iload hx hb dX1_advance_59 (lv_at hl 0 rfl) ?_
        obtain ⟨z9, h9, h⟩ := ob_some h
        refine k_z (va_runV (As := [.ref (ad b1), .int z8]) (rest := []) ⟨hx, hb, hml, hown, hts⟩ (c_X10_carries (l := l) M b5 b1 z8 kb5 kb1 h9) (cwV 2 hts gX1_advance_X10_carries rfl rfl rfl hdV_X10_carries ⟨Nat.le_of_ble_eq_true rfl, Nat.le_of_ble_eq_true rfl⟩) (pV (T := TX10) hP hK hD hT hG hS kb5 (by decide) rfl) rfl rfl hl.1 rfl (lv_room (Nat.le_of_ble_eq_true rfl)) dX1_advance_61 ⟨Nat.zero_le _, Nat.zero_le _⟩) hS (fun H locs hz9 hP hD hT hS => ?_)
        refine lv_if_ne (tgt := 75) hx hb dX1_advance_64 rfl (fun c10 => ?_) (fun c10 => ?_)
        · replace h := ite_f c10 h
          refine lv_aload_n hx hb dX1_advance_75 rfl (lv_at hl 4 rfl) ?_
          refine r_get (T := TX1) (v := .int (gI M a0 3)) hx hb hts in1 hown hK hP k0 (by decide) rfl 3 (by decide) (hts (.fieldLink RX1 31 "StoneWalk$Journey" "people" "I") (List.mem_of_getElem? (i := 6) (by decide +kernel))) rfl (t := 0) rfl rfl dX1_advance_76 ?_
          refine lv_aload_n hx hb dX1_advance_79 rfl (lv_at hl 2 rfl) ?_
          refine lv_aload_n hx hb dX1_advance_80 rfl (lv_at hl 3 rfl) ?_
          refine r_get (T := TX5) (v := .int (gI M b1 0)) hx hb hts in5 hown hK hP kb1 (by decide) rfl 0 (by decide) (hts (.fieldLink RX1 72 "StoneWalk$Stone" "tons" "I") (List.mem_of_getElem? (i := 7) (by decide +kernel))) rfl (t := 0) rfl rfl dX1_advance_81 ?_
          refine lv_iload hx hb dX1_advance_84 (lv_at hl 0 rfl) ?_
          obtain ⟨z11, h11, h⟩ := ob_some h
          refine k_i (va_runV (As := [.int (gI M b1 0), .int z8]) (rest := [.int (gI M a0 3)]) ⟨hx, hb, hml, hown, hts⟩ (c_X10_hands (l := l) M b5 (gI M b1 0) z8 kb5 h11) (cwV 2 hts gX1_advance_X10_hands rfl rfl rfl hdV_X10_hands ⟨Nat.le_of_ble_eq_true rfl, Nat.le_of_ble_eq_true rfl⟩) (pV (T := TX10) hP hK hD hT hG hS kb5 (by decide) rfl) rfl rfl hl.1 rfl (lv_room (Nat.le_of_ble_eq_true rfl)) dX1_advance_86 ⟨Nat.zero_le _, Nat.zero_le _⟩) hS (fun H locs hP hD hT hS => ?_)
          refine lv_icmp_ge (tgt := 100) hx hb dX1_advance_89 rfl (fun c12 => ?_) (fun c12 => ?_)
          · replace h := ite_t c12 h
            refine lv_aload_n hx hb dX1_advance_100 rfl (lv_at hl 4 rfl) ?_
            refine lv_dup hx hb dX1_advance_101 rfl ?_
            refine r_get (T := TX1) (v := .int (gI M a0 8)) hx hb hts in1 hown hK hP k0 (by decide) rfl 8 (by decide) (hts (.fieldLink RX1 37 "StoneWalk$Journey" "minutes" "I") (List.mem_of_getElem? (i := 8) (by decide +kernel))) rfl (t := 0) rfl rfl dX1_advance_102 ?_
            refine lv_aload_n hx hb dX1_advance_105 rfl (lv_at hl 2 rfl) ?_
            refine lv_aload_n hx hb dX1_advance_106 rfl (lv_at hl 3 rfl) ?_
            refine r_get (T := TX5) (v := .int (gI M b1 0)) hx hb hts in5 hown hK hP kb1 (by decide) rfl 0 (by decide) (hts (.fieldLink RX1 72 "StoneWalk$Stone" "tons" "I") (List.mem_of_getElem? (i := 7) (by decide +kernel))) rfl (t := 0) rfl rfl dX1_advance_107 ?_
            refine lv_iload hx hb dX1_advance_110 (lv_at hl 0 rfl) ?_
            refine lv_aload_n hx hb dX1_advance_112 rfl (lv_at hl 4 rfl) ?_
            refine r_get (T := TX1) (v := .int (gI M a0 3)) hx hb hts in1 hown hK hP k0 (by decide) rfl 3 (by decide) (hts (.fieldLink RX1 31 "StoneWalk$Journey" "people" "I") (List.mem_of_getElem? (i := 6) (by decide +kernel))) rfl (t := 0) rfl rfl dX1_advance_113 ?_
            obtain ⟨z13, h13, h⟩ := ob_some h
            refine k_i (va_runV (As := [.int (gI M b1 0), .int z8, .int (gI M a0 3)]) (rest := [.int (gI M a0 8), .ref (ad a0)]) ⟨hx, hb, hml, hown, hts⟩ (c_X10_duration (l := l) M b5 (gI M b1 0) z8 (gI M a0 3) kb5 h13) (cwV 3 hts gX1_advance_X10_duration rfl rfl rfl hdV_X10_duration ⟨Nat.le_of_ble_eq_true rfl, Nat.le_of_ble_eq_true rfl⟩) (pV (T := TX10) hP hK hD hT hG hS kb5 (by decide) rfl) rfl rfl hl.1 rfl (lv_room (Nat.le_of_ble_eq_true rfl)) dX1_advance_116 ⟨Nat.zero_le _, Nat.zero_le _⟩) hS (fun H locs hP hD hT hS => ?_)
            refine lv_iadd hx hb dX1_advance_119 ?_
            refine r_putI (T := TX1) (ty := .int) (v := (gI M a0 8) + z13) hx hb hts in1 tyX1 tyX1_ok nmX1 hown hK hP hD hT hS k0 (by decide) rfl 8 (by decide) (hts (.fieldLink RX1 37 "StoneWalk$Journey" "minutes" "I") (List.mem_of_getElem? (i := 8) (by decide +kernel))) rfl rfl (tyX1_ok 8 (by decide)) rfl rfl rfl dX1_advance_120 (fun H locs hP hD hT hS => ?_)
            refine lv_aload_n hx hb dX1_advance_123 rfl (lv_at hl 4 rfl) ?_
            refine lv_dup hx hb dX1_advance_124 rfl ?_
            refine r_get (T := TX1) (v := .int (gI (pI M a0 8 ((gI M a0 8) + z13)) a0 9)) hx hb hts in1 hown hK hP k0 (by decide) rfl 9 (by decide) (hts (.fieldLink RX1 40 "StoneWalk$Journey" "wood" "I") (List.mem_of_getElem? (i := 9) (by decide +kernel))) rfl (t := 0) rfl rfl dX1_advance_125 ?_
            refine lv_aload_n hx hb dX1_advance_128 rfl (lv_at hl 2 rfl) ?_
            refine lv_aload_n hx hb dX1_advance_129 rfl (lv_at hl 3 rfl) ?_
            refine r_get (T := TX5) (v := .int (gI (pI M a0 8 ((gI M a0 8) + z13)) b1 0)) hx hb hts in5 hown hK hP kb1 (by decide) rfl 0 (by decide) (hts (.fieldLink RX1 72 "StoneWalk$Stone" "tons" "I") (List.mem_of_getElem? (i := 7) (by decide +kernel))) rfl (t := 0) rfl rfl dX1_advance_130 ?_
            obtain ⟨z14, h14, h⟩ := ob_some h
            refine k_i (va_runV (As := [.int (gI (pI M a0 8 ((gI M a0 8) + z13)) b1 0)]) (rest := [.int (gI (pI M a0 8 ((gI M a0 8) + z13)) a0 9), .ref (ad a0)]) ⟨hx, hb, hml, hown, hts⟩ (c_X10_woodFor (l := l) (pI M a0 8 ((gI M a0 8) + z13)) b5 (gI (pI M a0 8 ((gI M a0 8) + z13)) b1 0) kb5 h14) (cwV 1 hts gX1_advance_X10_woodFor rfl rfl rfl hdV_X10_woodFor ⟨Nat.le_of_ble_eq_true rfl, Nat.le_of_ble_eq_true rfl⟩) (pV (T := TX10) hP hK hD hT hG hS kb5 (by decide) rfl) rfl rfl hl.1 rfl (lv_room (Nat.le_of_ble_eq_true rfl)) dX1_advance_133 ⟨Nat.zero_le _, Nat.zero_le _⟩) hS (fun H locs hP hD hT hS => ?_)
            refine lv_iadd hx hb dX1_advance_136 ?_
            refine r_putI (T := TX1) (ty := .int) (v := (gI (pI M a0 8 ((gI M a0 8) + z13)) a0 9) + z14) hx hb hts in1 tyX1 tyX1_ok nmX1 hown hK hP hD hT hS k0 (by decide) rfl 9 (by decide) (hts (.fieldLink RX1 40 "StoneWalk$Journey" "wood" "I") (List.mem_of_getElem? (i := 9) (by decide +kernel))) rfl rfl (tyX1_ok 9 (by decide)) rfl rfl rfl dX1_advance_137 (fun H locs hP hD hT hS => ?_)
            refine lv_aload_n hx hb dX1_advance_140 rfl (lv_at hl 4 rfl) ?_
            refine lv_aload_n hx hb dX1_advance_141 rfl (lv_at hl 2 rfl) ?_
            refine lv_aload_n hx hb dX1_advance_142 rfl (lv_at hl 3 rfl) ?_
            refine r_get (T := TX5) (v := .int (gI (pI (pI M a0 8 ((gI M a0 8) + z13)) a0 9 ((gI (pI M a0 8 ((gI M a0 8) + z13)) a0 9) + z14)) b1 2)) hx hb hts in5 hown hK hP kb1 (by decide) rfl 2 (by decide) (hts (.fieldLink RX1 88 "StoneWalk$Stone" "edge" "I") (List.mem_of_getElem? (i := 10) (by decide +kernel))) rfl (t := 0) rfl rfl dX1_advance_143 ?_
            refine lv_iload hx hb dX1_advance_146 (lv_at hl 0 rfl) ?_
            obtain ⟨z15, h15, h⟩ := ob_some h
            refine k_i (va_runV (As := [.int (gI (pI (pI M a0 8 ((gI M a0 8) + z13)) a0 9 ((gI (pI M a0 8 ((gI M a0 8) + z13)) a0 9) + z14)) b1 2), .int z8]) (rest := [.ref (ad a0)]) ⟨hx, hb, hml, hown, hts⟩ (c_X10_risk (l := l) (pI (pI M a0 8 ((gI M a0 8) + z13)) a0 9 ((gI (pI M a0 8 ((gI M a0 8) + z13)) a0 9) + z14)) b5 (gI (pI (pI M a0 8 ((gI M a0 8) + z13)) a0 9 ((gI (pI M a0 8 ((gI M a0 8) + z13)) a0 9) + z14)) b1 2) z8 kb5 h15) (cwV 2 hts gX1_advance_X10_risk rfl rfl rfl hdV_X10_risk ⟨Nat.le_of_ble_eq_true rfl, Nat.le_of_ble_eq_true rfl⟩) (pV (T := TX10) hP hK hD hT hG hS kb5 (by decide) rfl) rfl rfl hl.1 rfl (lv_room (Nat.le_of_ble_eq_true rfl)) dX1_advance_148 ⟨Nat.zero_le _, Nat.zero_le _⟩) hS (fun H locs hP hD hT hS => ?_)
            obtain ⟨z16, h16, h⟩ := ob_some h
            refine k_z (va_runV (As := [.int z15]) (rest := []) ⟨hx, hb, hml, hown, hts⟩ (c_X1_falls (l := l) (pI (pI M a0 8 ((gI M a0 8) + z13)) a0 9 ((gI (pI M a0 8 ((gI M a0 8) + z13)) a0 9) + z14)) a0 z15 k0 h16) (cwV 1 hts gX1_advance_X1_falls rfl rfl rfl hdV_X1_falls ⟨Nat.le_of_ble_eq_true rfl, Nat.le_of_ble_eq_true rfl⟩) (pV (T := TX1) hP hK hD hT hG hS k0 (by decide) rfl) rfl rfl hl.1 rfl (lv_room (Nat.le_of_ble_eq_true rfl)) dX1_advance_151 ⟨Nat.zero_le _, Nat.zero_le _⟩) hS (fun H locs hz16 hP hD hT hS => ?_)
            refine lv_if_eq (tgt := 176) hx hb dX1_advance_154 rfl (fun c17 => ?_) (fun c17 => ?_)
            · replace h := ite_t c17 h
              refine lv_aload_n hx hb dX1_advance_176 rfl (lv_at hl 4 rfl) ?_
              refine lv_dup hx hb dX1_advance_177 rfl ?_
              refine r_get (T := TX1) (v := .int (gI z16.2 a0 7)) hx hb hts in1 hown hK hP k0 (by decide) rfl 7 (by decide) (hts (.fieldLink RX1 34 "StoneWalk$Journey" "place" "I") (List.mem_of_getElem? (i := 5) (by decide +kernel))) rfl (t := 0) rfl rfl dX1_advance_178 ?_
              refine lv_iconst (v := 1) hx hb dX1_advance_181 rfl ?_
              refine lv_iadd hx hb dX1_advance_182 ?_
              refine r_putI (T := TX1) (ty := .int) (v := (gI z16.2 a0 7) + 1) hx hb hts in1 tyX1 tyX1_ok nmX1 hown hK hP hD hT hS k0 (by decide) rfl 7 (by decide) (hts (.fieldLink RX1 34 "StoneWalk$Journey" "place" "I") (List.mem_of_getElem? (i := 5) (by decide +kernel))) rfl rfl (tyX1_ok 7 (by decide)) rfl rfl rfl dX1_advance_183 (fun H locs hP hD hT hS => ?_)
              refine lv_aload_n hx hb dX1_advance_186 rfl (lv_at hl 4 rfl) ?_
              refine lv_aload_n hx hb dX1_advance_187 rfl (lv_at hl 4 rfl) ?_
              refine r_get (T := TX1) (v := .int (gI (pI z16.2 a0 7 ((gI z16.2 a0 7) + 1)) a0 7)) hx hb hts in1 hown hK hP k0 (by decide) rfl 7 (by decide) (hts (.fieldLink RX1 34 "StoneWalk$Journey" "place" "I") (List.mem_of_getElem? (i := 5) (by decide +kernel))) rfl (t := 0) rfl rfl dX1_advance_188 ?_
              refine lv_aload hx hb dX1_advance_191 (lv_at hl 1 rfl) ?_
              refine r_get (T := TX3) (v := .int (gI (pI z16.2 a0 7 ((gI z16.2 a0 7) + 1)) b7 1)) hx hb hts in3 hown hK hP kb7 (by decide) rfl 1 (by decide) (hts (.fieldLink RX1 102 "StoneWalk$Road" "held" "I") (List.mem_of_getElem? (i := 12) (by decide +kernel))) rfl (t := 0) rfl rfl dX1_advance_193 ?_
              refine lv_icmp_ge (tgt := 203) hx hb dX1_advance_196 rfl (fun c18 => ?_) (fun c18 => ?_)
              · replace h := ite_t c18 h
                refine lv_iconst (v := 2) hx hb dX1_advance_203 rfl ?_
                refine r_putI (T := TX1) (ty := .int) (v := 2) hx hb hts in1 tyX1 tyX1_ok nmX1 hown hK hP hD hT hS k0 (by decide) rfl 2 (by decide) (hts (.fieldLink RX1 19 "StoneWalk$Journey" "told" "I") (List.mem_of_getElem? (i := 4) (by decide +kernel))) rfl rfl (tyX1_ok 2 (by decide)) rfl rfl rfl dX1_advance_204 (fun H locs hP hD hT hS => ?_)
                refine lv_aload_n hx hb dX1_advance_207 rfl (lv_at hl 4 rfl) ?_
                refine r_get (T := TX1) (v := .int (gI (pI (pI z16.2 a0 7 ((gI z16.2 a0 7) + 1)) a0 2 2) a0 2)) hx hb hts in1 hown hK hP k0 (by decide) rfl 2 (by decide) (hts (.fieldLink RX1 19 "StoneWalk$Journey" "told" "I") (List.mem_of_getElem? (i := 4) (by decide +kernel))) rfl (t := 0) rfl rfl dX1_advance_208 ?_
                have hZ := Option.some.inj h
                have hZ1 := congrArg Prod.fst hZ
                have hZ2 := congrArg Prod.snd hZ
                exact r_iret hx hb hr hlocks hP hK hD hT hG hS hZ1 hZ2 dX1_advance_211
              · replace h := ite_f c18 h
                refine lv_iconst (v := 1) hx hb dX1_advance_199 rfl ?_
                refine lv_goto (tgt := 204) hx hb dX1_advance_200 rfl ?_
                refine r_putI (T := TX1) (ty := .int) (v := 1) hx hb hts in1 tyX1 tyX1_ok nmX1 hown hK hP hD hT hS k0 (by decide) rfl 2 (by decide) (hts (.fieldLink RX1 19 "StoneWalk$Journey" "told" "I") (List.mem_of_getElem? (i := 4) (by decide +kernel))) rfl rfl (tyX1_ok 2 (by decide)) rfl rfl rfl dX1_advance_204 (fun H locs hP hD hT hS => ?_)
                refine lv_aload_n hx hb dX1_advance_207 rfl (lv_at hl 4 rfl) ?_
                refine r_get (T := TX1) (v := .int (gI (pI (pI z16.2 a0 7 ((gI z16.2 a0 7) + 1)) a0 2 1) a0 2)) hx hb hts in1 hown hK hP k0 (by decide) rfl 2 (by decide) (hts (.fieldLink RX1 19 "StoneWalk$Journey" "told" "I") (List.mem_of_getElem? (i := 4) (by decide +kernel))) rfl (t := 0) rfl rfl dX1_advance_208 ?_
                have hZ := Option.some.inj h
                have hZ1 := congrArg Prod.fst hZ
                have hZ2 := congrArg Prod.snd hZ
                exact r_iret hx hb hr hlocks hP hK hD hT hG hS hZ1 hZ2 dX1_advance_211
            · replace h := ite_f c17 h
              refine lv_aload_n hx hb dX1_advance_157 rfl (lv_at hl 4 rfl) ?_
              refine lv_iconst (v := 3) hx hb dX1_advance_158 rfl ?_
              refine r_putI (T := TX1) (ty := .int) (v := 3) hx hb hts in1 tyX1 tyX1_ok nmX1 hown hK hP hD hT hS k0 (by decide) rfl 2 (by decide) (hts (.fieldLink RX1 19 "StoneWalk$Journey" "told" "I") (List.mem_of_getElem? (i := 4) (by decide +kernel))) rfl rfl (tyX1_ok 2 (by decide)) rfl rfl rfl dX1_advance_159 (fun H locs hP hD hT hS => ?_)
              refine lv_aload_n hx hb dX1_advance_162 rfl (lv_at hl 4 rfl) ?_
              refine lv_aload_n hx hb dX1_advance_163 rfl (lv_at hl 4 rfl) ?_
              refine lv_aload_n hx hb dX1_advance_164 rfl (lv_at hl 2 rfl) ?_
              refine lv_iload hx hb dX1_advance_165 (lv_at hl 0 rfl) ?_
              obtain ⟨z19, h19, h⟩ := ob_some h
              refine k_i (va_runV (As := [.ref (ad b5), .int z8]) (rest := [.ref (ad a0)]) ⟨hx, hb, hml, hown, hts⟩ (c_X1_laid (l := l) (pI z16.2 a0 2 3) a0 b5 z8 k0 kb5 h19) (cwV 2 hts gX1_advance_X1_laid rfl rfl rfl hdV_X1_laid ⟨Nat.le_of_ble_eq_true rfl, Nat.le_of_ble_eq_true rfl⟩) (pV (T := TX1) hP hK hD hT hG hS k0 (by decide) rfl) rfl rfl hl.1 rfl (lv_room (Nat.le_of_ble_eq_true rfl)) dX1_advance_167 ⟨Nat.zero_le _, Nat.zero_le _⟩) hS (fun H locs hP hD hT hS => ?_)
              refine r_putI (T := TX1) (ty := .int) (v := z19.1) hx hb hts in1 tyX1 tyX1_ok nmX1 hown hK hP hD hT hS k0 (by decide) rfl 10 (by decide) (hts (.fieldLink RX1 43 "StoneWalk$Journey" "lie" "I") (List.mem_of_getElem? (i := 11) (by decide +kernel))) rfl rfl (tyX1_ok 10 (by decide)) rfl rfl rfl dX1_advance_170 (fun H locs hP hD hT hS => ?_)
              refine lv_goto (tgt := 207) hx hb dX1_advance_173 rfl ?_
              refine lv_aload_n hx hb dX1_advance_207 rfl (lv_at hl 4 rfl) ?_
              refine r_get (T := TX1) (v := .int (gI (pI z19.2 a0 10 z19.1) a0 2)) hx hb hts in1 hown hK hP k0 (by decide) rfl 2 (by decide) (hts (.fieldLink RX1 19 "StoneWalk$Journey" "told" "I") (List.mem_of_getElem? (i := 4) (by decide +kernel))) rfl (t := 0) rfl rfl dX1_advance_208 ?_
              have hZ := Option.some.inj h
              have hZ1 := congrArg Prod.fst hZ
              have hZ2 := congrArg Prod.snd hZ
              exact r_iret hx hb hr hlocks hP hK hD hT hG hS hZ1 hZ2 dX1_advance_211
          · replace h := ite_f c12 h
            refine lv_aload_n hx hb dX1_advance_92 rfl (lv_at hl 4 rfl) ?_
            refine lv_iconst (v := 5) hx hb dX1_advance_93 rfl ?_
            refine r_putI (T := TX1) (ty := .int) (v := 5) hx hb hts in1 tyX1 tyX1_ok nmX1 hown hK hP hD hT hS k0 (by decide) rfl 2 (by decide) (hts (.fieldLink RX1 19 "StoneWalk$Journey" "told" "I") (List.mem_of_getElem? (i := 4) (by decide +kernel))) rfl rfl (tyX1_ok 2 (by decide)) rfl rfl rfl dX1_advance_94 (fun H locs hP hD hT hS => ?_)
            refine lv_goto (tgt := 207) hx hb dX1_advance_97 rfl ?_
            refine lv_aload_n hx hb dX1_advance_207 rfl (lv_at hl 4 rfl) ?_
            refine r_get (T := TX1) (v := .int (gI (pI M a0 2 5) a0 2)) hx hb hts in1 hown hK hP k0 (by decide) rfl 2 (by decide) (hts (.fieldLink RX1 19 "StoneWalk$Journey" "told" "I") (List.mem_of_getElem? (i := 4) (by decide +kernel))) rfl (t := 0) rfl rfl dX1_advance_208 ?_
            have hZ := Option.some.inj h
            have hZ1 := congrArg Prod.fst hZ
            have hZ2 := congrArg Prod.snd hZ
            exact r_iret hx hb hr hlocks hP hK hD hT hG hS hZ1 hZ2 dX1_advance_211
        · replace h := ite_t c10 h
          refine lv_aload_n hx hb dX1_advance_67 rfl (lv_at hl 4 rfl) ?_
          refine lv_iconst (v := 4) hx hb dX1_advance_68 rfl ?_
          refine r_putI (T := TX1) (ty := .int) (v := 4) hx hb hts in1 tyX1 tyX1_ok nmX1 hown hK hP hD hT hS k0 (by decide) rfl 2 (by decide) (hts (.fieldLink RX1 19 "StoneWalk$Journey" "told" "I") (List.mem_of_getElem? (i := 4) (by decide +kernel))) rfl rfl (tyX1_ok 2 (by decide)) rfl rfl rfl dX1_advance_69 (fun H locs hP hD hT hS => ?_)
          refine lv_goto (tgt := 207) hx hb dX1_advance_72 rfl ?_
          refine lv_aload_n hx hb dX1_advance_207 rfl (lv_at hl 4 rfl) ?_
          refine r_get (T := TX1) (v := .int (gI (pI M a0 2 4) a0 2)) hx hb hts in1 hown hK hP k0 (by decide) rfl 2 (by decide) (hts (.fieldLink RX1 19 "StoneWalk$Journey" "told" "I") (List.mem_of_getElem? (i := 4) (by decide +kernel))) rfl (t := 0) rfl rfl dX1_advance_208 ?_
          have hZ := Option.some.inj h
          have hZ1 := congrArg Prod.fst hZ
          have hZ2 := congrArg Prod.snd hZ
          exact r_iret hx hb hr hlocks hP hK hD hT hG hS hZ1 hZ2 dX1_advance_211
set_option maxHeartbeats 4000000 in
set_option maxRecDepth 100000 in
theorem c_X1_arrives {l : Launch} {D : va_G} {ad : Nat → Nat} {cy : Nat → ClassId} {A : Nat → Prop} {g : CG} {q : SE} (M : MM) (a0 : Nat) (a1 : Nat) (k0 : ok g a0 1 0) (k1 : ok g a1 0 0) {Z : (Int32 × MM)} (h : f_X1_arrives M a0 a1 = some Z) : Met l yX1_arrives wsX1_arrives ({ frames := 4, cells := 0, slots := 0, locals := 95 }) (va_Pc [.ref (ad a0), .ref (ad a1)] (Wd D ad cy A g q M)) (va_Qi (fun r u => r = Z.1 ∧ u = Z.2 ∧ zb r) (Wd D ad cy A g q) A) 0 0 A := by
  refine Met.ofW (cc := cX1_arrives) (maxL := 3) (ret := (some .boolean)) (by decide) rfl ?_
  intro p e s m args below meth c s₁ B hml hv
  obtain ⟨rfl, hP, hK, hD, hT, hG⟩ := hv
  have hx := B.exec
  have hb := B.bytes
  have hr := B.returns
  have hts := atoms_spec (ws := wsX1_arrives) B.pre
  have hown : s.vm.findClass RX1 = some m.cls := findClass_of_methodNamed B.named
  have hlocks := B.notSynchronized
  have in1 : ∀ w ∈ u_ws RX1 TX1 11, w ∈ wsX1_arrives := fun w h => List.mem_cons_of_mem _ (List.mem_append_left _ (List.mem_append_left _ (List.mem_append_left _ (List.mem_append_left _ (List.mem_append_right _ h)))))
  have hS : va_S A s.heap s.heap [] := va_S.rf
  have hl := lv_entry ([.ref (ad a0), .ref (ad a1)]) (n := 3) (Nat.le_of_ble_eq_true rfl)
  rw [lg_entry_eq]
  generalize (lg_sl ([.ref (ad a0), .ref (ad a1)]) ++ List.replicate (3 - (lg_sl ([.ref (ad a0), .ref (ad a1)])).length) Slot.unset).toArray = ls at hl ⊢
  have hl : lv_has ls 3 [(0, .ref (ad a0)), (1, .ref (ad a1))] := hl
  unfold f_X1_arrives at h
  refine lv_iconst (v := 0) hx hb dX1_arrives_0 rfl ?_
  refine lv_istore_n (lv' := [(2, .int 0), (0, .ref (ad a0)), (1, .ref (ad a1))]) hx hb dX1_arrives_1 rfl hl (by decide) rfl (fun ls hl => ?_)
  have L1 : ∀ n1 : Nat, ∀ (M1 : MM) (y1_0 : Nat) (y1_1 : Nat) (y1_2 : Int32) (ky1_0 : ok g y1_0 1 0) (ky1_1 : ok g y1_1 0 0) (H : Heap) (locs : List Loc), f_X1_arrives_L2 n1 M1 y1_0 y1_1 y1_2 = some Z → va_P D vwCl (wd ad cy g M1) H → va_D A (wd ad cy g M1) → WT g M1 → va_S A s.heap H locs → ∀ (ls : Array Slot), lv_has ls 3 [(0, .ref (ad y1_0)), (1, .ref (ad y1_1)), (2, .int y1_2)] → W p l e ((headSpec wsX1_arrives ({ frames := 4, cells := 0, slots := 0, locals := 95 })).room) s m (([.ref (ad a0), .ref (ad a1)] : List Value).toArray) below meth c H locs 0 0 (MQ below (va_Qi (fun r u => r = Z.1 ∧ u = Z.2 ∧ zb r) (Wd D ad cy A g q) A) ([.ref (ad a0), .ref (ad a1)]).toArray s 0 0 A) (F0 m 2 ls []) := by
    intro n1
    induction n1 with
    | zero => intro M1 y1_0 y1_1 y1_2 ky1_0 ky1_1 H locs h; exact absurd h (by simp [f_X1_arrives_L2])
    | succ n1 ih1 =>
      intro M1 y1_0 y1_1 y1_2 ky1_0 ky1_1 H locs h hP hD hT hS ls hl
      rw [f_X1_arrives_L2] at h
      refine lv_iload_n hx hb dX1_arrives_2 rfl (lv_at hl 2 rfl) ?_
      refine lv_bipush (v := 6) hx hb dX1_arrives_3 rfl ?_
      refine lv_icmp_ge (tgt := 28) hx hb dX1_arrives_5 rfl (fun c2 => ?_) (fun c2 => ?_)
      · replace h := ite_t c2 h
        refine lv_aload_n hx hb dX1_arrives_28 rfl (lv_at hl 0 rfl) ?_
        refine r_get (T := TX1) (v := .int (gI M1 y1_0 2)) hx hb hts in1 hown hK hP ky1_0 (by decide) rfl 2 (by decide) (hts (.fieldLink RX1 19 "StoneWalk$Journey" "told" "I") (List.mem_of_getElem? (i := 1) (by decide +kernel))) rfl (t := 0) rfl rfl dX1_arrives_29 ?_
        refine lv_iconst (v := 2) hx hb dX1_arrives_32 rfl ?_
        refine lv_icmp_ne (tgt := 40) hx hb dX1_arrives_33 rfl (fun c3 => ?_) (fun c3 => ?_)
        · replace h := ite_f c3 h
          refine lv_iconst (v := 0) hx hb dX1_arrives_40 rfl ?_
          have hZ := Option.some.inj h
          have hZ1 := congrArg Prod.fst hZ
          have hZ2 := congrArg Prod.snd hZ
          exact r_zret hx hb hr hlocks hP hK hD hT hG hS zb_0 hZ1 hZ2 dX1_arrives_41
        · replace h := ite_t c3 h
          refine lv_iconst (v := 1) hx hb dX1_arrives_36 rfl ?_
          refine lv_goto (tgt := 41) hx hb dX1_arrives_37 rfl ?_
          have hZ := Option.some.inj h
          have hZ1 := congrArg Prod.fst hZ
          have hZ2 := congrArg Prod.snd hZ
          exact r_zret hx hb hr hlocks hP hK hD hT hG hS zb_1 hZ1 hZ2 dX1_arrives_41
      · replace h := ite_f c2 h
        refine lv_aload_n hx hb dX1_arrives_8 rfl (lv_at hl 0 rfl) ?_
        refine r_get (T := TX1) (v := .int (gI M1 y1_0 2)) hx hb hts in1 hown hK hP ky1_0 (by decide) rfl 2 (by decide) (hts (.fieldLink RX1 19 "StoneWalk$Journey" "told" "I") (List.mem_of_getElem? (i := 1) (by decide +kernel))) rfl (t := 0) rfl rfl dX1_arrives_9 ?_
        refine lv_iconst (v := 1) hx hb dX1_arrives_12 rfl ?_
        refine lv_icmp_ne (tgt := 28) hx hb dX1_arrives_13 rfl (fun c4 => ?_) (fun c4 => ?_)
        · replace h := ite_f c4 h
          refine lv_aload_n hx hb dX1_arrives_28 rfl (lv_at hl 0 rfl) ?_
          refine r_get (T := TX1) (v := .int (gI M1 y1_0 2)) hx hb hts in1 hown hK hP ky1_0 (by decide) rfl 2 (by decide) (hts (.fieldLink RX1 19 "StoneWalk$Journey" "told" "I") (List.mem_of_getElem? (i := 1) (by decide +kernel))) rfl (t := 0) rfl rfl dX1_arrives_29 ?_
          refine lv_iconst (v := 2) hx hb dX1_arrives_32 rfl ?_
          refine lv_icmp_ne (tgt := 40) hx hb dX1_arrives_33 rfl (fun c5 => ?_) (fun c5 => ?_)
          · replace h := ite_f c5 h
            refine lv_iconst (v := 0) hx hb dX1_arrives_40 rfl ?_
            have hZ := Option.some.inj h
            have hZ1 := congrArg Prod.fst hZ
            have hZ2 := congrArg Prod.snd hZ
            exact r_zret hx hb hr hlocks hP hK hD hT hG hS zb_0 hZ1 hZ2 dX1_arrives_41
          · replace h := ite_t c5 h
            refine lv_iconst (v := 1) hx hb dX1_arrives_36 rfl ?_
            refine lv_goto (tgt := 41) hx hb dX1_arrives_37 rfl ?_
            have hZ := Option.some.inj h
            have hZ1 := congrArg Prod.fst hZ
            have hZ2 := congrArg Prod.snd hZ
            exact r_zret hx hb hr hlocks hP hK hD hT hG hS zb_1 hZ1 hZ2 dX1_arrives_41
        · replace h := ite_t c4 h
          refine lv_aload_n hx hb dX1_arrives_16 rfl (lv_at hl 0 rfl) ?_
          refine lv_aload_n hx hb dX1_arrives_17 rfl (lv_at hl 1 rfl) ?_
          obtain ⟨z6, h6, h⟩ := ob_some h
          refine k_i (va_runV (As := [.ref (ad y1_1)]) (rest := []) ⟨hx, hb, hml, hown, hts⟩ (c_X1_advance (l := l) M1 y1_0 y1_1 ky1_0 ky1_1 h6) (cwV 1 hts gX1_arrives_X1_advance rfl rfl rfl hdV_X1_advance ⟨Nat.le_of_ble_eq_true rfl, Nat.le_of_ble_eq_true rfl⟩) (pV (T := TX1) hP hK hD hT hG hS ky1_0 (by decide) rfl) rfl rfl hl.1 rfl (lv_room (Nat.le_of_ble_eq_true rfl)) dX1_arrives_18 ⟨Nat.zero_le _, Nat.zero_le _⟩) hS (fun H locs hP hD hT hS => ?_)
          refine lv_pop hx hb dX1_arrives_21 rfl ?_
          refine lv_iinc (v := y1_2 + 1) (lv' := [(2, .int (y1_2 + 1)), (0, .ref (ad y1_0)), (1, .ref (ad y1_1))]) hx hb dX1_arrives_22 hl (k := 2) rfl rfl (by decide) rfl (fun ls hl => ?_)
          refine lv_goto (tgt := 2) hx hb dX1_arrives_25 rfl ?_
          exact ih1 z6.2 y1_0 y1_1 (y1_2 + 1) ky1_0 ky1_1 _ _ h hP hD hT hS ls (lv_sub hl [1, 2, 0] rfl)
  exact L1 FU M a0 a1 0 k0 k1 _ _ h hP hD hT hS ls (lv_sub hl [1, 2, 0] rfl)
set_option maxHeartbeats 4000000 in
set_option maxRecDepth 100000 in
theorem c_X1_report {l : Launch} {D : va_G} {ad : Nat → Nat} {cy : Nat → ClassId} {A : Nat → Prop} {g : CG} {q : SE} (M : MM) (a0 : Nat) (x1 : Int32) (k0 : ok g a0 1 0) {Z : Int32} (h : f_X1_report M a0 x1 = some Z) : Met l yX1_report wsX1_report ({ frames := 0, cells := 0, slots := 0, locals := 0 }) (va_Pc [.ref (ad a0), .int x1] (Wd D ad cy A g q M)) (va_Qi (fun r u => r = Z ∧ u = M) (Wd D ad cy A g q) A) 0 0 A := by
  refine Met.ofW (cc := cX1_report) (maxL := 2) (ret := (some .int)) (by decide) rfl ?_
  intro p e s m args below meth c s₁ B hml hv
  obtain ⟨rfl, hP, hK, hD, hT, hG⟩ := hv
  have hx := B.exec
  have hb := B.bytes
  have hr := B.returns
  have hts := atoms_spec (ws := wsX1_report) B.pre
  have hown : s.vm.findClass RX1 = some m.cls := findClass_of_methodNamed B.named
  have hlocks := B.notSynchronized
  have in1 : ∀ w ∈ u_ws RX1 TX1 11, w ∈ wsX1_report := fun w h => List.mem_cons_of_mem _ (List.mem_append_right _ h)
  have hS : va_S A s.heap s.heap [] := va_S.rf
  have hl := lv_entry ([.ref (ad a0), .int x1]) (n := 2) (Nat.le_of_ble_eq_true rfl)
  rw [lg_entry_eq]
  generalize (lg_sl ([.ref (ad a0), .int x1]) ++ List.replicate (2 - (lg_sl ([.ref (ad a0), .int x1])).length) Slot.unset).toArray = ls at hl ⊢
  have hl : lv_has ls 2 [(0, .ref (ad a0)), (1, .int x1)] := hl
  unfold f_X1_report at h
  refine lv_iload_n hx hb dX1_report_0 rfl (lv_at hl 1 rfl) ?_
  by_cases c1_0 : x1 = 0
  · replace h := ite_t c1_0 h
    refine lv_tableIn (tgt := 48) (off := 47) hx hb dX1_report_1 (by rw [c1_0]; decide) (by rw [c1_0]; decide) (by rw [c1_0]; decide) rfl ?_
    refine lv_aload_n hx hb dX1_report_48 rfl (lv_at hl 0 rfl) ?_
    refine r_get (T := TX1) (v := .int (gI M a0 2)) hx hb hts in1 hown hK hP k0 (by decide) rfl 2 (by decide) (hts (.fieldLink RX1 19 "StoneWalk$Journey" "told" "I") (List.mem_of_getElem? (i := 1) (by decide +kernel))) rfl (t := 0) rfl rfl dX1_report_49 ?_
    exact r_iret hx hb hr hlocks hP hK hD hT hG hS (Option.some.inj h) rfl dX1_report_52
  · replace h := ite_f c1_0 h
    by_cases c1_1 : x1 = 1
    · replace h := ite_t c1_1 h
      refine lv_tableIn (tgt := 53) (off := 52) hx hb dX1_report_1 (by rw [c1_1]; decide) (by rw [c1_1]; decide) (by rw [c1_1]; decide) rfl ?_
      refine lv_aload_n hx hb dX1_report_53 rfl (lv_at hl 0 rfl) ?_
      refine r_get (T := TX1) (v := .int (gI M a0 7)) hx hb hts in1 hown hK hP k0 (by decide) rfl 7 (by decide) (hts (.fieldLink RX1 34 "StoneWalk$Journey" "place" "I") (List.mem_of_getElem? (i := 2) (by decide +kernel))) rfl (t := 0) rfl rfl dX1_report_54 ?_
      exact r_iret hx hb hr hlocks hP hK hD hT hG hS (Option.some.inj h) rfl dX1_report_57
    · replace h := ite_f c1_1 h
      by_cases c1_2 : x1 = 2
      · replace h := ite_t c1_2 h
        refine lv_tableIn (tgt := 58) (off := 57) hx hb dX1_report_1 (by rw [c1_2]; decide) (by rw [c1_2]; decide) (by rw [c1_2]; decide) rfl ?_
        refine lv_aload_n hx hb dX1_report_58 rfl (lv_at hl 0 rfl) ?_
        refine r_get (T := TX1) (v := .int (gI M a0 8)) hx hb hts in1 hown hK hP k0 (by decide) rfl 8 (by decide) (hts (.fieldLink RX1 37 "StoneWalk$Journey" "minutes" "I") (List.mem_of_getElem? (i := 3) (by decide +kernel))) rfl (t := 0) rfl rfl dX1_report_59 ?_
        exact r_iret hx hb hr hlocks hP hK hD hT hG hS (Option.some.inj h) rfl dX1_report_62
      · replace h := ite_f c1_2 h
        by_cases c1_3 : x1 = 3
        · replace h := ite_t c1_3 h
          refine lv_tableIn (tgt := 63) (off := 62) hx hb dX1_report_1 (by rw [c1_3]; decide) (by rw [c1_3]; decide) (by rw [c1_3]; decide) rfl ?_
          refine lv_aload_n hx hb dX1_report_63 rfl (lv_at hl 0 rfl) ?_
          refine r_get (T := TX1) (v := .int (gI M a0 9)) hx hb hts in1 hown hK hP k0 (by decide) rfl 9 (by decide) (hts (.fieldLink RX1 40 "StoneWalk$Journey" "wood" "I") (List.mem_of_getElem? (i := 4) (by decide +kernel))) rfl (t := 0) rfl rfl dX1_report_64 ?_
          exact r_iret hx hb hr hlocks hP hK hD hT hG hS (Option.some.inj h) rfl dX1_report_67
        · replace h := ite_f c1_3 h
          by_cases c1_4 : x1 = 4
          · replace h := ite_t c1_4 h
            refine lv_tableIn (tgt := 68) (off := 67) hx hb dX1_report_1 (by rw [c1_4]; decide) (by rw [c1_4]; decide) (by rw [c1_4]; decide) rfl ?_
            refine lv_aload_n hx hb dX1_report_68 rfl (lv_at hl 0 rfl) ?_
            refine r_get (T := TX1) (v := .int (gI M a0 10)) hx hb hts in1 hown hK hP k0 (by decide) rfl 10 (by decide) (hts (.fieldLink RX1 43 "StoneWalk$Journey" "lie" "I") (List.mem_of_getElem? (i := 5) (by decide +kernel))) rfl (t := 0) rfl rfl dX1_report_69 ?_
            exact r_iret hx hb hr hlocks hP hK hD hT hG hS (Option.some.inj h) rfl dX1_report_72
          · replace h := ite_f c1_4 h
            by_cases c1_5 : x1 = 5
            · replace h := ite_t c1_5 h
              refine lv_tableIn (tgt := 73) (off := 72) hx hb dX1_report_1 (by rw [c1_5]; decide) (by rw [c1_5]; decide) (by rw [c1_5]; decide) rfl ?_
              refine lv_aload_n hx hb dX1_report_73 rfl (lv_at hl 0 rfl) ?_
              refine r_get (T := TX1) (v := .int (gI M a0 4)) hx hb hts in1 hown hK hP k0 (by decide) rfl 4 (by decide) (hts (.fieldLink RX1 22 "StoneWalk$Journey" "statue" "I") (List.mem_of_getElem? (i := 6) (by decide +kernel))) rfl (t := 0) rfl rfl dX1_report_74 ?_
              exact r_iret hx hb hr hlocks hP hK hD hT hG hS (Option.some.inj h) rfl dX1_report_77
            · replace h := ite_f c1_5 h
              by_cases c1_6 : x1 = 6
              · replace h := ite_t c1_6 h
                refine lv_tableIn (tgt := 78) (off := 77) hx hb dX1_report_1 (by rw [c1_6]; decide) (by rw [c1_6]; decide) (by rw [c1_6]; decide) rfl ?_
                refine lv_aload_n hx hb dX1_report_78 rfl (lv_at hl 0 rfl) ?_
                refine r_get (T := TX1) (v := .int (gI M a0 5)) hx hb hts in1 hown hK hP k0 (by decide) rfl 5 (by decide) (hts (.fieldLink RX1 25 "StoneWalk$Journey" "way" "I") (List.mem_of_getElem? (i := 7) (by decide +kernel))) rfl (t := 0) rfl rfl dX1_report_79 ?_
                exact r_iret hx hb hr hlocks hP hK hD hT hG hS (Option.some.inj h) rfl dX1_report_82
              · replace h := ite_f c1_6 h
                by_cases c1_7 : x1 = 7
                · replace h := ite_t c1_7 h
                  refine lv_tableIn (tgt := 83) (off := 82) hx hb dX1_report_1 (by rw [c1_7]; decide) (by rw [c1_7]; decide) (by rw [c1_7]; decide) rfl ?_
                  refine lv_aload_n hx hb dX1_report_83 rfl (lv_at hl 0 rfl) ?_
                  refine r_get (T := TX1) (v := .int (gI M a0 6)) hx hb hts in1 hown hK hP k0 (by decide) rfl 6 (by decide) (hts (.fieldLink RX1 28 "StoneWalk$Journey" "road" "I") (List.mem_of_getElem? (i := 8) (by decide +kernel))) rfl (t := 0) rfl rfl dX1_report_84 ?_
                  exact r_iret hx hb hr hlocks hP hK hD hT hG hS (Option.some.inj h) rfl dX1_report_87
                · replace h := ite_f c1_7 h
                  refine lv_tableOut (tgt := 88) hx hb dX1_report_1 (by
                      have e0 := lv_neT (a := 0) c1_0 rfl
                      have e1 := lv_neT (a := 1) c1_1 rfl
                      have e2 := lv_neT (a := 2) c1_2 rfl
                      have e3 := lv_neT (a := 3) c1_3 rfl
                      have e4 := lv_neT (a := 4) c1_4 rfl
                      have e5 := lv_neT (a := 5) c1_5 rfl
                      have e6 := lv_neT (a := 6) c1_6 rfl
                      have e7 := lv_neT (a := 7) c1_7 rfl
                      omega) rfl ?_
                  refine lv_aload_n hx hb dX1_report_88 rfl (lv_at hl 0 rfl) ?_
                  refine r_get (T := TX1) (v := .int (gI M a0 3)) hx hb hts in1 hown hK hP k0 (by decide) rfl 3 (by decide) (hts (.fieldLink RX1 31 "StoneWalk$Journey" "people" "I") (List.mem_of_getElem? (i := 9) (by decide +kernel))) rfl (t := 0) rfl rfl dX1_report_89 ?_
                  exact r_iret hx hb hr hlocks hP hK hD hT hG hS (Option.some.inj h) rfl dX1_report_92
set_option maxHeartbeats 4000000 in
set_option maxRecDepth 100000 in
theorem c_X1_toImage {l : Launch} {D : va_G} {ad : Nat → Nat} {cy : Nat → ClassId} {A : Nat → Prop} {g : CG} {q : SE} (M : MM) (a0 : Nat) (k0 : ok g a0 1 0) {Z : Int64} (h : f_X1_toImage M a0 = some Z) : Met l yX1_toImage wsX1_toImage ({ frames := 0, cells := 0, slots := 0, locals := 0 }) (va_Pc [.ref (ad a0)] (Wd D ad cy A g q M)) (va_Ql (fun r u => r = Z ∧ u = M) (Wd D ad cy A g q) A) 0 0 A := by
  refine Met.ofW (cc := cX1_toImage) (maxL := 3) (ret := (some .long)) (by decide) rfl ?_
  intro p e s m args below meth c s₁ B hml hv
  obtain ⟨rfl, hP, hK, hD, hT, hG⟩ := hv
  have hx := B.exec
  have hb := B.bytes
  have hr := B.returns
  have hts := atoms_spec (ws := wsX1_toImage) B.pre
  have hown : s.vm.findClass RX1 = some m.cls := findClass_of_methodNamed B.named
  have hlocks := B.notSynchronized
  have in1 : ∀ w ∈ u_ws RX1 TX1 11, w ∈ wsX1_toImage := fun w h => List.mem_cons_of_mem _ (List.mem_append_right _ h)
  have hS : va_S A s.heap s.heap [] := va_S.rf
  have hl := lv_entry ([.ref (ad a0)]) (n := 3) (Nat.le_of_ble_eq_true rfl)
  rw [lg_entry_eq]
  generalize (lg_sl ([.ref (ad a0)]) ++ List.replicate (3 - (lg_sl ([.ref (ad a0)])).length) Slot.unset).toArray = ls at hl ⊢
  have hl : lv_has ls 3 [(0, .ref (ad a0))] := hl
  unfold f_X1_toImage at h
  refine lv_aload_n hx hb dX1_toImage_0 rfl (lv_at hl 0 rfl) ?_
  refine r_get (T := TX1) (v := .int (gI M a0 0)) hx hb hts in1 hown hK hP k0 (by decide) rfl 0 (by decide) (hts (.fieldLink RX1 15 "StoneWalk$Journey" "seed" "I") (List.mem_of_getElem? (i := 1) (by decide +kernel))) rfl (t := 0) rfl rfl dX1_toImage_1 ?_
  refine lv_i2l hx hb dX1_toImage_4 rfl ?_
  refine lv_lstore_n (lv' := [(1, .long ((gI M a0 0).toInt64)), (0, .ref (ad a0))]) hx hb dX1_toImage_5 rfl hl (by decide) rfl (fun ls hl => ?_)
  refine lv_lload_n hx hb dX1_toImage_6 rfl (lv_at hl 0 rfl) ?_
  refine lv_ldc2 hx hb hown (hts (.constantLong RX1 117 (6)) (List.mem_of_getElem? (i := 2) (by decide +kernel))) dX1_toImage_7 ?_
  refine lv_lmul hx hb dX1_toImage_10 ?_
  refine lv_aload_n hx hb dX1_toImage_11 rfl (lv_at hl 1 rfl) ?_
  refine r_get (T := TX1) (v := .int (gI M a0 2)) hx hb hts in1 hown hK hP k0 (by decide) rfl 2 (by decide) (hts (.fieldLink RX1 19 "StoneWalk$Journey" "told" "I") (List.mem_of_getElem? (i := 3) (by decide +kernel))) rfl (t := 0) rfl rfl dX1_toImage_12 ?_
  refine lv_i2l hx hb dX1_toImage_15 rfl ?_
  refine lv_ladd hx hb dX1_toImage_16 ?_
  refine lv_lstore_n (lv' := [(1, .long ((((gI M a0 0).toInt64) * 6) + ((gI M a0 2).toInt64))), (0, .ref (ad a0))]) hx hb dX1_toImage_17 rfl hl (by decide) rfl (fun ls hl => ?_)
  refine lv_lload_n hx hb dX1_toImage_18 rfl (lv_at hl 0 rfl) ?_
  refine lv_ldc2 hx hb hown (hts (.constantLong RX1 119 (7)) (List.mem_of_getElem? (i := 4) (by decide +kernel))) dX1_toImage_19 ?_
  refine lv_lmul hx hb dX1_toImage_22 ?_
  refine lv_aload_n hx hb dX1_toImage_23 rfl (lv_at hl 1 rfl) ?_
  refine r_get (T := TX1) (v := .int (gI M a0 7)) hx hb hts in1 hown hK hP k0 (by decide) rfl 7 (by decide) (hts (.fieldLink RX1 34 "StoneWalk$Journey" "place" "I") (List.mem_of_getElem? (i := 5) (by decide +kernel))) rfl (t := 0) rfl rfl dX1_toImage_24 ?_
  refine lv_i2l hx hb dX1_toImage_27 rfl ?_
  refine lv_ladd hx hb dX1_toImage_28 ?_
  refine lv_lstore_n (lv' := [(1, .long ((((((gI M a0 0).toInt64) * 6) + ((gI M a0 2).toInt64)) * 7) + ((gI M a0 7).toInt64))), (0, .ref (ad a0))]) hx hb dX1_toImage_29 rfl hl (by decide) rfl (fun ls hl => ?_)
  refine lv_lload_n hx hb dX1_toImage_30 rfl (lv_at hl 0 rfl) ?_
  refine lv_ldc2 hx hb hown (hts (.constantLong RX1 121 (541)) (List.mem_of_getElem? (i := 6) (by decide +kernel))) dX1_toImage_31 ?_
  refine lv_lmul hx hb dX1_toImage_34 ?_
  refine lv_aload_n hx hb dX1_toImage_35 rfl (lv_at hl 1 rfl) ?_
  refine r_get (T := TX1) (v := .int (gI M a0 8)) hx hb hts in1 hown hK hP k0 (by decide) rfl 8 (by decide) (hts (.fieldLink RX1 37 "StoneWalk$Journey" "minutes" "I") (List.mem_of_getElem? (i := 7) (by decide +kernel))) rfl (t := 0) rfl rfl dX1_toImage_36 ?_
  refine lv_i2l hx hb dX1_toImage_39 rfl ?_
  refine lv_ladd hx hb dX1_toImage_40 ?_
  refine lv_lstore_n (lv' := [(1, .long ((((((((gI M a0 0).toInt64) * 6) + ((gI M a0 2).toInt64)) * 7) + ((gI M a0 7).toInt64)) * 541) + ((gI M a0 8).toInt64))), (0, .ref (ad a0))]) hx hb dX1_toImage_41 rfl hl (by decide) rfl (fun ls hl => ?_)
  refine lv_lload_n hx hb dX1_toImage_42 rfl (lv_at hl 0 rfl) ?_
  refine lv_ldc2 hx hb hown (hts (.constantLong RX1 123 (4)) (List.mem_of_getElem? (i := 8) (by decide +kernel))) dX1_toImage_43 ?_
  refine lv_lmul hx hb dX1_toImage_46 ?_
  refine lv_aload_n hx hb dX1_toImage_47 rfl (lv_at hl 1 rfl) ?_
  refine r_get (T := TX1) (v := .int (gI M a0 2)) hx hb hts in1 hown hK hP k0 (by decide) rfl 2 (by decide) (hts (.fieldLink RX1 19 "StoneWalk$Journey" "told" "I") (List.mem_of_getElem? (i := 3) (by decide +kernel))) rfl (t := 0) rfl rfl dX1_toImage_48 ?_
  refine lv_iconst (v := 3) hx hb dX1_toImage_51 rfl ?_
  refine lv_icmp_ne (tgt := 62) hx hb dX1_toImage_52 rfl (fun c1 => ?_) (fun c1 => ?_)
  · replace h := ite_f c1 h
    refine lv_iconst (v := 3) hx hb dX1_toImage_62 rfl ?_
    refine lv_i2l hx hb dX1_toImage_63 rfl ?_
    refine lv_ladd hx hb dX1_toImage_64 ?_
    refine lv_lstore_n (lv' := [(1, .long ((((((((((gI M a0 0).toInt64) * 6) + ((gI M a0 2).toInt64)) * 7) + ((gI M a0 7).toInt64)) * 541) + ((gI M a0 8).toInt64)) * 4) + ((3 : Int32).toInt64))), (0, .ref (ad a0))]) hx hb dX1_toImage_65 rfl hl (by decide) rfl (fun ls hl => ?_)
    refine lv_lload_n hx hb dX1_toImage_66 rfl (lv_at hl 0 rfl) ?_
    refine lv_ldc2 hx hb hown (hts (.constantLong RX1 125 (10)) (List.mem_of_getElem? (i := 10) (by decide +kernel))) dX1_toImage_67 ?_
    refine lv_lmul hx hb dX1_toImage_70 ?_
    refine lv_aload_n hx hb dX1_toImage_71 rfl (lv_at hl 1 rfl) ?_
    refine r_get (T := TX1) (v := .int (gI M a0 4)) hx hb hts in1 hown hK hP k0 (by decide) rfl 4 (by decide) (hts (.fieldLink RX1 22 "StoneWalk$Journey" "statue" "I") (List.mem_of_getElem? (i := 11) (by decide +kernel))) rfl (t := 0) rfl rfl dX1_toImage_72 ?_
    refine lv_i2l hx hb dX1_toImage_75 rfl ?_
    refine lv_ladd hx hb dX1_toImage_76 ?_
    refine lv_lstore_n (lv' := [(1, .long ((((((((((((gI M a0 0).toInt64) * 6) + ((gI M a0 2).toInt64)) * 7) + ((gI M a0 7).toInt64)) * 541) + ((gI M a0 8).toInt64)) * 4) + ((3 : Int32).toInt64)) * 10) + ((gI M a0 4).toInt64))), (0, .ref (ad a0))]) hx hb dX1_toImage_77 rfl hl (by decide) rfl (fun ls hl => ?_)
    refine lv_lload_n hx hb dX1_toImage_78 rfl (lv_at hl 0 rfl) ?_
    refine lv_ldc2 hx hb hown (hts (.constantLong RX1 123 (4)) (List.mem_of_getElem? (i := 8) (by decide +kernel))) dX1_toImage_79 ?_
    refine lv_lmul hx hb dX1_toImage_82 ?_
    refine lv_aload_n hx hb dX1_toImage_83 rfl (lv_at hl 1 rfl) ?_
    refine r_get (T := TX1) (v := .int (gI M a0 5)) hx hb hts in1 hown hK hP k0 (by decide) rfl 5 (by decide) (hts (.fieldLink RX1 25 "StoneWalk$Journey" "way" "I") (List.mem_of_getElem? (i := 12) (by decide +kernel))) rfl (t := 0) rfl rfl dX1_toImage_84 ?_
    refine lv_i2l hx hb dX1_toImage_87 rfl ?_
    refine lv_ladd hx hb dX1_toImage_88 ?_
    refine lv_lstore_n (lv' := [(1, .long ((((((((((((((gI M a0 0).toInt64) * 6) + ((gI M a0 2).toInt64)) * 7) + ((gI M a0 7).toInt64)) * 541) + ((gI M a0 8).toInt64)) * 4) + ((3 : Int32).toInt64)) * 10) + ((gI M a0 4).toInt64)) * 4) + ((gI M a0 5).toInt64))), (0, .ref (ad a0))]) hx hb dX1_toImage_89 rfl hl (by decide) rfl (fun ls hl => ?_)
    refine lv_lload_n hx hb dX1_toImage_90 rfl (lv_at hl 0 rfl) ?_
    refine lv_ldc2 hx hb hown (hts (.constantLong RX1 127 (3)) (List.mem_of_getElem? (i := 13) (by decide +kernel))) dX1_toImage_91 ?_
    refine lv_lmul hx hb dX1_toImage_94 ?_
    refine lv_aload_n hx hb dX1_toImage_95 rfl (lv_at hl 1 rfl) ?_
    refine r_get (T := TX1) (v := .int (gI M a0 6)) hx hb hts in1 hown hK hP k0 (by decide) rfl 6 (by decide) (hts (.fieldLink RX1 28 "StoneWalk$Journey" "road" "I") (List.mem_of_getElem? (i := 14) (by decide +kernel))) rfl (t := 0) rfl rfl dX1_toImage_96 ?_
    refine lv_i2l hx hb dX1_toImage_99 rfl ?_
    refine lv_ladd hx hb dX1_toImage_100 ?_
    refine lv_lstore_n (lv' := [(1, .long ((((((((((((((((gI M a0 0).toInt64) * 6) + ((gI M a0 2).toInt64)) * 7) + ((gI M a0 7).toInt64)) * 541) + ((gI M a0 8).toInt64)) * 4) + ((3 : Int32).toInt64)) * 10) + ((gI M a0 4).toInt64)) * 4) + ((gI M a0 5).toInt64)) * 3) + ((gI M a0 6).toInt64))), (0, .ref (ad a0))]) hx hb dX1_toImage_101 rfl hl (by decide) rfl (fun ls hl => ?_)
    refine lv_lload_n hx hb dX1_toImage_102 rfl (lv_at hl 0 rfl) ?_
    refine lv_ldc2 hx hb hown (hts (.constantLong RX1 129 (201)) (List.mem_of_getElem? (i := 15) (by decide +kernel))) dX1_toImage_103 ?_
    refine lv_lmul hx hb dX1_toImage_106 ?_
    refine lv_aload_n hx hb dX1_toImage_107 rfl (lv_at hl 1 rfl) ?_
    refine r_get (T := TX1) (v := .int (gI M a0 3)) hx hb hts in1 hown hK hP k0 (by decide) rfl 3 (by decide) (hts (.fieldLink RX1 31 "StoneWalk$Journey" "people" "I") (List.mem_of_getElem? (i := 16) (by decide +kernel))) rfl (t := 0) rfl rfl dX1_toImage_108 ?_
    refine lv_i2l hx hb dX1_toImage_111 rfl ?_
    refine lv_ladd hx hb dX1_toImage_112 ?_
    exact r_lret hx hb hr hlocks hP hK hD hT hG hS (Option.some.inj h) rfl dX1_toImage_113
  · replace h := ite_t c1 h
    refine lv_aload_n hx hb dX1_toImage_55 rfl (lv_at hl 1 rfl) ?_
    refine r_get (T := TX1) (v := .int (gI M a0 10)) hx hb hts in1 hown hK hP k0 (by decide) rfl 10 (by decide) (hts (.fieldLink RX1 43 "StoneWalk$Journey" "lie" "I") (List.mem_of_getElem? (i := 9) (by decide +kernel))) rfl (t := 0) rfl rfl dX1_toImage_56 ?_
    refine lv_goto (tgt := 63) hx hb dX1_toImage_59 rfl ?_
    refine lv_i2l hx hb dX1_toImage_63 rfl ?_
    refine lv_ladd hx hb dX1_toImage_64 ?_
    refine lv_lstore_n (lv' := [(1, .long ((((((((((gI M a0 0).toInt64) * 6) + ((gI M a0 2).toInt64)) * 7) + ((gI M a0 7).toInt64)) * 541) + ((gI M a0 8).toInt64)) * 4) + ((gI M a0 10).toInt64))), (0, .ref (ad a0))]) hx hb dX1_toImage_65 rfl hl (by decide) rfl (fun ls hl => ?_)
    refine lv_lload_n hx hb dX1_toImage_66 rfl (lv_at hl 0 rfl) ?_
    refine lv_ldc2 hx hb hown (hts (.constantLong RX1 125 (10)) (List.mem_of_getElem? (i := 10) (by decide +kernel))) dX1_toImage_67 ?_
    refine lv_lmul hx hb dX1_toImage_70 ?_
    refine lv_aload_n hx hb dX1_toImage_71 rfl (lv_at hl 1 rfl) ?_
    refine r_get (T := TX1) (v := .int (gI M a0 4)) hx hb hts in1 hown hK hP k0 (by decide) rfl 4 (by decide) (hts (.fieldLink RX1 22 "StoneWalk$Journey" "statue" "I") (List.mem_of_getElem? (i := 11) (by decide +kernel))) rfl (t := 0) rfl rfl dX1_toImage_72 ?_
    refine lv_i2l hx hb dX1_toImage_75 rfl ?_
    refine lv_ladd hx hb dX1_toImage_76 ?_
    refine lv_lstore_n (lv' := [(1, .long ((((((((((((gI M a0 0).toInt64) * 6) + ((gI M a0 2).toInt64)) * 7) + ((gI M a0 7).toInt64)) * 541) + ((gI M a0 8).toInt64)) * 4) + ((gI M a0 10).toInt64)) * 10) + ((gI M a0 4).toInt64))), (0, .ref (ad a0))]) hx hb dX1_toImage_77 rfl hl (by decide) rfl (fun ls hl => ?_)
    refine lv_lload_n hx hb dX1_toImage_78 rfl (lv_at hl 0 rfl) ?_
    refine lv_ldc2 hx hb hown (hts (.constantLong RX1 123 (4)) (List.mem_of_getElem? (i := 8) (by decide +kernel))) dX1_toImage_79 ?_
    refine lv_lmul hx hb dX1_toImage_82 ?_
    refine lv_aload_n hx hb dX1_toImage_83 rfl (lv_at hl 1 rfl) ?_
    refine r_get (T := TX1) (v := .int (gI M a0 5)) hx hb hts in1 hown hK hP k0 (by decide) rfl 5 (by decide) (hts (.fieldLink RX1 25 "StoneWalk$Journey" "way" "I") (List.mem_of_getElem? (i := 12) (by decide +kernel))) rfl (t := 0) rfl rfl dX1_toImage_84 ?_
    refine lv_i2l hx hb dX1_toImage_87 rfl ?_
    refine lv_ladd hx hb dX1_toImage_88 ?_
    refine lv_lstore_n (lv' := [(1, .long ((((((((((((((gI M a0 0).toInt64) * 6) + ((gI M a0 2).toInt64)) * 7) + ((gI M a0 7).toInt64)) * 541) + ((gI M a0 8).toInt64)) * 4) + ((gI M a0 10).toInt64)) * 10) + ((gI M a0 4).toInt64)) * 4) + ((gI M a0 5).toInt64))), (0, .ref (ad a0))]) hx hb dX1_toImage_89 rfl hl (by decide) rfl (fun ls hl => ?_)
    refine lv_lload_n hx hb dX1_toImage_90 rfl (lv_at hl 0 rfl) ?_
    refine lv_ldc2 hx hb hown (hts (.constantLong RX1 127 (3)) (List.mem_of_getElem? (i := 13) (by decide +kernel))) dX1_toImage_91 ?_
    refine lv_lmul hx hb dX1_toImage_94 ?_
    refine lv_aload_n hx hb dX1_toImage_95 rfl (lv_at hl 1 rfl) ?_
    refine r_get (T := TX1) (v := .int (gI M a0 6)) hx hb hts in1 hown hK hP k0 (by decide) rfl 6 (by decide) (hts (.fieldLink RX1 28 "StoneWalk$Journey" "road" "I") (List.mem_of_getElem? (i := 14) (by decide +kernel))) rfl (t := 0) rfl rfl dX1_toImage_96 ?_
    refine lv_i2l hx hb dX1_toImage_99 rfl ?_
    refine lv_ladd hx hb dX1_toImage_100 ?_
    refine lv_lstore_n (lv' := [(1, .long ((((((((((((((((gI M a0 0).toInt64) * 6) + ((gI M a0 2).toInt64)) * 7) + ((gI M a0 7).toInt64)) * 541) + ((gI M a0 8).toInt64)) * 4) + ((gI M a0 10).toInt64)) * 10) + ((gI M a0 4).toInt64)) * 4) + ((gI M a0 5).toInt64)) * 3) + ((gI M a0 6).toInt64))), (0, .ref (ad a0))]) hx hb dX1_toImage_101 rfl hl (by decide) rfl (fun ls hl => ?_)
    refine lv_lload_n hx hb dX1_toImage_102 rfl (lv_at hl 0 rfl) ?_
    refine lv_ldc2 hx hb hown (hts (.constantLong RX1 129 (201)) (List.mem_of_getElem? (i := 15) (by decide +kernel))) dX1_toImage_103 ?_
    refine lv_lmul hx hb dX1_toImage_106 ?_
    refine lv_aload_n hx hb dX1_toImage_107 rfl (lv_at hl 1 rfl) ?_
    refine r_get (T := TX1) (v := .int (gI M a0 3)) hx hb hts in1 hown hK hP k0 (by decide) rfl 3 (by decide) (hts (.fieldLink RX1 31 "StoneWalk$Journey" "people" "I") (List.mem_of_getElem? (i := 16) (by decide +kernel))) rfl (t := 0) rfl rfl dX1_toImage_108 ?_
    refine lv_i2l hx hb dX1_toImage_111 rfl ?_
    refine lv_ladd hx hb dX1_toImage_112 ?_
    exact r_lret hx hb hr hlocks hP hK hD hT hG hS (Option.some.inj h) rfl dX1_toImage_113
set_option maxHeartbeats 4000000 in
set_option maxRecDepth 100000 in
theorem c_X1_isOf {l : Launch} {D : va_G} {ad : Nat → Nat} {cy : Nat → ClassId} {A : Nat → Prop} {g : CG} {q : SE} (M : MM) (a0 : Nat) (a1 : Nat) (k0 : ok g a0 1 0) (k1 : ok g a1 0 0) {Z : Int32} (h : f_X1_isOf M a0 a1 = some Z) : Met l yX1_isOf wsX1_isOf ({ frames := 3, cells := 0, slots := 0, locals := 64 }) (va_Pc [.ref (ad a0), .ref (ad a1)] (Wd D ad cy A g q M)) (va_Qi (fun r u => r = Z ∧ u = M ∧ zb r) (Wd D ad cy A g q) A) 0 0 A := by
  refine Met.ofW (cc := cX1_isOf) (maxL := 5) (ret := (some .boolean)) (by decide) rfl ?_
  intro p e s m args below meth c s₁ B hml hv
  obtain ⟨rfl, hP, hK, hD, hT, hG⟩ := hv
  have hx := B.exec
  have hb := B.bytes
  have hr := B.returns
  have hts := atoms_spec (ws := wsX1_isOf) B.pre
  have hown : s.vm.findClass RX1 = some m.cls := findClass_of_methodNamed B.named
  have hlocks := B.notSynchronized
  have in1 : ∀ w ∈ u_ws RX1 TX1 11, w ∈ wsX1_isOf := fun w h => List.mem_cons_of_mem _ (List.mem_append_left _ (List.mem_append_left _ (List.mem_append_right _ h)))
  have in3 : ∀ w ∈ u_ws RX3 TX3 3, w ∈ wsX1_isOf := fun w h => List.mem_cons_of_mem _ (List.mem_append_left _ (List.mem_append_right _ h))
  have hS : va_S A s.heap s.heap [] := va_S.rf
  have hl := lv_entry ([.ref (ad a0), .ref (ad a1)]) (n := 5) (Nat.le_of_ble_eq_true rfl)
  rw [lg_entry_eq]
  generalize (lg_sl ([.ref (ad a0), .ref (ad a1)]) ++ List.replicate (5 - (lg_sl ([.ref (ad a0), .ref (ad a1)])).length) Slot.unset).toArray = ls at hl ⊢
  have hl : lv_has ls 5 [(0, .ref (ad a0)), (1, .ref (ad a1))] := hl
  unfold f_X1_isOf at h
  have J1 : ∀ (y1_0 : Nat) (w1_0 : Int32) (ky1_0 : ok g y1_0 1 0) (H : Heap) (locs : List Loc), f_X1_isOf_J82 M y1_0 w1_0 = some Z → va_P D vwCl (wd ad cy g M) H → va_D A (wd ad cy g M) → WT g M → va_S A s.heap H locs → ∀ (ls : Array Slot), lv_has ls 5 [(0, .ref (ad y1_0))] → W p l e ((headSpec wsX1_isOf ({ frames := 3, cells := 0, slots := 0, locals := 64 })).room) s m (([.ref (ad a0), .ref (ad a1)] : List Value).toArray) below meth c H locs 0 0 (MQ below (va_Qi (fun r u => r = Z ∧ u = M ∧ zb r) (Wd D ad cy A g q) A) ([.ref (ad a0), .ref (ad a1)]).toArray s 0 0 A) (F0 m 82 ls [.int w1_0]) := by
    intro y1_0 w1_0 ky1_0 H locs h hP hD hT hS ls hl
    unfold f_X1_isOf_J82 at h
    have J2 : ∀ (y2_0 : Nat) (y2_3 : Int32) (w2_0 : Int32) (ky2_0 : ok g y2_0 1 0) (H : Heap) (locs : List Loc), f_X1_isOf_J117 M y2_0 y2_3 w2_0 = some Z → va_P D vwCl (wd ad cy g M) H → va_D A (wd ad cy g M) → WT g M → va_S A s.heap H locs → ∀ (ls : Array Slot), lv_has ls 5 [(0, .ref (ad y2_0)), (3, .int y2_3)] → W p l e ((headSpec wsX1_isOf ({ frames := 3, cells := 0, slots := 0, locals := 64 })).room) s m (([.ref (ad a0), .ref (ad a1)] : List Value).toArray) below meth c H locs 0 0 (MQ below (va_Qi (fun r u => r = Z ∧ u = M ∧ zb r) (Wd D ad cy A g q) A) ([.ref (ad a0), .ref (ad a1)]).toArray s 0 0 A) (F0 m 117 ls [.int w2_0]) := by
      intro y2_0 y2_3 w2_0 ky2_0 H locs h hP hD hT hS ls hl
      unfold f_X1_isOf_J117 at h
      refine lv_istore (lv' := [(4, .int w2_0), (0, .ref (ad y2_0)), (3, .int y2_3)]) hx hb dX1_isOf_117 hl (by decide) rfl (fun ls hl => ?_)
      refine lv_aload_n hx hb dX1_isOf_119 rfl (lv_at hl 1 rfl) ?_
      refine r_get (T := TX1) (v := .int (gI M y2_0 3)) hx hb hts in1 hown hK hP ky2_0 (by decide) rfl 3 (by decide) (hts (.fieldLink RX1 31 "StoneWalk$Journey" "people" "I") (List.mem_of_getElem? (i := 8) (by decide +kernel))) rfl (t := 0) rfl rfl dX1_isOf_120 ?_
      obtain ⟨z3, h3, h⟩ := ob_some h
      refine k_z (va_runSN (As := [.int (gI M y2_0 3)]) (rest := []) ⟨hx, hb, hml, hown, hts⟩ (c_X11_isCrowd (l := l) M (gI M y2_0 3) h3) ⟨va_cnB 1 hts gX1_isOf_X11_isCrowd_n144 rfl rfl rfl (hG.2.1 _ (List.mem_of_getElem? (i := 11) rfl)) (hts (.initialized RX11) (List.mem_of_getElem? (i := 25) (by decide +kernel))) hdS_X11_isCrowd ⟨Nat.le_of_ble_eq_true rfl, Nat.le_of_ble_eq_true rfl⟩, (hts (.static yX11_isCrowd) (List.mem_of_getElem? (i := 27) (by decide +kernel))), trivial⟩ (pS hP hK hD hT hG hS) rfl rfl hl.1 rfl (lv_room (Nat.le_of_ble_eq_true rfl)) dX1_isOf_123 ⟨Nat.zero_le _, Nat.zero_le _⟩) hS (fun H locs hz3 hP hD hT hS => ?_)
      refine lv_if_eq (tgt := 150) hx hb dX1_isOf_126 rfl (fun c4 => ?_) (fun c4 => ?_)
      · replace h := ite_t c4 h
        refine lv_iconst (v := 0) hx hb dX1_isOf_150 rfl ?_
        exact r_zret hx hb hr hlocks hP hK hD hT hG hS zb_0 (Option.some.inj h) rfl dX1_isOf_151
      · replace h := ite_f c4 h
        refine lv_aload_n hx hb dX1_isOf_129 rfl (lv_at hl 1 rfl) ?_
        refine r_get (T := TX1) (v := .int (gI M y2_0 2)) hx hb hts in1 hown hK hP ky2_0 (by decide) rfl 2 (by decide) (hts (.fieldLink RX1 19 "StoneWalk$Journey" "told" "I") (List.mem_of_getElem? (i := 4) (by decide +kernel))) rfl (t := 0) rfl rfl dX1_isOf_130 ?_
        refine lv_iconst (v := 1) hx hb dX1_isOf_133 rfl ?_
        refine lv_icmp_lt (tgt := 150) hx hb dX1_isOf_134 rfl (fun c5 => ?_) (fun c5 => ?_)
        · replace h := ite_t c5 h
          refine lv_iconst (v := 0) hx hb dX1_isOf_150 rfl ?_
          exact r_zret hx hb hr hlocks hP hK hD hT hG hS zb_0 (Option.some.inj h) rfl dX1_isOf_151
        · replace h := ite_f c5 h
          refine lv_iload_n hx hb dX1_isOf_137 rfl (lv_at hl 2 rfl) ?_
          refine lv_if_eq (tgt := 150) hx hb dX1_isOf_138 rfl (fun c6 => ?_) (fun c6 => ?_)
          · replace h := ite_t c6 h
            refine lv_iconst (v := 0) hx hb dX1_isOf_150 rfl ?_
            exact r_zret hx hb hr hlocks hP hK hD hT hG hS zb_0 (Option.some.inj h) rfl dX1_isOf_151
          · replace h := ite_f c6 h
            refine lv_iload hx hb dX1_isOf_141 (lv_at hl 0 rfl) ?_
            refine lv_if_eq (tgt := 150) hx hb dX1_isOf_143 rfl (fun c7 => ?_) (fun c7 => ?_)
            · replace h := ite_t c7 h
              refine lv_iconst (v := 0) hx hb dX1_isOf_150 rfl ?_
              exact r_zret hx hb hr hlocks hP hK hD hT hG hS zb_0 (Option.some.inj h) rfl dX1_isOf_151
            · replace h := ite_f c7 h
              refine lv_iconst (v := 1) hx hb dX1_isOf_146 rfl ?_
              refine lv_goto (tgt := 151) hx hb dX1_isOf_147 rfl ?_
              exact r_zret hx hb hr hlocks hP hK hD hT hG hS zb_1 (Option.some.inj h) rfl dX1_isOf_151
    refine lv_istore_n (lv' := [(3, .int w1_0), (0, .ref (ad y1_0))]) hx hb dX1_isOf_82 rfl hl (by decide) rfl (fun ls hl => ?_)
    refine lv_aload_n hx hb dX1_isOf_83 rfl (lv_at hl 1 rfl) ?_
    refine r_get (T := TX1) (v := .int (gI M y1_0 2)) hx hb hts in1 hown hK hP ky1_0 (by decide) rfl 2 (by decide) (hts (.fieldLink RX1 19 "StoneWalk$Journey" "told" "I") (List.mem_of_getElem? (i := 4) (by decide +kernel))) rfl (t := 0) rfl rfl dX1_isOf_84 ?_
    refine lv_iconst (v := 3) hx hb dX1_isOf_87 rfl ?_
    refine lv_icmp_ne (tgt := 95) hx hb dX1_isOf_88 rfl (fun c8 => ?_) (fun c8 => ?_)
    · replace h := ite_f c8 h
      refine lv_iconst (v := 0) hx hb dX1_isOf_95 rfl ?_
      refine lv_aload_n hx hb dX1_isOf_96 rfl (lv_at hl 1 rfl) ?_
      refine r_get (T := TX1) (v := .int (gI M y1_0 10)) hx hb hts in1 hown hK hP ky1_0 (by decide) rfl 10 (by decide) (hts (.fieldLink RX1 43 "StoneWalk$Journey" "lie" "I") (List.mem_of_getElem? (i := 7) (by decide +kernel))) rfl (t := 0) rfl rfl dX1_isOf_97 ?_
      refine lv_iconst (v := 3) hx hb dX1_isOf_100 rfl ?_
      refine lv_icmp_eq (tgt := 108) hx hb dX1_isOf_101 rfl (fun c9 => ?_) (fun c9 => ?_)
      · replace h := ite_t c9 h
        refine lv_iconst (v := 0) hx hb dX1_isOf_108 rfl ?_
        refine lv_icmp_ne (tgt := 116) hx hb dX1_isOf_109 rfl (fun c10 => absurd c10 (by decide)) (fun _ => ?_)
        refine lv_iconst (v := 1) hx hb dX1_isOf_112 rfl ?_
        refine lv_goto (tgt := 117) hx hb dX1_isOf_113 rfl ?_
        exact J2 y1_0 w1_0 1 ky1_0 _ _ h hP hD hT hS ls (lv_sub hl [1, 0] rfl)
      · replace h := ite_f c9 h
        refine lv_iconst (v := 1) hx hb dX1_isOf_104 rfl ?_
        refine lv_goto (tgt := 109) hx hb dX1_isOf_105 rfl ?_
        refine lv_icmp_ne (tgt := 116) hx hb dX1_isOf_109 rfl (fun _ => ?_) (fun c11 => absurd c11 (by decide))
        refine lv_iconst (v := 0) hx hb dX1_isOf_116 rfl ?_
        exact J2 y1_0 w1_0 0 ky1_0 _ _ h hP hD hT hS ls (lv_sub hl [1, 0] rfl)
    · replace h := ite_t c8 h
      refine lv_iconst (v := 1) hx hb dX1_isOf_91 rfl ?_
      refine lv_goto (tgt := 96) hx hb dX1_isOf_92 rfl ?_
      refine lv_aload_n hx hb dX1_isOf_96 rfl (lv_at hl 1 rfl) ?_
      refine r_get (T := TX1) (v := .int (gI M y1_0 10)) hx hb hts in1 hown hK hP ky1_0 (by decide) rfl 10 (by decide) (hts (.fieldLink RX1 43 "StoneWalk$Journey" "lie" "I") (List.mem_of_getElem? (i := 7) (by decide +kernel))) rfl (t := 0) rfl rfl dX1_isOf_97 ?_
      refine lv_iconst (v := 3) hx hb dX1_isOf_100 rfl ?_
      refine lv_icmp_eq (tgt := 108) hx hb dX1_isOf_101 rfl (fun c12 => ?_) (fun c12 => ?_)
      · replace h := ite_t c12 h
        refine lv_iconst (v := 0) hx hb dX1_isOf_108 rfl ?_
        refine lv_icmp_ne (tgt := 116) hx hb dX1_isOf_109 rfl (fun _ => ?_) (fun c13 => absurd c13 (by decide))
        refine lv_iconst (v := 0) hx hb dX1_isOf_116 rfl ?_
        exact J2 y1_0 w1_0 0 ky1_0 _ _ h hP hD hT hS ls (lv_sub hl [1, 0] rfl)
      · replace h := ite_f c12 h
        refine lv_iconst (v := 1) hx hb dX1_isOf_104 rfl ?_
        refine lv_goto (tgt := 109) hx hb dX1_isOf_105 rfl ?_
        refine lv_icmp_ne (tgt := 116) hx hb dX1_isOf_109 rfl (fun c14 => absurd c14 (by decide)) (fun _ => ?_)
        refine lv_iconst (v := 1) hx hb dX1_isOf_112 rfl ?_
        refine lv_goto (tgt := 117) hx hb dX1_isOf_113 rfl ?_
        exact J2 y1_0 w1_0 1 ky1_0 _ _ h hP hD hT hS ls (lv_sub hl [1, 0] rfl)
  refine lv_aload_n hx hb dX1_isOf_0 rfl (lv_at hl 1 rfl) ?_
  refine lv_aload_n hx hb dX1_isOf_1 rfl (lv_at hl 0 rfl) ?_
  refine r_get (T := TX1) (v := .int (gI M a0 6)) hx hb hts in1 hown hK hP k0 (by decide) rfl 6 (by decide) (hts (.fieldLink RX1 28 "StoneWalk$Journey" "road" "I") (List.mem_of_getElem? (i := 1) (by decide +kernel))) rfl (t := 0) rfl rfl dX1_isOf_2 ?_
  obtain ⟨z15, h15, h⟩ := ob_some h
  refine k_q (va_runV (As := [.int (gI M a0 6)]) (rest := []) ⟨hx, hb, hml, hown, hts⟩ (c_X0_roadAt (l := l) M a1 (gI M a0 6) k1 h15) (cwV 1 hts gX1_isOf_X0_roadAt rfl rfl rfl hdV_X0_roadAt ⟨Nat.le_of_ble_eq_true rfl, Nat.le_of_ble_eq_true rfl⟩) (pV (T := TX0) hP hK hD hT hG hS k1 (by decide) rfl) rfl rfl hl.1 rfl (lv_room (Nat.le_of_ble_eq_true rfl)) dX1_isOf_5 ⟨Nat.zero_le _, Nat.zero_le _⟩) hS (fun H locs hq15 hP hD hT hS => ?_)
  rcases hN15 : z15 with _ | b15
  · replace h := oc_n hN15 h
    show W _ _ _ _ _ _ _ _ _ _ _ _ _ _ _ (F0 _ _ _ (.null :: []))
    refine lv_astore_nN (lv' := [(2, .null), (0, .ref (ad a0)), (1, .ref (ad a1))]) hx hb dX1_isOf_8 rfl hl (by decide) rfl (fun ls hl => ?_)
    refine lv_aload_nN hx hb dX1_isOf_9 rfl (lv_at hl 0 rfl) ?_
    refine lv_ifnullN (tgt := 37) hx hb dX1_isOf_10 rfl ?_
    refine lv_iconst (v := 0) hx hb dX1_isOf_37 rfl ?_
    exact r_zret hx hb hr hlocks hP hK hD hT hG hS zb_0 (Option.some.inj h) rfl dX1_isOf_38
  · replace h := oc_s hN15 h
    have kb15 := hq15 _ hN15
    show W _ _ _ _ _ _ _ _ _ _ _ _ _ _ _ (F0 _ _ _ (.ref (ad b15) :: []))
    refine lv_astore_n (lv' := [(2, .ref (ad b15)), (0, .ref (ad a0)), (1, .ref (ad a1))]) hx hb dX1_isOf_8 rfl hl (by decide) rfl (fun ls hl => ?_)
    refine lv_aload_n hx hb dX1_isOf_9 rfl (lv_at hl 0 rfl) ?_
    refine lv_ifnull hx hb dX1_isOf_10 ?_
    refine lv_aload_n hx hb dX1_isOf_13 rfl (lv_at hl 2 rfl) ?_
    refine lv_iconst (v := 2) hx hb dX1_isOf_14 rfl ?_
    refine lv_aload_n hx hb dX1_isOf_15 rfl (lv_at hl 1 rfl) ?_
    refine r_get (T := TX1) (v := .int (gI M a0 4)) hx hb hts in1 hown hK hP k0 (by decide) rfl 4 (by decide) (hts (.fieldLink RX1 22 "StoneWalk$Journey" "statue" "I") (List.mem_of_getElem? (i := 2) (by decide +kernel))) rfl (t := 0) rfl rfl dX1_isOf_16 ?_
    obtain ⟨z16, h16, h⟩ := ob_some h
    refine k_z (va_runV (As := [.int 2, .int (gI M a0 4)]) (rest := []) ⟨hx, hb, hml, hown, hts⟩ (c_X0_has (l := l) M a1 2 (gI M a0 4) k1 h16) (cwV 2 hts gX1_isOf_X0_has rfl rfl rfl hdV_X0_has ⟨Nat.le_of_ble_eq_true rfl, Nat.le_of_ble_eq_true rfl⟩) (pV (T := TX0) hP hK hD hT hG hS k1 (by decide) rfl) rfl rfl hl.1 rfl (lv_room (Nat.le_of_ble_eq_true rfl)) dX1_isOf_19 ⟨Nat.zero_le _, Nat.zero_le _⟩) hS (fun H locs hz16 hP hD hT hS => ?_)
    refine lv_if_eq (tgt := 37) hx hb dX1_isOf_22 rfl (fun c17 => ?_) (fun c17 => ?_)
    · replace h := ite_t c17 h
      refine lv_iconst (v := 0) hx hb dX1_isOf_37 rfl ?_
      exact r_zret hx hb hr hlocks hP hK hD hT hG hS zb_0 (Option.some.inj h) rfl dX1_isOf_38
    · replace h := ite_f c17 h
      refine lv_aload_n hx hb dX1_isOf_25 rfl (lv_at hl 2 rfl) ?_
      refine lv_iconst (v := 0) hx hb dX1_isOf_26 rfl ?_
      refine lv_aload_n hx hb dX1_isOf_27 rfl (lv_at hl 1 rfl) ?_
      refine r_get (T := TX1) (v := .int (gI M a0 5)) hx hb hts in1 hown hK hP k0 (by decide) rfl 5 (by decide) (hts (.fieldLink RX1 25 "StoneWalk$Journey" "way" "I") (List.mem_of_getElem? (i := 3) (by decide +kernel))) rfl (t := 0) rfl rfl dX1_isOf_28 ?_
      obtain ⟨z18, h18, h⟩ := ob_some h
      refine k_z (va_runV (As := [.int 0, .int (gI M a0 5)]) (rest := []) ⟨hx, hb, hml, hown, hts⟩ (c_X0_has (l := l) M a1 0 (gI M a0 5) k1 h18) (cwV 2 hts gX1_isOf_X0_has rfl rfl rfl hdV_X0_has ⟨Nat.le_of_ble_eq_true rfl, Nat.le_of_ble_eq_true rfl⟩) (pV (T := TX0) hP hK hD hT hG hS k1 (by decide) rfl) rfl rfl hl.1 rfl (lv_room (Nat.le_of_ble_eq_true rfl)) dX1_isOf_31 ⟨Nat.zero_le _, Nat.zero_le _⟩) hS (fun H locs hz18 hP hD hT hS => ?_)
      refine lv_if_ne (tgt := 39) hx hb dX1_isOf_34 rfl (fun c19 => ?_) (fun c19 => ?_)
      · replace h := ite_f c19 h
        refine lv_aload_n hx hb dX1_isOf_39 rfl (lv_at hl 1 rfl) ?_
        refine r_get (T := TX1) (v := .int (gI M a0 2)) hx hb hts in1 hown hK hP k0 (by decide) rfl 2 (by decide) (hts (.fieldLink RX1 19 "StoneWalk$Journey" "told" "I") (List.mem_of_getElem? (i := 4) (by decide +kernel))) rfl (t := 0) rfl rfl dX1_isOf_40 ?_
        refine lv_iconst (v := 2) hx hb dX1_isOf_43 rfl ?_
        refine lv_icmp_ne (tgt := 66) hx hb dX1_isOf_44 rfl (fun c20 => ?_) (fun c20 => ?_)
        · replace h := ite_f c20 h
          refine lv_aload_n hx hb dX1_isOf_66 rfl (lv_at hl 1 rfl) ?_
          refine r_get (T := TX1) (v := .int (gI M a0 7)) hx hb hts in1 hown hK hP k0 (by decide) rfl 7 (by decide) (hts (.fieldLink RX1 34 "StoneWalk$Journey" "place" "I") (List.mem_of_getElem? (i := 5) (by decide +kernel))) rfl (t := 0) rfl rfl dX1_isOf_67 ?_
          refine lv_aload_n hx hb dX1_isOf_70 rfl (lv_at hl 0 rfl) ?_
          refine r_get (T := TX3) (v := .int (gI M b15 1)) hx hb hts in3 hown hK hP kb15 (by decide) rfl 1 (by decide) (hts (.fieldLink RX1 102 "StoneWalk$Road" "held" "I") (List.mem_of_getElem? (i := 6) (by decide +kernel))) rfl (t := 0) rfl rfl dX1_isOf_71 ?_
          refine lv_icmp_ge (tgt := 81) hx hb dX1_isOf_74 rfl (fun c21 => ?_) (fun c21 => ?_)
          · replace h := ite_t c21 h
            refine lv_iconst (v := 0) hx hb dX1_isOf_81 rfl ?_
            exact J1 a0 0 k0 _ _ h hP hD hT hS ls (lv_sub hl [1] rfl)
          · replace h := ite_f c21 h
            refine lv_iconst (v := 1) hx hb dX1_isOf_77 rfl ?_
            refine lv_goto (tgt := 82) hx hb dX1_isOf_78 rfl ?_
            exact J1 a0 1 k0 _ _ h hP hD hT hS ls (lv_sub hl [1] rfl)
        · replace h := ite_t c20 h
          refine lv_aload_n hx hb dX1_isOf_47 rfl (lv_at hl 1 rfl) ?_
          refine r_get (T := TX1) (v := .int (gI M a0 7)) hx hb hts in1 hown hK hP k0 (by decide) rfl 7 (by decide) (hts (.fieldLink RX1 34 "StoneWalk$Journey" "place" "I") (List.mem_of_getElem? (i := 5) (by decide +kernel))) rfl (t := 0) rfl rfl dX1_isOf_48 ?_
          refine lv_aload_n hx hb dX1_isOf_51 rfl (lv_at hl 0 rfl) ?_
          refine r_get (T := TX3) (v := .int (gI M b15 1)) hx hb hts in3 hown hK hP kb15 (by decide) rfl 1 (by decide) (hts (.fieldLink RX1 102 "StoneWalk$Road" "held" "I") (List.mem_of_getElem? (i := 6) (by decide +kernel))) rfl (t := 0) rfl rfl dX1_isOf_52 ?_
          refine lv_icmp_ne (tgt := 62) hx hb dX1_isOf_55 rfl (fun c22 => ?_) (fun c22 => ?_)
          · replace h := ite_f c22 h
            refine lv_iconst (v := 0) hx hb dX1_isOf_62 rfl ?_
            refine lv_goto (tgt := 82) hx hb dX1_isOf_63 rfl ?_
            exact J1 a0 0 k0 _ _ h hP hD hT hS ls (lv_sub hl [1] rfl)
          · replace h := ite_t c22 h
            refine lv_iconst (v := 1) hx hb dX1_isOf_58 rfl ?_
            refine lv_goto (tgt := 82) hx hb dX1_isOf_59 rfl ?_
            exact J1 a0 1 k0 _ _ h hP hD hT hS ls (lv_sub hl [1] rfl)
      · replace h := ite_t c19 h
        refine lv_iconst (v := 0) hx hb dX1_isOf_37 rfl ?_
        exact r_zret hx hb hr hlocks hP hK hD hT hG hS zb_0 (Option.some.inj h) rfl dX1_isOf_38
set_option maxHeartbeats 4000000 in
set_option maxRecDepth 100000 in
theorem c_X1_woodSoFar {l : Launch} {D : va_G} {ad : Nat → Nat} {cy : Nat → ClassId} {A : Nat → Prop} {g : CG} {q : SE} (M : MM) (a0 : Nat) (a1 : Nat) (k0 : ok g a0 1 0) (k1 : ok g a1 0 0) {Z : Int32} (h : f_X1_woodSoFar M a0 a1 = some Z) : Met l yX1_woodSoFar wsX1_woodSoFar ({ frames := 2, cells := 0, slots := 0, locals := 42 }) (va_Pc [.ref (ad a0), .ref (ad a1)] (Wd D ad cy A g q M)) (va_Qi (fun r u => r = Z ∧ u = M) (Wd D ad cy A g q) A) 0 0 A := by
  refine Met.ofW (cc := cX1_woodSoFar) (maxL := 4) (ret := (some .int)) (by decide) rfl ?_
  intro p e s m args below meth c s₁ B hml hv
  obtain ⟨rfl, hP, hK, hD, hT, hG⟩ := hv
  have hx := B.exec
  have hb := B.bytes
  have hr := B.returns
  have hts := atoms_spec (ws := wsX1_woodSoFar) B.pre
  have hown : s.vm.findClass RX1 = some m.cls := findClass_of_methodNamed B.named
  have hlocks := B.notSynchronized
  have in1 : ∀ w ∈ u_ws RX1 TX1 11, w ∈ wsX1_woodSoFar := fun w h => List.mem_cons_of_mem _ (List.mem_append_left _ (List.mem_append_left _ (List.mem_append_left _ (List.mem_append_right _ h))))
  have in5 : ∀ w ∈ u_ws RX5 TX5 8, w ∈ wsX1_woodSoFar := fun w h => List.mem_cons_of_mem _ (List.mem_append_left _ (List.mem_append_left _ (List.mem_append_right _ h)))
  have hS : va_S A s.heap s.heap [] := va_S.rf
  have hl := lv_entry ([.ref (ad a0), .ref (ad a1)]) (n := 4) (Nat.le_of_ble_eq_true rfl)
  rw [lg_entry_eq]
  generalize (lg_sl ([.ref (ad a0), .ref (ad a1)]) ++ List.replicate (4 - (lg_sl ([.ref (ad a0), .ref (ad a1)])).length) Slot.unset).toArray = ls at hl ⊢
  have hl : lv_has ls 4 [(0, .ref (ad a0)), (1, .ref (ad a1))] := hl
  unfold f_X1_woodSoFar at h
  refine lv_aload_n hx hb dX1_woodSoFar_0 rfl (lv_at hl 1 rfl) ?_
  refine lv_aload_n hx hb dX1_woodSoFar_1 rfl (lv_at hl 0 rfl) ?_
  refine r_get (T := TX1) (v := .int (gI M a0 4)) hx hb hts in1 hown hK hP k0 (by decide) rfl 4 (by decide) (hts (.fieldLink RX1 22 "StoneWalk$Journey" "statue" "I") (List.mem_of_getElem? (i := 1) (by decide +kernel))) rfl (t := 0) rfl rfl dX1_woodSoFar_2 ?_
  obtain ⟨z1, h1, h⟩ := ob_some h
  refine k_q (va_runV (As := [.int (gI M a0 4)]) (rest := []) ⟨hx, hb, hml, hown, hts⟩ (c_X0_statueAt (l := l) M a1 (gI M a0 4) k1 h1) (cwV 1 hts gX1_woodSoFar_X0_statueAt rfl rfl rfl hdV_X0_statueAt ⟨Nat.le_of_ble_eq_true rfl, Nat.le_of_ble_eq_true rfl⟩) (pV (T := TX0) hP hK hD hT hG hS k1 (by decide) rfl) rfl rfl hl.1 rfl (lv_room (Nat.le_of_ble_eq_true rfl)) dX1_woodSoFar_5 ⟨Nat.zero_le _, Nat.zero_le _⟩) hS (fun H locs hq1 hP hD hT hS => ?_)
  rcases hN1 : z1 with _ | b1
  · replace h := oc_n hN1 h
    show W _ _ _ _ _ _ _ _ _ _ _ _ _ _ _ (F0 _ _ _ (.null :: []))
    refine lv_astore_nN (lv' := [(2, .null), (0, .ref (ad a0)), (1, .ref (ad a1))]) hx hb dX1_woodSoFar_8 rfl hl (by decide) rfl (fun ls hl => ?_)
    refine lv_aload_n hx hb dX1_woodSoFar_9 rfl (lv_at hl 2 rfl) ?_
    refine lv_aload_n hx hb dX1_woodSoFar_10 rfl (lv_at hl 1 rfl) ?_
    refine r_get (T := TX1) (v := .int (gI M a0 5)) hx hb hts in1 hown hK hP k0 (by decide) rfl 5 (by decide) (hts (.fieldLink RX1 25 "StoneWalk$Journey" "way" "I") (List.mem_of_getElem? (i := 2) (by decide +kernel))) rfl (t := 0) rfl rfl dX1_woodSoFar_11 ?_
    obtain ⟨z2, h2, h⟩ := ob_some h
    refine k_q (va_runV (As := [.int (gI M a0 5)]) (rest := []) ⟨hx, hb, hml, hown, hts⟩ (c_X0_wayAt (l := l) M a1 (gI M a0 5) k1 h2) (cwV 1 hts gX1_woodSoFar_X0_wayAt rfl rfl rfl hdV_X0_wayAt ⟨Nat.le_of_ble_eq_true rfl, Nat.le_of_ble_eq_true rfl⟩) (pV (T := TX0) hP hK hD hT hG hS k1 (by decide) rfl) rfl rfl hl.1 rfl (lv_room (Nat.le_of_ble_eq_true rfl)) dX1_woodSoFar_14 ⟨Nat.zero_le _, Nat.zero_le _⟩) hS (fun H locs hq2 hP hD hT hS => ?_)
    rcases hN2 : z2 with _ | b2
    · replace h := oc_n hN2 h
      show W _ _ _ _ _ _ _ _ _ _ _ _ _ _ _ (F0 _ _ _ (.null :: []))
      refine lv_astore_nN (lv' := [(3, .null), (2, .null), (0, .ref (ad a0)), (1, .ref (ad a1))]) hx hb dX1_woodSoFar_17 rfl hl (by decide) rfl (fun ls hl => ?_)
      refine lv_aload_nN hx hb dX1_woodSoFar_18 rfl (lv_at hl 1 rfl) ?_
      refine lv_ifnullN (tgt := 26) hx hb dX1_woodSoFar_19 rfl ?_
      refine lv_iconst (v := 0) hx hb dX1_woodSoFar_26 rfl ?_
      exact r_iret hx hb hr hlocks hP hK hD hT hG hS (Option.some.inj h) rfl dX1_woodSoFar_27
    · replace h := oc_s hN2 h
      have kb2 := hq2 _ hN2
      show W _ _ _ _ _ _ _ _ _ _ _ _ _ _ _ (F0 _ _ _ (.ref (ad b2) :: []))
      refine lv_astore_n (lv' := [(3, .ref (ad b2)), (2, .null), (0, .ref (ad a0)), (1, .ref (ad a1))]) hx hb dX1_woodSoFar_17 rfl hl (by decide) rfl (fun ls hl => ?_)
      refine lv_aload_nN hx hb dX1_woodSoFar_18 rfl (lv_at hl 1 rfl) ?_
      refine lv_ifnullN (tgt := 26) hx hb dX1_woodSoFar_19 rfl ?_
      refine lv_iconst (v := 0) hx hb dX1_woodSoFar_26 rfl ?_
      exact r_iret hx hb hr hlocks hP hK hD hT hG hS (Option.some.inj h) rfl dX1_woodSoFar_27
  · replace h := oc_s hN1 h
    have kb1 := hq1 _ hN1
    show W _ _ _ _ _ _ _ _ _ _ _ _ _ _ _ (F0 _ _ _ (.ref (ad b1) :: []))
    refine lv_astore_n (lv' := [(2, .ref (ad b1)), (0, .ref (ad a0)), (1, .ref (ad a1))]) hx hb dX1_woodSoFar_8 rfl hl (by decide) rfl (fun ls hl => ?_)
    refine lv_aload_n hx hb dX1_woodSoFar_9 rfl (lv_at hl 2 rfl) ?_
    refine lv_aload_n hx hb dX1_woodSoFar_10 rfl (lv_at hl 1 rfl) ?_
    refine r_get (T := TX1) (v := .int (gI M a0 5)) hx hb hts in1 hown hK hP k0 (by decide) rfl 5 (by decide) (hts (.fieldLink RX1 25 "StoneWalk$Journey" "way" "I") (List.mem_of_getElem? (i := 2) (by decide +kernel))) rfl (t := 0) rfl rfl dX1_woodSoFar_11 ?_
    obtain ⟨z3, h3, h⟩ := ob_some h
    refine k_q (va_runV (As := [.int (gI M a0 5)]) (rest := []) ⟨hx, hb, hml, hown, hts⟩ (c_X0_wayAt (l := l) M a1 (gI M a0 5) k1 h3) (cwV 1 hts gX1_woodSoFar_X0_wayAt rfl rfl rfl hdV_X0_wayAt ⟨Nat.le_of_ble_eq_true rfl, Nat.le_of_ble_eq_true rfl⟩) (pV (T := TX0) hP hK hD hT hG hS k1 (by decide) rfl) rfl rfl hl.1 rfl (lv_room (Nat.le_of_ble_eq_true rfl)) dX1_woodSoFar_14 ⟨Nat.zero_le _, Nat.zero_le _⟩) hS (fun H locs hq3 hP hD hT hS => ?_)
    rcases hN3 : z3 with _ | b3
    · replace h := oc_n hN3 h
      show W _ _ _ _ _ _ _ _ _ _ _ _ _ _ _ (F0 _ _ _ (.null :: []))
      refine lv_astore_nN (lv' := [(3, .null), (2, .ref (ad b1)), (0, .ref (ad a0)), (1, .ref (ad a1))]) hx hb dX1_woodSoFar_17 rfl hl (by decide) rfl (fun ls hl => ?_)
      refine lv_aload_n hx hb dX1_woodSoFar_18 rfl (lv_at hl 1 rfl) ?_
      refine lv_ifnull hx hb dX1_woodSoFar_19 ?_
      refine lv_aload_nN hx hb dX1_woodSoFar_22 rfl (lv_at hl 0 rfl) ?_
      refine lv_ifnonnullN hx hb dX1_woodSoFar_23 ?_
      refine lv_iconst (v := 0) hx hb dX1_woodSoFar_26 rfl ?_
      exact r_iret hx hb hr hlocks hP hK hD hT hG hS (Option.some.inj h) rfl dX1_woodSoFar_27
    · replace h := oc_s hN3 h
      have kb3 := hq3 _ hN3
      show W _ _ _ _ _ _ _ _ _ _ _ _ _ _ _ (F0 _ _ _ (.ref (ad b3) :: []))
      refine lv_astore_n (lv' := [(3, .ref (ad b3)), (2, .ref (ad b1)), (0, .ref (ad a0)), (1, .ref (ad a1))]) hx hb dX1_woodSoFar_17 rfl hl (by decide) rfl (fun ls hl => ?_)
      refine lv_aload_n hx hb dX1_woodSoFar_18 rfl (lv_at hl 1 rfl) ?_
      refine lv_ifnull hx hb dX1_woodSoFar_19 ?_
      refine lv_aload_n hx hb dX1_woodSoFar_22 rfl (lv_at hl 0 rfl) ?_
      refine lv_ifnonnull (tgt := 28) hx hb dX1_woodSoFar_23 rfl ?_
      refine lv_aload_n hx hb dX1_woodSoFar_28 rfl (lv_at hl 0 rfl) ?_
      refine lv_aload_n hx hb dX1_woodSoFar_29 rfl (lv_at hl 1 rfl) ?_
      refine r_get (T := TX5) (v := .int (gI M b1 0)) hx hb hts in5 hown hK hP kb1 (by decide) rfl 0 (by decide) (hts (.fieldLink RX1 72 "StoneWalk$Stone" "tons" "I") (List.mem_of_getElem? (i := 3) (by decide +kernel))) rfl (t := 0) rfl rfl dX1_woodSoFar_30 ?_
      obtain ⟨z4, h4, h⟩ := ob_some h
      refine k_i (va_runV (As := [.int (gI M b1 0)]) (rest := []) ⟨hx, hb, hml, hown, hts⟩ (c_X10_woodFor (l := l) M b3 (gI M b1 0) kb3 h4) (cwV 1 hts gX1_woodSoFar_X10_woodFor rfl rfl rfl hdV_X10_woodFor ⟨Nat.le_of_ble_eq_true rfl, Nat.le_of_ble_eq_true rfl⟩) (pV (T := TX10) hP hK hD hT hG hS kb3 (by decide) rfl) rfl rfl hl.1 rfl (lv_room (Nat.le_of_ble_eq_true rfl)) dX1_woodSoFar_33 ⟨Nat.zero_le _, Nat.zero_le _⟩) hS (fun H locs hP hD hT hS => ?_)
      refine lv_aload_n hx hb dX1_woodSoFar_36 rfl (lv_at hl 2 rfl) ?_
      refine r_get (T := TX1) (v := .int (gI M a0 2)) hx hb hts in1 hown hK hP k0 (by decide) rfl 2 (by decide) (hts (.fieldLink RX1 19 "StoneWalk$Journey" "told" "I") (List.mem_of_getElem? (i := 4) (by decide +kernel))) rfl (t := 0) rfl rfl dX1_woodSoFar_37 ?_
      refine lv_iconst (v := 3) hx hb dX1_woodSoFar_40 rfl ?_
      refine lv_icmp_ne (tgt := 53) hx hb dX1_woodSoFar_41 rfl (fun c5 => ?_) (fun c5 => ?_)
      · replace h := ite_f c5 h
        refine lv_aload_n hx hb dX1_woodSoFar_53 rfl (lv_at hl 2 rfl) ?_
        refine r_get (T := TX1) (v := .int (gI M a0 7)) hx hb hts in1 hown hK hP k0 (by decide) rfl 7 (by decide) (hts (.fieldLink RX1 34 "StoneWalk$Journey" "place" "I") (List.mem_of_getElem? (i := 5) (by decide +kernel))) rfl (t := 0) rfl rfl dX1_woodSoFar_54 ?_
        refine lv_imul hx hb dX1_woodSoFar_57 ?_
        exact r_iret hx hb hr hlocks hP hK hD hT hG hS (Option.some.inj h) rfl dX1_woodSoFar_58
      · replace h := ite_t c5 h
        refine lv_aload_n hx hb dX1_woodSoFar_44 rfl (lv_at hl 2 rfl) ?_
        refine r_get (T := TX1) (v := .int (gI M a0 7)) hx hb hts in1 hown hK hP k0 (by decide) rfl 7 (by decide) (hts (.fieldLink RX1 34 "StoneWalk$Journey" "place" "I") (List.mem_of_getElem? (i := 5) (by decide +kernel))) rfl (t := 0) rfl rfl dX1_woodSoFar_45 ?_
        refine lv_iconst (v := 1) hx hb dX1_woodSoFar_48 rfl ?_
        refine lv_iadd hx hb dX1_woodSoFar_49 ?_
        refine lv_goto (tgt := 57) hx hb dX1_woodSoFar_50 rfl ?_
        refine lv_imul hx hb dX1_woodSoFar_57 ?_
        exact r_iret hx hb hr hlocks hP hK hD hT hG hS (Option.some.inj h) rfl dX1_woodSoFar_58
set_option maxHeartbeats 4000000 in
set_option maxRecDepth 100000 in
theorem c_X1_fromImage {l : Launch} {D : va_G} {ad : Nat → Nat} {cy : Nat → ClassId} {A : Nat → Prop} {g : CG} {q : SE} (M : MM) (a0 : Nat) (x1 : Int64) (a3 : Nat) (k0 : ok g a0 1 0) (k3 : ok g a3 0 0) {Z : (Int32 × MM)} (h : f_X1_fromImage M a0 x1 a3 = some Z) : Met l yX1_fromImage wsX1_fromImage ({ frames := 4, cells := 0, slots := 0, locals := 88 }) (va_Pc [.ref (ad a0), .long x1, .ref (ad a3)] (Wd D ad cy A g q M)) (va_Qi (fun r u => r = Z.1 ∧ u = Z.2 ∧ zb r) (Wd D ad cy A g q) A) 0 0 A := by
  refine Met.ofW (cc := cX1_fromImage) (maxL := 6) (ret := (some .boolean)) (by decide) rfl ?_
  intro p e s m args below meth c s₁ B hml hv
  obtain ⟨rfl, hP, hK, hD, hT, hG⟩ := hv
  have hx := B.exec
  have hb := B.bytes
  have hr := B.returns
  have hts := atoms_spec (ws := wsX1_fromImage) B.pre
  have hown : s.vm.findClass RX1 = some m.cls := findClass_of_methodNamed B.named
  have hlocks := B.notSynchronized
  have in1 : ∀ w ∈ u_ws RX1 TX1 11, w ∈ wsX1_fromImage := fun w h => List.mem_cons_of_mem _ (List.mem_append_left _ (List.mem_append_left _ (List.mem_append_left _ (List.mem_append_left _ (List.mem_append_right _ h)))))
  have hS : va_S A s.heap s.heap [] := va_S.rf
  have hl := lv_entry ([.ref (ad a0), .long x1, .ref (ad a3)]) (n := 6) (Nat.le_of_ble_eq_true rfl)
  rw [lg_entry_eq]
  generalize (lg_sl ([.ref (ad a0), .long x1, .ref (ad a3)]) ++ List.replicate (6 - (lg_sl ([.ref (ad a0), .long x1, .ref (ad a3)])).length) Slot.unset).toArray = ls at hl ⊢
  have hl : lv_has ls 6 [(0, .ref (ad a0)), (1, .long x1), (3, .ref (ad a3))] := hl
  unfold f_X1_fromImage at h
  refine lv_lload_n hx hb dX1_fromImage_0 rfl (lv_at hl 1 rfl) ?_
  refine lv_lstore (lv' := [(4, .long x1), (0, .ref (ad a0)), (1, .long x1), (3, .ref (ad a3))]) hx hb dX1_fromImage_1 hl (by decide) rfl (fun ls hl => ?_)
  refine lv_aload_n hx hb dX1_fromImage_3 rfl (lv_at hl 1 rfl) ?_
  refine lv_lload hx hb dX1_fromImage_4 (lv_at hl 0 rfl) ?_
  refine lv_ldc2 hx hb hown (hts (.constantLong RX1 129 (201)) (List.mem_of_getElem? (i := 1) (by decide +kernel))) dX1_fromImage_6 ?_
  refine lv_lrem hx hb dX1_fromImage_9 (by decide) ?_
  refine lv_l2i hx hb dX1_fromImage_10 rfl ?_
  refine r_putI (T := TX1) (ty := .int) (v := (x1 - x1 / 201 * 201).toInt32) hx hb hts in1 tyX1 tyX1_ok nmX1 hown hK hP hD hT hS k0 (by decide) rfl 3 (by decide) (hts (.fieldLink RX1 31 "StoneWalk$Journey" "people" "I") (List.mem_of_getElem? (i := 2) (by decide +kernel))) rfl rfl (tyX1_ok 3 (by decide)) rfl rfl rfl dX1_fromImage_11 (fun H locs hP hD hT hS => ?_)
  refine lv_lload hx hb dX1_fromImage_14 (lv_at hl 0 rfl) ?_
  refine lv_ldc2 hx hb hown (hts (.constantLong RX1 129 (201)) (List.mem_of_getElem? (i := 1) (by decide +kernel))) dX1_fromImage_16 ?_
  refine lv_ldiv hx hb dX1_fromImage_19 (by decide) ?_
  refine lv_lstore (lv' := [(4, .long (x1 / 201)), (0, .ref (ad a0)), (1, .long x1), (3, .ref (ad a3))]) hx hb dX1_fromImage_20 hl (by decide) rfl (fun ls hl => ?_)
  refine lv_aload_n hx hb dX1_fromImage_22 rfl (lv_at hl 1 rfl) ?_
  refine lv_lload hx hb dX1_fromImage_23 (lv_at hl 0 rfl) ?_
  refine lv_ldc2 hx hb hown (hts (.constantLong RX1 127 (3)) (List.mem_of_getElem? (i := 3) (by decide +kernel))) dX1_fromImage_25 ?_
  refine lv_lrem hx hb dX1_fromImage_28 (by decide) ?_
  refine lv_l2i hx hb dX1_fromImage_29 rfl ?_
  refine r_putI (T := TX1) (ty := .int) (v := ((x1 / 201) - (x1 / 201) / 3 * 3).toInt32) hx hb hts in1 tyX1 tyX1_ok nmX1 hown hK hP hD hT hS k0 (by decide) rfl 6 (by decide) (hts (.fieldLink RX1 28 "StoneWalk$Journey" "road" "I") (List.mem_of_getElem? (i := 4) (by decide +kernel))) rfl rfl (tyX1_ok 6 (by decide)) rfl rfl rfl dX1_fromImage_30 (fun H locs hP hD hT hS => ?_)
  refine lv_lload hx hb dX1_fromImage_33 (lv_at hl 0 rfl) ?_
  refine lv_ldc2 hx hb hown (hts (.constantLong RX1 127 (3)) (List.mem_of_getElem? (i := 3) (by decide +kernel))) dX1_fromImage_35 ?_
  refine lv_ldiv hx hb dX1_fromImage_38 (by decide) ?_
  refine lv_lstore (lv' := [(4, .long ((x1 / 201) / 3)), (0, .ref (ad a0)), (1, .long x1), (3, .ref (ad a3))]) hx hb dX1_fromImage_39 hl (by decide) rfl (fun ls hl => ?_)
  refine lv_aload_n hx hb dX1_fromImage_41 rfl (lv_at hl 1 rfl) ?_
  refine lv_lload hx hb dX1_fromImage_42 (lv_at hl 0 rfl) ?_
  refine lv_ldc2 hx hb hown (hts (.constantLong RX1 123 (4)) (List.mem_of_getElem? (i := 5) (by decide +kernel))) dX1_fromImage_44 ?_
  refine lv_lrem hx hb dX1_fromImage_47 (by decide) ?_
  refine lv_l2i hx hb dX1_fromImage_48 rfl ?_
  refine r_putI (T := TX1) (ty := .int) (v := (((x1 / 201) / 3) - ((x1 / 201) / 3) / 4 * 4).toInt32) hx hb hts in1 tyX1 tyX1_ok nmX1 hown hK hP hD hT hS k0 (by decide) rfl 5 (by decide) (hts (.fieldLink RX1 25 "StoneWalk$Journey" "way" "I") (List.mem_of_getElem? (i := 6) (by decide +kernel))) rfl rfl (tyX1_ok 5 (by decide)) rfl rfl rfl dX1_fromImage_49 (fun H locs hP hD hT hS => ?_)
  refine lv_lload hx hb dX1_fromImage_52 (lv_at hl 0 rfl) ?_
  refine lv_ldc2 hx hb hown (hts (.constantLong RX1 123 (4)) (List.mem_of_getElem? (i := 5) (by decide +kernel))) dX1_fromImage_54 ?_
  refine lv_ldiv hx hb dX1_fromImage_57 (by decide) ?_
  refine lv_lstore (lv' := [(4, .long (((x1 / 201) / 3) / 4)), (0, .ref (ad a0)), (1, .long x1), (3, .ref (ad a3))]) hx hb dX1_fromImage_58 hl (by decide) rfl (fun ls hl => ?_)
  refine lv_aload_n hx hb dX1_fromImage_60 rfl (lv_at hl 1 rfl) ?_
  refine lv_lload hx hb dX1_fromImage_61 (lv_at hl 0 rfl) ?_
  refine lv_ldc2 hx hb hown (hts (.constantLong RX1 125 (10)) (List.mem_of_getElem? (i := 7) (by decide +kernel))) dX1_fromImage_63 ?_
  refine lv_lrem hx hb dX1_fromImage_66 (by decide) ?_
  refine lv_l2i hx hb dX1_fromImage_67 rfl ?_
  refine r_putI (T := TX1) (ty := .int) (v := ((((x1 / 201) / 3) / 4) - (((x1 / 201) / 3) / 4) / 10 * 10).toInt32) hx hb hts in1 tyX1 tyX1_ok nmX1 hown hK hP hD hT hS k0 (by decide) rfl 4 (by decide) (hts (.fieldLink RX1 22 "StoneWalk$Journey" "statue" "I") (List.mem_of_getElem? (i := 8) (by decide +kernel))) rfl rfl (tyX1_ok 4 (by decide)) rfl rfl rfl dX1_fromImage_68 (fun H locs hP hD hT hS => ?_)
  refine lv_lload hx hb dX1_fromImage_71 (lv_at hl 0 rfl) ?_
  refine lv_ldc2 hx hb hown (hts (.constantLong RX1 125 (10)) (List.mem_of_getElem? (i := 7) (by decide +kernel))) dX1_fromImage_73 ?_
  refine lv_ldiv hx hb dX1_fromImage_76 (by decide) ?_
  refine lv_lstore (lv' := [(4, .long ((((x1 / 201) / 3) / 4) / 10)), (0, .ref (ad a0)), (1, .long x1), (3, .ref (ad a3))]) hx hb dX1_fromImage_77 hl (by decide) rfl (fun ls hl => ?_)
  refine lv_aload_n hx hb dX1_fromImage_79 rfl (lv_at hl 1 rfl) ?_
  refine lv_lload hx hb dX1_fromImage_80 (lv_at hl 0 rfl) ?_
  refine lv_ldc2 hx hb hown (hts (.constantLong RX1 123 (4)) (List.mem_of_getElem? (i := 5) (by decide +kernel))) dX1_fromImage_82 ?_
  refine lv_lrem hx hb dX1_fromImage_85 (by decide) ?_
  refine lv_l2i hx hb dX1_fromImage_86 rfl ?_
  refine r_putI (T := TX1) (ty := .int) (v := (((((x1 / 201) / 3) / 4) / 10) - ((((x1 / 201) / 3) / 4) / 10) / 4 * 4).toInt32) hx hb hts in1 tyX1 tyX1_ok nmX1 hown hK hP hD hT hS k0 (by decide) rfl 10 (by decide) (hts (.fieldLink RX1 43 "StoneWalk$Journey" "lie" "I") (List.mem_of_getElem? (i := 9) (by decide +kernel))) rfl rfl (tyX1_ok 10 (by decide)) rfl rfl rfl dX1_fromImage_87 (fun H locs hP hD hT hS => ?_)
  refine lv_lload hx hb dX1_fromImage_90 (lv_at hl 0 rfl) ?_
  refine lv_ldc2 hx hb hown (hts (.constantLong RX1 123 (4)) (List.mem_of_getElem? (i := 5) (by decide +kernel))) dX1_fromImage_92 ?_
  refine lv_ldiv hx hb dX1_fromImage_95 (by decide) ?_
  refine lv_lstore (lv' := [(4, .long (((((x1 / 201) / 3) / 4) / 10) / 4)), (0, .ref (ad a0)), (1, .long x1), (3, .ref (ad a3))]) hx hb dX1_fromImage_96 hl (by decide) rfl (fun ls hl => ?_)
  refine lv_aload_n hx hb dX1_fromImage_98 rfl (lv_at hl 1 rfl) ?_
  refine lv_lload hx hb dX1_fromImage_99 (lv_at hl 0 rfl) ?_
  refine lv_ldc2 hx hb hown (hts (.constantLong RX1 121 (541)) (List.mem_of_getElem? (i := 10) (by decide +kernel))) dX1_fromImage_101 ?_
  refine lv_lrem hx hb dX1_fromImage_104 (by decide) ?_
  refine lv_l2i hx hb dX1_fromImage_105 rfl ?_
  refine r_putI (T := TX1) (ty := .int) (v := ((((((x1 / 201) / 3) / 4) / 10) / 4) - (((((x1 / 201) / 3) / 4) / 10) / 4) / 541 * 541).toInt32) hx hb hts in1 tyX1 tyX1_ok nmX1 hown hK hP hD hT hS k0 (by decide) rfl 8 (by decide) (hts (.fieldLink RX1 37 "StoneWalk$Journey" "minutes" "I") (List.mem_of_getElem? (i := 11) (by decide +kernel))) rfl rfl (tyX1_ok 8 (by decide)) rfl rfl rfl dX1_fromImage_106 (fun H locs hP hD hT hS => ?_)
  refine lv_lload hx hb dX1_fromImage_109 (lv_at hl 0 rfl) ?_
  refine lv_ldc2 hx hb hown (hts (.constantLong RX1 121 (541)) (List.mem_of_getElem? (i := 10) (by decide +kernel))) dX1_fromImage_111 ?_
  refine lv_ldiv hx hb dX1_fromImage_114 (by decide) ?_
  refine lv_lstore (lv' := [(4, .long ((((((x1 / 201) / 3) / 4) / 10) / 4) / 541)), (0, .ref (ad a0)), (1, .long x1), (3, .ref (ad a3))]) hx hb dX1_fromImage_115 hl (by decide) rfl (fun ls hl => ?_)
  refine lv_aload_n hx hb dX1_fromImage_117 rfl (lv_at hl 1 rfl) ?_
  refine lv_lload hx hb dX1_fromImage_118 (lv_at hl 0 rfl) ?_
  refine lv_ldc2 hx hb hown (hts (.constantLong RX1 119 (7)) (List.mem_of_getElem? (i := 12) (by decide +kernel))) dX1_fromImage_120 ?_
  refine lv_lrem hx hb dX1_fromImage_123 (by decide) ?_
  refine lv_l2i hx hb dX1_fromImage_124 rfl ?_
  refine r_putI (T := TX1) (ty := .int) (v := (((((((x1 / 201) / 3) / 4) / 10) / 4) / 541) - ((((((x1 / 201) / 3) / 4) / 10) / 4) / 541) / 7 * 7).toInt32) hx hb hts in1 tyX1 tyX1_ok nmX1 hown hK hP hD hT hS k0 (by decide) rfl 7 (by decide) (hts (.fieldLink RX1 34 "StoneWalk$Journey" "place" "I") (List.mem_of_getElem? (i := 13) (by decide +kernel))) rfl rfl (tyX1_ok 7 (by decide)) rfl rfl rfl dX1_fromImage_125 (fun H locs hP hD hT hS => ?_)
  refine lv_lload hx hb dX1_fromImage_128 (lv_at hl 0 rfl) ?_
  refine lv_ldc2 hx hb hown (hts (.constantLong RX1 119 (7)) (List.mem_of_getElem? (i := 12) (by decide +kernel))) dX1_fromImage_130 ?_
  refine lv_ldiv hx hb dX1_fromImage_133 (by decide) ?_
  refine lv_lstore (lv' := [(4, .long (((((((x1 / 201) / 3) / 4) / 10) / 4) / 541) / 7)), (0, .ref (ad a0)), (1, .long x1), (3, .ref (ad a3))]) hx hb dX1_fromImage_134 hl (by decide) rfl (fun ls hl => ?_)
  refine lv_aload_n hx hb dX1_fromImage_136 rfl (lv_at hl 1 rfl) ?_
  refine lv_lload hx hb dX1_fromImage_137 (lv_at hl 0 rfl) ?_
  refine lv_ldc2 hx hb hown (hts (.constantLong RX1 117 (6)) (List.mem_of_getElem? (i := 14) (by decide +kernel))) dX1_fromImage_139 ?_
  refine lv_lrem hx hb dX1_fromImage_142 (by decide) ?_
  refine lv_l2i hx hb dX1_fromImage_143 rfl ?_
  refine r_putI (T := TX1) (ty := .int) (v := ((((((((x1 / 201) / 3) / 4) / 10) / 4) / 541) / 7) - (((((((x1 / 201) / 3) / 4) / 10) / 4) / 541) / 7) / 6 * 6).toInt32) hx hb hts in1 tyX1 tyX1_ok nmX1 hown hK hP hD hT hS k0 (by decide) rfl 2 (by decide) (hts (.fieldLink RX1 19 "StoneWalk$Journey" "told" "I") (List.mem_of_getElem? (i := 15) (by decide +kernel))) rfl rfl (tyX1_ok 2 (by decide)) rfl rfl rfl dX1_fromImage_144 (fun H locs hP hD hT hS => ?_)
  refine lv_lload hx hb dX1_fromImage_147 (lv_at hl 0 rfl) ?_
  refine lv_ldc2 hx hb hown (hts (.constantLong RX1 117 (6)) (List.mem_of_getElem? (i := 14) (by decide +kernel))) dX1_fromImage_149 ?_
  refine lv_ldiv hx hb dX1_fromImage_152 (by decide) ?_
  refine lv_lstore (lv' := [(4, .long ((((((((x1 / 201) / 3) / 4) / 10) / 4) / 541) / 7) / 6)), (0, .ref (ad a0)), (1, .long x1), (3, .ref (ad a3))]) hx hb dX1_fromImage_153 hl (by decide) rfl (fun ls hl => ?_)
  refine lv_lload_n hx hb dX1_fromImage_155 rfl (lv_at hl 2 rfl) ?_
  refine lv_lconst (v := 0) hx hb dX1_fromImage_156 rfl ?_
  refine W.lcmp hx hb dX1_fromImage_157 ?_
  refine lv_if_lt (tgt := 178) hx hb dX1_fromImage_158 rfl (fun c1 => ?_) (fun c1 => ?_)
  · replace h := ite_t c1 h
    refine lv_iconst (v := 0) hx hb dX1_fromImage_178 rfl ?_
    have hZ := Option.some.inj h
    have hZ1 := congrArg Prod.fst hZ
    have hZ2 := congrArg Prod.snd hZ
    exact r_zret hx hb hr hlocks hP hK hD hT hG hS zb_0 hZ1 hZ2 dX1_fromImage_179
  · replace h := ite_f c1 h
    refine lv_lload hx hb dX1_fromImage_161 (lv_at hl 0 rfl) ?_
    refine lv_ldc2 hx hb hown (hts (.constantLong RX1 131 (65536)) (List.mem_of_getElem? (i := 16) (by decide +kernel))) dX1_fromImage_163 ?_
    refine W.lcmp hx hb dX1_fromImage_166 ?_
    refine lv_if_gt (tgt := 178) hx hb dX1_fromImage_167 rfl (fun c2 => ?_) (fun c2 => ?_)
    · replace h := ite_t c2 h
      refine lv_iconst (v := 0) hx hb dX1_fromImage_178 rfl ?_
      have hZ := Option.some.inj h
      have hZ1 := congrArg Prod.fst hZ
      have hZ2 := congrArg Prod.snd hZ
      exact r_zret hx hb hr hlocks hP hK hD hT hG hS zb_0 hZ1 hZ2 dX1_fromImage_179
    · replace h := ite_f c2 h
      refine lv_aload_n hx hb dX1_fromImage_170 rfl (lv_at hl 1 rfl) ?_
      refine lv_aload_n hx hb dX1_fromImage_171 rfl (lv_at hl 3 rfl) ?_
      obtain ⟨z3, h3, h⟩ := ob_some h
      refine k_z (va_runV (As := [.ref (ad a3)]) (rest := []) ⟨hx, hb, hml, hown, hts⟩ (c_X1_isOf (l := l) (pI (pI (pI (pI (pI (pI (pI (pI M a0 3 ((x1 - x1 / 201 * 201).toInt32)) a0 6 (((x1 / 201) - (x1 / 201) / 3 * 3).toInt32)) a0 5 ((((x1 / 201) / 3) - ((x1 / 201) / 3) / 4 * 4).toInt32)) a0 4 (((((x1 / 201) / 3) / 4) - (((x1 / 201) / 3) / 4) / 10 * 10).toInt32)) a0 10 ((((((x1 / 201) / 3) / 4) / 10) - ((((x1 / 201) / 3) / 4) / 10) / 4 * 4).toInt32)) a0 8 (((((((x1 / 201) / 3) / 4) / 10) / 4) - (((((x1 / 201) / 3) / 4) / 10) / 4) / 541 * 541).toInt32)) a0 7 ((((((((x1 / 201) / 3) / 4) / 10) / 4) / 541) - ((((((x1 / 201) / 3) / 4) / 10) / 4) / 541) / 7 * 7).toInt32)) a0 2 (((((((((x1 / 201) / 3) / 4) / 10) / 4) / 541) / 7) - (((((((x1 / 201) / 3) / 4) / 10) / 4) / 541) / 7) / 6 * 6).toInt32)) a0 a3 k0 k3 h3) (cwV 1 hts gX1_fromImage_X1_isOf rfl rfl rfl hdV_X1_isOf ⟨Nat.le_of_ble_eq_true rfl, Nat.le_of_ble_eq_true rfl⟩) (pV (T := TX1) hP hK hD hT hG hS k0 (by decide) rfl) rfl rfl hl.1 rfl (lv_room (Nat.le_of_ble_eq_true rfl)) dX1_fromImage_172 ⟨Nat.zero_le _, Nat.zero_le _⟩) hS (fun H locs hz3 hP hD hT hS => ?_)
      refine lv_if_ne (tgt := 180) hx hb dX1_fromImage_175 rfl (fun c4 => ?_) (fun c4 => ?_)
      · replace h := ite_f c4 h
        refine lv_aload_n hx hb dX1_fromImage_180 rfl (lv_at hl 1 rfl) ?_
        refine lv_iconst (v := 1) hx hb dX1_fromImage_181 rfl ?_
        refine r_putI (T := TX1) (ty := .boolean) (v := 1) hx hb hts in1 tyX1 tyX1_ok nmX1 hown hK hP hD hT hS k0 (by decide) rfl 1 (by decide) (hts (.fieldLink RX1 9 "StoneWalk$Journey" "begun" "Z") (List.mem_of_getElem? (i := 17) (by decide +kernel))) rfl rfl (tyX1_ok 1 (by decide)) (zb_n zb_1) rfl rfl dX1_fromImage_182 (fun H locs hP hD hT hS => ?_)
        refine lv_aload_n hx hb dX1_fromImage_185 rfl (lv_at hl 1 rfl) ?_
        refine lv_lload hx hb dX1_fromImage_186 (lv_at hl 0 rfl) ?_
        refine lv_l2i hx hb dX1_fromImage_188 rfl ?_
        refine r_putI (T := TX1) (ty := .int) (v := ((((((((x1 / 201) / 3) / 4) / 10) / 4) / 541) / 7) / 6).toInt32) hx hb hts in1 tyX1 tyX1_ok nmX1 hown hK hP hD hT hS k0 (by decide) rfl 0 (by decide) (hts (.fieldLink RX1 15 "StoneWalk$Journey" "seed" "I") (List.mem_of_getElem? (i := 18) (by decide +kernel))) rfl rfl (tyX1_ok 0 (by decide)) rfl rfl rfl dX1_fromImage_189 (fun H locs hP hD hT hS => ?_)
        refine lv_aload_n hx hb dX1_fromImage_192 rfl (lv_at hl 1 rfl) ?_
        refine r_get (T := TX1) (v := .int (gI (pI (pI (pI (pI (pI (pI (pI (pI (pI (pI M a0 3 ((x1 - x1 / 201 * 201).toInt32)) a0 6 (((x1 / 201) - (x1 / 201) / 3 * 3).toInt32)) a0 5 ((((x1 / 201) / 3) - ((x1 / 201) / 3) / 4 * 4).toInt32)) a0 4 (((((x1 / 201) / 3) / 4) - (((x1 / 201) / 3) / 4) / 10 * 10).toInt32)) a0 10 ((((((x1 / 201) / 3) / 4) / 10) - ((((x1 / 201) / 3) / 4) / 10) / 4 * 4).toInt32)) a0 8 (((((((x1 / 201) / 3) / 4) / 10) / 4) - (((((x1 / 201) / 3) / 4) / 10) / 4) / 541 * 541).toInt32)) a0 7 ((((((((x1 / 201) / 3) / 4) / 10) / 4) / 541) - ((((((x1 / 201) / 3) / 4) / 10) / 4) / 541) / 7 * 7).toInt32)) a0 2 (((((((((x1 / 201) / 3) / 4) / 10) / 4) / 541) / 7) - (((((((x1 / 201) / 3) / 4) / 10) / 4) / 541) / 7) / 6 * 6).toInt32)) a0 1 1) a0 0 (((((((((x1 / 201) / 3) / 4) / 10) / 4) / 541) / 7) / 6).toInt32)) a0 2)) hx hb hts in1 hown hK hP k0 (by decide) rfl 2 (by decide) (hts (.fieldLink RX1 19 "StoneWalk$Journey" "told" "I") (List.mem_of_getElem? (i := 15) (by decide +kernel))) rfl (t := 0) rfl rfl dX1_fromImage_193 ?_
        refine lv_iconst (v := 3) hx hb dX1_fromImage_196 rfl ?_
        refine lv_icmp_eq (tgt := 206) hx hb dX1_fromImage_197 rfl (fun c5 => ?_) (fun c5 => ?_)
        · replace h := ite_t c5 h
          refine lv_aload_n hx hb dX1_fromImage_206 rfl (lv_at hl 1 rfl) ?_
          refine lv_aload_n hx hb dX1_fromImage_207 rfl (lv_at hl 1 rfl) ?_
          refine lv_aload_n hx hb dX1_fromImage_208 rfl (lv_at hl 3 rfl) ?_
          obtain ⟨z6, h6, h⟩ := ob_some h
          refine k_i (va_runV (As := [.ref (ad a3)]) (rest := [.ref (ad a0)]) ⟨hx, hb, hml, hown, hts⟩ (c_X1_woodSoFar (l := l) (pI (pI (pI (pI (pI (pI (pI (pI (pI (pI M a0 3 ((x1 - x1 / 201 * 201).toInt32)) a0 6 (((x1 / 201) - (x1 / 201) / 3 * 3).toInt32)) a0 5 ((((x1 / 201) / 3) - ((x1 / 201) / 3) / 4 * 4).toInt32)) a0 4 (((((x1 / 201) / 3) / 4) - (((x1 / 201) / 3) / 4) / 10 * 10).toInt32)) a0 10 ((((((x1 / 201) / 3) / 4) / 10) - ((((x1 / 201) / 3) / 4) / 10) / 4 * 4).toInt32)) a0 8 (((((((x1 / 201) / 3) / 4) / 10) / 4) - (((((x1 / 201) / 3) / 4) / 10) / 4) / 541 * 541).toInt32)) a0 7 ((((((((x1 / 201) / 3) / 4) / 10) / 4) / 541) - ((((((x1 / 201) / 3) / 4) / 10) / 4) / 541) / 7 * 7).toInt32)) a0 2 (((((((((x1 / 201) / 3) / 4) / 10) / 4) / 541) / 7) - (((((((x1 / 201) / 3) / 4) / 10) / 4) / 541) / 7) / 6 * 6).toInt32)) a0 1 1) a0 0 (((((((((x1 / 201) / 3) / 4) / 10) / 4) / 541) / 7) / 6).toInt32)) a0 a3 k0 k3 h6) (cwV 1 hts gX1_fromImage_X1_woodSoFar rfl rfl rfl hdV_X1_woodSoFar ⟨Nat.le_of_ble_eq_true rfl, Nat.le_of_ble_eq_true rfl⟩) (pV (T := TX1) hP hK hD hT hG hS k0 (by decide) rfl) rfl rfl hl.1 rfl (lv_room (Nat.le_of_ble_eq_true rfl)) dX1_fromImage_209 ⟨Nat.zero_le _, Nat.zero_le _⟩) hS (fun H locs hP hD hT hS => ?_)
          refine r_putI (T := TX1) (ty := .int) (v := z6) hx hb hts in1 tyX1 tyX1_ok nmX1 hown hK hP hD hT hS k0 (by decide) rfl 9 (by decide) (hts (.fieldLink RX1 40 "StoneWalk$Journey" "wood" "I") (List.mem_of_getElem? (i := 19) (by decide +kernel))) rfl rfl (tyX1_ok 9 (by decide)) rfl rfl rfl dX1_fromImage_212 (fun H locs hP hD hT hS => ?_)
          refine lv_iconst (v := 1) hx hb dX1_fromImage_215 rfl ?_
          have hZ := Option.some.inj h
          have hZ1 := congrArg Prod.fst hZ
          have hZ2 := congrArg Prod.snd hZ
          exact r_zret hx hb hr hlocks hP hK hD hT hG hS zb_1 hZ1 hZ2 dX1_fromImage_216
        · replace h := ite_f c5 h
          refine lv_aload_n hx hb dX1_fromImage_200 rfl (lv_at hl 1 rfl) ?_
          refine lv_bipush (v := (-2)) hx hb dX1_fromImage_201 rfl ?_
          refine r_putI (T := TX1) (ty := .int) (v := (-2)) hx hb hts in1 tyX1 tyX1_ok nmX1 hown hK hP hD hT hS k0 (by decide) rfl 10 (by decide) (hts (.fieldLink RX1 43 "StoneWalk$Journey" "lie" "I") (List.mem_of_getElem? (i := 9) (by decide +kernel))) rfl rfl (tyX1_ok 10 (by decide)) rfl rfl rfl dX1_fromImage_203 (fun H locs hP hD hT hS => ?_)
          refine lv_aload_n hx hb dX1_fromImage_206 rfl (lv_at hl 1 rfl) ?_
          refine lv_aload_n hx hb dX1_fromImage_207 rfl (lv_at hl 1 rfl) ?_
          refine lv_aload_n hx hb dX1_fromImage_208 rfl (lv_at hl 3 rfl) ?_
          obtain ⟨z7, h7, h⟩ := ob_some h
          refine k_i (va_runV (As := [.ref (ad a3)]) (rest := [.ref (ad a0)]) ⟨hx, hb, hml, hown, hts⟩ (c_X1_woodSoFar (l := l) (pI (pI (pI (pI (pI (pI (pI (pI (pI (pI (pI M a0 3 ((x1 - x1 / 201 * 201).toInt32)) a0 6 (((x1 / 201) - (x1 / 201) / 3 * 3).toInt32)) a0 5 ((((x1 / 201) / 3) - ((x1 / 201) / 3) / 4 * 4).toInt32)) a0 4 (((((x1 / 201) / 3) / 4) - (((x1 / 201) / 3) / 4) / 10 * 10).toInt32)) a0 10 ((((((x1 / 201) / 3) / 4) / 10) - ((((x1 / 201) / 3) / 4) / 10) / 4 * 4).toInt32)) a0 8 (((((((x1 / 201) / 3) / 4) / 10) / 4) - (((((x1 / 201) / 3) / 4) / 10) / 4) / 541 * 541).toInt32)) a0 7 ((((((((x1 / 201) / 3) / 4) / 10) / 4) / 541) - ((((((x1 / 201) / 3) / 4) / 10) / 4) / 541) / 7 * 7).toInt32)) a0 2 (((((((((x1 / 201) / 3) / 4) / 10) / 4) / 541) / 7) - (((((((x1 / 201) / 3) / 4) / 10) / 4) / 541) / 7) / 6 * 6).toInt32)) a0 1 1) a0 0 (((((((((x1 / 201) / 3) / 4) / 10) / 4) / 541) / 7) / 6).toInt32)) a0 10 (-2)) a0 a3 k0 k3 h7) (cwV 1 hts gX1_fromImage_X1_woodSoFar rfl rfl rfl hdV_X1_woodSoFar ⟨Nat.le_of_ble_eq_true rfl, Nat.le_of_ble_eq_true rfl⟩) (pV (T := TX1) hP hK hD hT hG hS k0 (by decide) rfl) rfl rfl hl.1 rfl (lv_room (Nat.le_of_ble_eq_true rfl)) dX1_fromImage_209 ⟨Nat.zero_le _, Nat.zero_le _⟩) hS (fun H locs hP hD hT hS => ?_)
          refine r_putI (T := TX1) (ty := .int) (v := z7) hx hb hts in1 tyX1 tyX1_ok nmX1 hown hK hP hD hT hS k0 (by decide) rfl 9 (by decide) (hts (.fieldLink RX1 40 "StoneWalk$Journey" "wood" "I") (List.mem_of_getElem? (i := 19) (by decide +kernel))) rfl rfl (tyX1_ok 9 (by decide)) rfl rfl rfl dX1_fromImage_212 (fun H locs hP hD hT hS => ?_)
          refine lv_iconst (v := 1) hx hb dX1_fromImage_215 rfl ?_
          have hZ := Option.some.inj h
          have hZ1 := congrArg Prod.fst hZ
          have hZ2 := congrArg Prod.snd hZ
          exact r_zret hx hb hr hlocks hP hK hD hT hG hS zb_1 hZ1 hZ2 dX1_fromImage_216
      · replace h := ite_t c4 h
        refine lv_iconst (v := 0) hx hb dX1_fromImage_178 rfl ?_
        have hZ := Option.some.inj h
        have hZ1 := congrArg Prod.fst hZ
        have hZ2 := congrArg Prod.snd hZ
        exact r_zret hx hb hr hlocks hP hK hD hT hG hS zb_0 hZ1 hZ2 dX1_fromImage_179
set_option maxHeartbeats 4000000 in
set_option maxRecDepth 100000 in
theorem c_X2_fail {l : Launch} {D : va_G} {ad : Nat → Nat} {cy : Nat → ClassId} {A : Nat → Prop} {g : CG} {q : SE} (M : MM) (a0 : Nat) (x1 : Int32) (k0 : ok g a0 2 0) {Z : MM} (h : f_X2_fail M a0 x1 = some Z) : Met l yX2_fail wsX2_fail ({ frames := 0, cells := 0, slots := 0, locals := 0 }) (va_Pc [.ref (ad a0), .int x1] (Wd D ad cy A g q M)) (va_Qv (fun u => u = Z) (Wd D ad cy A g q) A) 0 0 A := by
  refine Met.ofW (cc := cX2_fail) (maxL := 2) (ret := none) (by decide) rfl ?_
  intro p e s m args below meth c s₁ B hml hv
  obtain ⟨rfl, hP, hK, hD, hT, hG⟩ := hv
  have hx := B.exec
  have hb := B.bytes
  have hr := B.returns
  have hts := atoms_spec (ws := wsX2_fail) B.pre
  have hown : s.vm.findClass RX2 = some m.cls := findClass_of_methodNamed B.named
  have hlocks := B.notSynchronized
  have in2 : ∀ w ∈ u_ws RX2 TX2 7, w ∈ wsX2_fail := fun w h => List.mem_cons_of_mem _ (List.mem_append_left _ (List.mem_append_right _ h))
  have in7 : ∀ w ∈ u_ws RX7 TX7 7, w ∈ wsX2_fail := fun w h => List.mem_cons_of_mem _ (List.mem_append_right _ h)
  have hS : va_S A s.heap s.heap [] := va_S.rf
  have hl := lv_entry ([.ref (ad a0), .int x1]) (n := 2) (Nat.le_of_ble_eq_true rfl)
  rw [lg_entry_eq]
  generalize (lg_sl ([.ref (ad a0), .int x1]) ++ List.replicate (2 - (lg_sl ([.ref (ad a0), .int x1])).length) Slot.unset).toArray = ls at hl ⊢
  have hl : lv_has ls 2 [(0, .ref (ad a0)), (1, .int x1)] := hl
  unfold f_X2_fail at h
  refine lv_aload_n hx hb dX2_fail_0 rfl (lv_at hl 0 rfl) ?_
  refine r_get (T := TX2) (v := .int (gI M a0 5)) hx hb hts in2 hown hK hP k0 (by decide) rfl 5 (by decide) (hts (.fieldLink RX2 26 "StoneWalk$Reader" "fault" "I") (List.mem_of_getElem? (i := 1) (by decide +kernel))) rfl (t := 0) rfl rfl dX2_fail_1 ?_
  refine lv_if_ne (tgt := 23) hx hb dX2_fail_4 rfl (fun c1 => ?_) (fun c1 => ?_)
  · replace h := ite_f c1 h
    exact r_vret hx hb hr hlocks hP hK hD hT hG hS (Option.some.inj h) dX2_fail_23
  · replace h := ite_t c1 h
    refine lv_aload_n hx hb dX2_fail_7 rfl (lv_at hl 0 rfl) ?_
    refine lv_iload_n hx hb dX2_fail_8 rfl (lv_at hl 1 rfl) ?_
    refine r_putI (T := TX2) (ty := .int) (v := x1) hx hb hts in2 tyX2 tyX2_ok nmX2 hown hK hP hD hT hS k0 (by decide) rfl 5 (by decide) (hts (.fieldLink RX2 26 "StoneWalk$Reader" "fault" "I") (List.mem_of_getElem? (i := 1) (by decide +kernel))) rfl rfl (tyX2_ok 5 (by decide)) rfl rfl rfl dX2_fail_9 (fun H locs hP hD hT hS => ?_)
    refine lv_aload_n hx hb dX2_fail_12 rfl (lv_at hl 0 rfl) ?_
    refine lv_aload_n hx hb dX2_fail_13 rfl (lv_at hl 0 rfl) ?_
    rcases hN2 : gR (pI M a0 5 x1) a0 0 with _ | b2
    · exact absurd (oc_n hN2 h) (by simp)
    replace h := oc_s hN2 h
    have kb2 := hT.f k0 (k := 0) (t := 7) (n := 0) rfl hN2
    refine r_get (T := TX2) (v := .ref (ad b2)) hx hb hts in2 hown hK hP k0 (by decide) rfl 0 (by decide) (hts (.fieldLink RX2 22 "StoneWalk$Reader" "tape" "LStoneWalk$Tape;") (List.mem_of_getElem? (i := 2) (by decide +kernel))) rfl (t := 2) rfl (by show va_rf _ = _; rw [hN2]; rfl) dX2_fail_14 ?_
    refine r_get (T := TX7) (v := .int (gI (pI M a0 5 x1) b2 5)) hx hb hts in7 hown hK hP kb2 (by decide) rfl 5 (by decide) (hts (.fieldLink RX2 331 "StoneWalk$Tape" "start" "I") (List.mem_of_getElem? (i := 3) (by decide +kernel))) rfl (t := 0) rfl rfl dX2_fail_17 ?_
    refine r_putI (T := TX2) (ty := .int) (v := gI (pI M a0 5 x1) b2 5) hx hb hts in2 tyX2 tyX2_ok nmX2 hown hK hP hD hT hS k0 (by decide) rfl 6 (by decide) (hts (.fieldLink RX2 30 "StoneWalk$Reader" "place" "I") (List.mem_of_getElem? (i := 4) (by decide +kernel))) rfl rfl (tyX2_ok 6 (by decide)) rfl rfl rfl dX2_fail_20 (fun H locs hP hD hT hS => ?_)
    exact r_vret hx hb hr hlocks hP hK hD hT hG hS (Option.some.inj h) dX2_fail_23
set_option maxHeartbeats 4000000 in
set_option maxRecDepth 100000 in
theorem c_X2_findName {l : Launch} {D : va_G} {ad : Nat → Nat} {cy : Nat → ClassId} {A : Nat → Prop} {g : CG} {q : SE} (M : MM) (a0 : Nat) (k0 : ok g a0 2 0) {Z : Int32} (h : f_X2_findName M a0 = some Z) : Met l yX2_findName wsX2_findName ({ frames := 0, cells := 0, slots := 0, locals := 0 }) (va_Pc [.ref (ad a0)] (Wd D ad cy A g q M)) (va_Qi (fun r u => r = Z ∧ u = M) (Wd D ad cy A g q) A) 0 0 A := by
  refine Met.ofW (cc := cX2_findName) (maxL := 2) (ret := (some .int)) (by decide) rfl ?_
  intro p e s m args below meth c s₁ B hml hv
  obtain ⟨rfl, hP, hK, hD, hT, hG⟩ := hv
  have hx := B.exec
  have hb := B.bytes
  have hr := B.returns
  have hts := atoms_spec (ws := wsX2_findName) B.pre
  have hown : s.vm.findClass RX2 = some m.cls := findClass_of_methodNamed B.named
  have hlocks := B.notSynchronized
  have in2 : ∀ w ∈ u_ws RX2 TX2 7, w ∈ wsX2_findName := fun w h => List.mem_cons_of_mem _ (List.mem_append_left _ (List.mem_append_right _ h))
  have in7 : ∀ w ∈ u_ws RX7 TX7 7, w ∈ wsX2_findName := fun w h => List.mem_cons_of_mem _ (List.mem_append_right _ h)
  have hS : va_S A s.heap s.heap [] := va_S.rf
  have hl := lv_entry ([.ref (ad a0)]) (n := 2) (Nat.le_of_ble_eq_true rfl)
  rw [lg_entry_eq]
  generalize (lg_sl ([.ref (ad a0)]) ++ List.replicate (2 - (lg_sl ([.ref (ad a0)])).length) Slot.unset).toArray = ls at hl ⊢
  have hl : lv_has ls 2 [(0, .ref (ad a0))] := hl
  unfold f_X2_findName at h
  refine lv_iconst (v := 0) hx hb dX2_findName_0 rfl ?_
  refine lv_istore_n (lv' := [(1, .int 0), (0, .ref (ad a0))]) hx hb dX2_findName_1 rfl hl (by decide) rfl (fun ls hl => ?_)
  have L1 : ∀ n1 : Nat, ∀ (y1_0 : Nat) (y1_1 : Int32) (ky1_0 : ok g y1_0 2 0) (H : Heap) (locs : List Loc), f_X2_findName_L2 n1 M y1_0 y1_1 = some Z → va_P D vwCl (wd ad cy g M) H → va_D A (wd ad cy g M) → WT g M → va_S A s.heap H locs → ∀ (ls : Array Slot), lv_has ls 2 [(0, .ref (ad y1_0)), (1, .int y1_1)] → W p l e ((headSpec wsX2_findName ({ frames := 0, cells := 0, slots := 0, locals := 0 })).room) s m (([.ref (ad a0)] : List Value).toArray) below meth c H locs 0 0 (MQ below (va_Qi (fun r u => r = Z ∧ u = M) (Wd D ad cy A g q) A) ([.ref (ad a0)]).toArray s 0 0 A) (F0 m 2 ls []) := by
    intro n1
    induction n1 with
    | zero => intro y1_0 y1_1 ky1_0 H locs h; exact absurd h (by simp [f_X2_findName_L2])
    | succ n1 ih1 =>
      intro y1_0 y1_1 ky1_0 H locs h hP hD hT hS ls hl
      rw [f_X2_findName_L2] at h
      refine lv_iload_n hx hb dX2_findName_2 rfl (lv_at hl 1 rfl) ?_
      refine lv_aload_n hx hb dX2_findName_3 rfl (lv_at hl 0 rfl) ?_
      refine r_get (T := TX2) (v := .int (gI M y1_0 4)) hx hb hts in2 hown hK hP ky1_0 (by decide) rfl 4 (by decide) (hts (.fieldLink RX2 33 "StoneWalk$Reader" "told" "I") (List.mem_of_getElem? (i := 1) (by decide +kernel))) rfl (t := 0) rfl rfl dX2_findName_4 ?_
      refine lv_icmp_ge (tgt := 44) hx hb dX2_findName_7 rfl (fun c2 => ?_) (fun c2 => ?_)
      · replace h := ite_t c2 h
        refine lv_iconst (v := (-1)) hx hb dX2_findName_44 rfl ?_
        exact r_iret hx hb hr hlocks hP hK hD hT hG hS (Option.some.inj h) rfl dX2_findName_45
      · replace h := ite_f c2 h
        refine lv_iload_n hx hb dX2_findName_10 rfl (lv_at hl 1 rfl) ?_
        refine lv_aload_n hx hb dX2_findName_11 rfl (lv_at hl 0 rfl) ?_
        rcases hN3 : gR M y1_0 1 with _ | b3
        · exact absurd (oc_n hN3 h) (by simp)
        replace h := oc_s hN3 h
        have kb3 := hT.f ky1_0 (k := 1) (t := 16) (n := 35) rfl hN3
        refine r_get (T := TX2) (v := .ref (ad b3)) hx hb hts in2 hown hK hP ky1_0 (by decide) rfl 1 (by decide) (hts (.fieldLink RX2 9 "StoneWalk$Reader" "names" "[J") (List.mem_of_getElem? (i := 2) (by decide +kernel))) rfl (t := 2) rfl (by show va_rf _ = _; rw [hN3]; rfl) dX2_findName_12 ?_
        refine r_alen (t0 := 2) (v := 35) hx hb hK hP kb3 (by decide) rfl rfl dX2_findName_15 ?_
        refine lv_icmp_ge (tgt := 44) hx hb dX2_findName_16 rfl (fun c4 => ?_) (fun c4 => ?_)
        · replace h := ite_t c4 h
          refine lv_iconst (v := (-1)) hx hb dX2_findName_44 rfl ?_
          exact r_iret hx hb hr hlocks hP hK hD hT hG hS (Option.some.inj h) rfl dX2_findName_45
        · replace h := ite_f c4 h
          refine lv_aload_n hx hb dX2_findName_19 rfl (lv_at hl 0 rfl) ?_
          rcases hN5 : gR M y1_0 1 with _ | b5
          · exact absurd (oc_n hN5 h) (by simp)
          replace h := oc_s hN5 h
          have kb5 := hT.f ky1_0 (k := 1) (t := 16) (n := 35) rfl hN5
          refine r_get (T := TX2) (v := .ref (ad b5)) hx hb hts in2 hown hK hP ky1_0 (by decide) rfl 1 (by decide) (hts (.fieldLink RX2 9 "StoneWalk$Reader" "names" "[J") (List.mem_of_getElem? (i := 2) (by decide +kernel))) rfl (t := 2) rfl (by show va_rf _ = _; rw [hN5]; rfl) dX2_findName_20 ?_
          refine lv_iload_n hx hb dX2_findName_23 rfl (lv_at hl 1 rfl) ?_
          obtain ⟨hn6, h⟩ := chk_some h
          refine r_lald hx hb hK hP kb5 hn6 dX2_findName_24 ?_
          refine lv_aload_n hx hb dX2_findName_25 rfl (lv_at hl 0 rfl) ?_
          rcases hN7 : gR M y1_0 0 with _ | b7
          · exact absurd (oc_n hN7 h) (by simp)
          replace h := oc_s hN7 h
          have kb7 := hT.f ky1_0 (k := 0) (t := 7) (n := 0) rfl hN7
          refine r_get (T := TX2) (v := .ref (ad b7)) hx hb hts in2 hown hK hP ky1_0 (by decide) rfl 0 (by decide) (hts (.fieldLink RX2 22 "StoneWalk$Reader" "tape" "LStoneWalk$Tape;") (List.mem_of_getElem? (i := 3) (by decide +kernel))) rfl (t := 2) rfl (by show va_rf _ = _; rw [hN7]; rfl) dX2_findName_26 ?_
          refine r_get (T := TX7) (v := .long (gL M b7 6)) hx hb hts in7 hown hK hP kb7 (by decide) rfl 6 (by decide) (hts (.fieldLink RX2 337 "StoneWalk$Tape" "value" "J") (List.mem_of_getElem? (i := 4) (by decide +kernel))) rfl (t := 1) rfl rfl dX2_findName_29 ?_
          refine W.lcmp hx hb dX2_findName_32 ?_
          refine lv_if_ne (tgt := 38) hx hb dX2_findName_33 rfl (fun c8 => ?_) (fun c8 => ?_)
          · replace h := ite_f c8 h
            refine lv_iinc (v := y1_1 + 1) (lv' := [(1, .int (y1_1 + 1)), (0, .ref (ad y1_0))]) hx hb dX2_findName_38 hl (k := 1) rfl rfl (by decide) rfl (fun ls hl => ?_)
            refine lv_goto (tgt := 2) hx hb dX2_findName_41 rfl ?_
            exact ih1 y1_0 (y1_1 + 1) ky1_0 _ _ h hP hD hT hS ls (lv_sub hl [1, 0] rfl)
          · replace h := ite_t c8 h
            refine lv_iload_n hx hb dX2_findName_36 rfl (lv_at hl 1 rfl) ?_
            exact r_iret hx hb hr hlocks hP hK hD hT hG hS (Option.some.inj h) rfl dX2_findName_37
  exact L1 FU a0 0 k0 _ _ h hP hD hT hS ls (lv_sub hl [1, 0] rfl)
set_option maxHeartbeats 4000000 in
set_option maxRecDepth 100000 in
theorem c_X2_tellName {l : Launch} {D : va_G} {ad : Nat → Nat} {cy : Nat → ClassId} {A : Nat → Prop} {g : CG} {q : SE} (M : MM) (a0 : Nat) (x1 : Int32) (x2 : Int32) (k0 : ok g a0 2 0) {Z : MM} (h : f_X2_tellName M a0 x1 x2 = some Z) : Met l yX2_tellName wsX2_tellName ({ frames := 5, cells := 0, slots := 0, locals := 111 }) (va_Pc [.ref (ad a0), .int x1, .int x2] (Wd D ad cy A g q M)) (va_Qv (fun u => u = Z) (Wd D ad cy A g q) A) 0 0 A := by
  refine Met.ofW (cc := cX2_tellName) (maxL := 3) (ret := none) (by decide) rfl ?_
  intro p e s m args below meth c s₁ B hml hv
  obtain ⟨rfl, hP, hK, hD, hT, hG⟩ := hv
  have hx := B.exec
  have hb := B.bytes
  have hr := B.returns
  have hts := atoms_spec (ws := wsX2_tellName) B.pre
  have hown : s.vm.findClass RX2 = some m.cls := findClass_of_methodNamed B.named
  have hlocks := B.notSynchronized
  have in2 : ∀ w ∈ u_ws RX2 TX2 7, w ∈ wsX2_tellName := fun w h => List.mem_cons_of_mem _ (List.mem_append_left _ (List.mem_append_right _ h))
  have in7 : ∀ w ∈ u_ws RX7 TX7 7, w ∈ wsX2_tellName := fun w h => List.mem_cons_of_mem _ (List.mem_append_right _ h)
  have hS : va_S A s.heap s.heap [] := va_S.rf
  have hl := lv_entry ([.ref (ad a0), .int x1, .int x2]) (n := 3) (Nat.le_of_ble_eq_true rfl)
  rw [lg_entry_eq]
  generalize (lg_sl ([.ref (ad a0), .int x1, .int x2]) ++ List.replicate (3 - (lg_sl ([.ref (ad a0), .int x1, .int x2])).length) Slot.unset).toArray = ls at hl ⊢
  have hl : lv_has ls 3 [(0, .ref (ad a0)), (1, .int x1), (2, .int x2)] := hl
  unfold f_X2_tellName at h
  refine lv_aload_n hx hb dX2_tellName_0 rfl (lv_at hl 0 rfl) ?_
  rcases hN1 : gR M a0 0 with _ | b1
  · exact absurd (oc_n hN1 h) (by simp)
  replace h := oc_s hN1 h
  have kb1 := hT.f k0 (k := 0) (t := 7) (n := 0) rfl hN1
  refine r_get (T := TX2) (v := .ref (ad b1)) hx hb hts in2 hown hK hP k0 (by decide) rfl 0 (by decide) (hts (.fieldLink RX2 22 "StoneWalk$Reader" "tape" "LStoneWalk$Tape;") (List.mem_of_getElem? (i := 1) (by decide +kernel))) rfl (t := 2) rfl (by show va_rf _ = _; rw [hN1]; rfl) dX2_tellName_1 ?_
  obtain ⟨z2, h2, h⟩ := ob_some h
  refine k_z (va_runV (As := []) (rest := []) ⟨hx, hb, hml, hown, hts⟩ (c_X7_isWord (l := l) M b1 kb1 h2) (cwV 0 hts gX2_tellName_X7_isWord rfl rfl rfl hdV_X7_isWord ⟨Nat.le_of_ble_eq_true rfl, Nat.le_of_ble_eq_true rfl⟩) (pV (T := TX7) hP hK hD hT hG hS kb1 (by decide) rfl) rfl rfl hl.1 rfl (lv_room (Nat.le_of_ble_eq_true rfl)) dX2_tellName_4 ⟨Nat.zero_le _, Nat.zero_le _⟩) hS (fun H locs hz2 hP hD hT hS => ?_)
  refine lv_if_eq (tgt := 24) hx hb dX2_tellName_7 rfl (fun c3 => ?_) (fun c3 => ?_)
  · replace h := ite_t c3 h
    refine lv_aload_n hx hb dX2_tellName_24 rfl (lv_at hl 0 rfl) ?_
    refine lv_iconst (v := 1) hx hb dX2_tellName_25 rfl ?_
    obtain ⟨z4, h4, h⟩ := ob_some h
    refine k_v (va_runV (As := [.int 1]) (rest := []) ⟨hx, hb, hml, hown, hts⟩ (c_X2_fail (l := l) M a0 1 k0 h4) (cwV 1 hts gX2_tellName_X2_fail rfl rfl rfl hdV_X2_fail ⟨Nat.le_of_ble_eq_true rfl, Nat.le_of_ble_eq_true rfl⟩) (pV (T := TX2) hP hK hD hT hG hS k0 (by decide) rfl) rfl rfl hl.1 rfl (lv_room (Nat.le_of_ble_eq_true rfl)) dX2_tellName_26 ⟨Nat.zero_le _, Nat.zero_le _⟩) hS (fun H locs hP hD hT hS => ?_)
    refine lv_goto (tgt := 106) hx hb dX2_tellName_29 rfl ?_
    refine lv_aload_n hx hb dX2_tellName_106 rfl (lv_at hl 0 rfl) ?_
    rcases hN5 : gR z4 a0 0 with _ | b5
    · exact absurd (oc_n hN5 h) (by simp)
    replace h := oc_s hN5 h
    have kb5 := hT.f k0 (k := 0) (t := 7) (n := 0) rfl hN5
    refine r_get (T := TX2) (v := .ref (ad b5)) hx hb hts in2 hown hK hP k0 (by decide) rfl 0 (by decide) (hts (.fieldLink RX2 22 "StoneWalk$Reader" "tape" "LStoneWalk$Tape;") (List.mem_of_getElem? (i := 1) (by decide +kernel))) rfl (t := 2) rfl (by show va_rf _ = _; rw [hN5]; rfl) dX2_tellName_107 ?_
    obtain ⟨z6, h6, h⟩ := ob_some h
    refine k_v (va_runV (As := []) (rest := []) ⟨hx, hb, hml, hown, hts⟩ (c_X7_advance (l := l) z4 b5 kb5 h6) (cwV 0 hts gX2_tellName_X7_advance rfl rfl rfl hdV_X7_advance ⟨Nat.le_of_ble_eq_true rfl, Nat.le_of_ble_eq_true rfl⟩) (pV (T := TX7) hP hK hD hT hG hS kb5 (by decide) rfl) rfl rfl hl.1 rfl (lv_room (Nat.le_of_ble_eq_true rfl)) dX2_tellName_110 ⟨Nat.zero_le _, Nat.zero_le _⟩) hS (fun H locs hP hD hT hS => ?_)
    exact r_vret hx hb hr hlocks hP hK hD hT hG hS (Option.some.inj h) dX2_tellName_113
  · replace h := ite_f c3 h
    refine lv_aload_n hx hb dX2_tellName_10 rfl (lv_at hl 0 rfl) ?_
    rcases hN7 : gR M a0 0 with _ | b7
    · exact absurd (oc_n hN7 h) (by simp)
    replace h := oc_s hN7 h
    have kb7 := hT.f k0 (k := 0) (t := 7) (n := 0) rfl hN7
    refine r_get (T := TX2) (v := .ref (ad b7)) hx hb hts in2 hown hK hP k0 (by decide) rfl 0 (by decide) (hts (.fieldLink RX2 22 "StoneWalk$Reader" "tape" "LStoneWalk$Tape;") (List.mem_of_getElem? (i := 1) (by decide +kernel))) rfl (t := 2) rfl (by show va_rf _ = _; rw [hN7]; rfl) dX2_tellName_11 ?_
    refine r_ldcSw (tx := "way road statue trial land fields houses story teller try up down stranger") (i := 29) hx hb hG hown (by decide +kernel) dX2_tellName_14 ?_
    obtain ⟨z8, h8, h⟩ := ob_some h
    refine k_i (va_runV (As := [.ref (q.2.1 29)]) (rest := []) ⟨hx, hb, hml, hown, hts⟩ (c_X7_among (l := l) M b7 29 kb7 (by decide) h8) (cwV 1 hts gX2_tellName_X7_among rfl rfl rfl hdV_X7_among ⟨Nat.le_of_ble_eq_true rfl, Nat.le_of_ble_eq_true rfl⟩) (pV (T := TX7) hP hK hD hT hG hS kb7 (by decide) rfl) rfl rfl hl.1 rfl (lv_room (Nat.le_of_ble_eq_true rfl)) dX2_tellName_17 ⟨Nat.zero_le _, Nat.zero_le _⟩) hS (fun H locs hP hD hT hS => ?_)
    refine lv_iconst (v := (-1)) hx hb dX2_tellName_20 rfl ?_
    refine lv_icmp_eq (tgt := 32) hx hb dX2_tellName_21 rfl (fun c9 => ?_) (fun c9 => ?_)
    · replace h := ite_t c9 h
      refine lv_aload_n hx hb dX2_tellName_32 rfl (lv_at hl 0 rfl) ?_
      obtain ⟨z10, h10, h⟩ := ob_some h
      refine k_i (va_runV (As := []) (rest := []) ⟨hx, hb, hml, hown, hts⟩ (c_X2_findName (l := l) M a0 k0 h10) (cwV 0 hts gX2_tellName_X2_findName rfl rfl rfl hdV_X2_findName ⟨Nat.le_of_ble_eq_true rfl, Nat.le_of_ble_eq_true rfl⟩) (pV (T := TX2) hP hK hD hT hG hS k0 (by decide) rfl) rfl rfl hl.1 rfl (lv_room (Nat.le_of_ble_eq_true rfl)) dX2_tellName_33 ⟨Nat.zero_le _, Nat.zero_le _⟩) hS (fun H locs hP hD hT hS => ?_)
      refine lv_iconst (v := (-1)) hx hb dX2_tellName_36 rfl ?_
      refine lv_icmp_eq (tgt := 48) hx hb dX2_tellName_37 rfl (fun c11 => ?_) (fun c11 => ?_)
      · replace h := ite_t c11 h
        refine lv_aload_n hx hb dX2_tellName_48 rfl (lv_at hl 0 rfl) ?_
        refine r_get (T := TX2) (v := .int (gI M a0 4)) hx hb hts in2 hown hK hP k0 (by decide) rfl 4 (by decide) (hts (.fieldLink RX2 33 "StoneWalk$Reader" "told" "I") (List.mem_of_getElem? (i := 2) (by decide +kernel))) rfl (t := 0) rfl rfl dX2_tellName_49 ?_
        refine lv_aload_n hx hb dX2_tellName_52 rfl (lv_at hl 0 rfl) ?_
        rcases hN12 : gR M a0 1 with _ | b12
        · exact absurd (oc_n hN12 h) (by simp)
        replace h := oc_s hN12 h
        have kb12 := hT.f k0 (k := 1) (t := 16) (n := 35) rfl hN12
        refine r_get (T := TX2) (v := .ref (ad b12)) hx hb hts in2 hown hK hP k0 (by decide) rfl 1 (by decide) (hts (.fieldLink RX2 9 "StoneWalk$Reader" "names" "[J") (List.mem_of_getElem? (i := 3) (by decide +kernel))) rfl (t := 2) rfl (by show va_rf _ = _; rw [hN12]; rfl) dX2_tellName_53 ?_
        refine r_alen (t0 := 2) (v := 35) hx hb hK hP kb12 (by decide) rfl rfl dX2_tellName_56 ?_
        refine lv_icmp_ge (tgt := 106) hx hb dX2_tellName_57 rfl (fun c13 => ?_) (fun c13 => ?_)
        · replace h := ite_t c13 h
          refine lv_aload_n hx hb dX2_tellName_106 rfl (lv_at hl 0 rfl) ?_
          rcases hN14 : gR M a0 0 with _ | b14
          · exact absurd (oc_n hN14 h) (by simp)
          replace h := oc_s hN14 h
          have kb14 := hT.f k0 (k := 0) (t := 7) (n := 0) rfl hN14
          refine r_get (T := TX2) (v := .ref (ad b14)) hx hb hts in2 hown hK hP k0 (by decide) rfl 0 (by decide) (hts (.fieldLink RX2 22 "StoneWalk$Reader" "tape" "LStoneWalk$Tape;") (List.mem_of_getElem? (i := 1) (by decide +kernel))) rfl (t := 2) rfl (by show va_rf _ = _; rw [hN14]; rfl) dX2_tellName_107 ?_
          obtain ⟨z15, h15, h⟩ := ob_some h
          refine k_v (va_runV (As := []) (rest := []) ⟨hx, hb, hml, hown, hts⟩ (c_X7_advance (l := l) M b14 kb14 h15) (cwV 0 hts gX2_tellName_X7_advance rfl rfl rfl hdV_X7_advance ⟨Nat.le_of_ble_eq_true rfl, Nat.le_of_ble_eq_true rfl⟩) (pV (T := TX7) hP hK hD hT hG hS kb14 (by decide) rfl) rfl rfl hl.1 rfl (lv_room (Nat.le_of_ble_eq_true rfl)) dX2_tellName_110 ⟨Nat.zero_le _, Nat.zero_le _⟩) hS (fun H locs hP hD hT hS => ?_)
          exact r_vret hx hb hr hlocks hP hK hD hT hG hS (Option.some.inj h) dX2_tellName_113
        · replace h := ite_f c13 h
          refine lv_aload_n hx hb dX2_tellName_60 rfl (lv_at hl 0 rfl) ?_
          rcases hN16 : gR M a0 1 with _ | b16
          · exact absurd (oc_n hN16 h) (by simp)
          replace h := oc_s hN16 h
          have kb16 := hT.f k0 (k := 1) (t := 16) (n := 35) rfl hN16
          refine r_get (T := TX2) (v := .ref (ad b16)) hx hb hts in2 hown hK hP k0 (by decide) rfl 1 (by decide) (hts (.fieldLink RX2 9 "StoneWalk$Reader" "names" "[J") (List.mem_of_getElem? (i := 3) (by decide +kernel))) rfl (t := 2) rfl (by show va_rf _ = _; rw [hN16]; rfl) dX2_tellName_61 ?_
          refine lv_aload_n hx hb dX2_tellName_64 rfl (lv_at hl 0 rfl) ?_
          refine r_get (T := TX2) (v := .int (gI M a0 4)) hx hb hts in2 hown hK hP k0 (by decide) rfl 4 (by decide) (hts (.fieldLink RX2 33 "StoneWalk$Reader" "told" "I") (List.mem_of_getElem? (i := 2) (by decide +kernel))) rfl (t := 0) rfl rfl dX2_tellName_65 ?_
          refine lv_aload_n hx hb dX2_tellName_68 rfl (lv_at hl 0 rfl) ?_
          rcases hN17 : gR M a0 0 with _ | b17
          · exact absurd (oc_n hN17 h) (by simp)
          replace h := oc_s hN17 h
          have kb17 := hT.f k0 (k := 0) (t := 7) (n := 0) rfl hN17
          refine r_get (T := TX2) (v := .ref (ad b17)) hx hb hts in2 hown hK hP k0 (by decide) rfl 0 (by decide) (hts (.fieldLink RX2 22 "StoneWalk$Reader" "tape" "LStoneWalk$Tape;") (List.mem_of_getElem? (i := 1) (by decide +kernel))) rfl (t := 2) rfl (by show va_rf _ = _; rw [hN17]; rfl) dX2_tellName_69 ?_
          refine r_get (T := TX7) (v := .long (gL M b17 6)) hx hb hts in7 hown hK hP kb17 (by decide) rfl 6 (by decide) (hts (.fieldLink RX2 337 "StoneWalk$Tape" "value" "J") (List.mem_of_getElem? (i := 4) (by decide +kernel))) rfl (t := 1) rfl rfl dX2_tellName_72 ?_
          obtain ⟨hn18, h⟩ := chk_some h
          refine r_last hx hb hK hP hD hT hS kb16 hn18 dX2_tellName_75 (fun H locs hP hD hT hS => ?_)
          refine lv_aload_n hx hb dX2_tellName_76 rfl (lv_at hl 0 rfl) ?_
          rcases hN19 : gR (pL M b16 (ix (gI M a0 4)) (gL M b17 6)) a0 2 with _ | b19
          · exact absurd (oc_n hN19 h) (by simp)
          replace h := oc_s hN19 h
          have kb19 := hT.f k0 (k := 2) (t := 15) (n := 35) rfl hN19
          refine r_get (T := TX2) (v := .ref (ad b19)) hx hb hts in2 hown hK hP k0 (by decide) rfl 2 (by decide) (hts (.fieldLink RX2 15 "StoneWalk$Reader" "nameSorts" "[I") (List.mem_of_getElem? (i := 5) (by decide +kernel))) rfl (t := 2) rfl (by show va_rf _ = _; rw [hN19]; rfl) dX2_tellName_77 ?_
          refine lv_aload_n hx hb dX2_tellName_80 rfl (lv_at hl 0 rfl) ?_
          refine r_get (T := TX2) (v := .int (gI (pL M b16 (ix (gI M a0 4)) (gL M b17 6)) a0 4)) hx hb hts in2 hown hK hP k0 (by decide) rfl 4 (by decide) (hts (.fieldLink RX2 33 "StoneWalk$Reader" "told" "I") (List.mem_of_getElem? (i := 2) (by decide +kernel))) rfl (t := 0) rfl rfl dX2_tellName_81 ?_
          refine lv_iload_n hx hb dX2_tellName_84 rfl (lv_at hl 1 rfl) ?_
          obtain ⟨hn20, h⟩ := chk_some h
          refine r_iast hx hb hK hP hD hT hS kb19 hn20 dX2_tellName_85 (fun H locs hP hD hT hS => ?_)
          refine lv_aload_n hx hb dX2_tellName_86 rfl (lv_at hl 0 rfl) ?_
          rcases hN21 : gR (pI (pL M b16 (ix (gI M a0 4)) (gL M b17 6)) b19 (ix (gI (pL M b16 (ix (gI M a0 4)) (gL M b17 6)) a0 4)) x1) a0 3 with _ | b21
          · exact absurd (oc_n hN21 h) (by simp)
          replace h := oc_s hN21 h
          have kb21 := hT.f k0 (k := 3) (t := 15) (n := 35) rfl hN21
          refine r_get (T := TX2) (v := .ref (ad b21)) hx hb hts in2 hown hK hP k0 (by decide) rfl 3 (by decide) (hts (.fieldLink RX2 19 "StoneWalk$Reader" "nameNumbers" "[I") (List.mem_of_getElem? (i := 6) (by decide +kernel))) rfl (t := 2) rfl (by show va_rf _ = _; rw [hN21]; rfl) dX2_tellName_87 ?_
          refine lv_aload_n hx hb dX2_tellName_90 rfl (lv_at hl 0 rfl) ?_
          refine r_get (T := TX2) (v := .int (gI (pI (pL M b16 (ix (gI M a0 4)) (gL M b17 6)) b19 (ix (gI (pL M b16 (ix (gI M a0 4)) (gL M b17 6)) a0 4)) x1) a0 4)) hx hb hts in2 hown hK hP k0 (by decide) rfl 4 (by decide) (hts (.fieldLink RX2 33 "StoneWalk$Reader" "told" "I") (List.mem_of_getElem? (i := 2) (by decide +kernel))) rfl (t := 0) rfl rfl dX2_tellName_91 ?_
          refine lv_iload_n hx hb dX2_tellName_94 rfl (lv_at hl 2 rfl) ?_
          obtain ⟨hn22, h⟩ := chk_some h
          refine r_iast hx hb hK hP hD hT hS kb21 hn22 dX2_tellName_95 (fun H locs hP hD hT hS => ?_)
          refine lv_aload_n hx hb dX2_tellName_96 rfl (lv_at hl 0 rfl) ?_
          refine lv_dup hx hb dX2_tellName_97 rfl ?_
          refine r_get (T := TX2) (v := .int (gI (pI (pI (pL M b16 (ix (gI M a0 4)) (gL M b17 6)) b19 (ix (gI (pL M b16 (ix (gI M a0 4)) (gL M b17 6)) a0 4)) x1) b21 (ix (gI (pI (pL M b16 (ix (gI M a0 4)) (gL M b17 6)) b19 (ix (gI (pL M b16 (ix (gI M a0 4)) (gL M b17 6)) a0 4)) x1) a0 4)) x2) a0 4)) hx hb hts in2 hown hK hP k0 (by decide) rfl 4 (by decide) (hts (.fieldLink RX2 33 "StoneWalk$Reader" "told" "I") (List.mem_of_getElem? (i := 2) (by decide +kernel))) rfl (t := 0) rfl rfl dX2_tellName_98 ?_
          refine lv_iconst (v := 1) hx hb dX2_tellName_101 rfl ?_
          refine lv_iadd hx hb dX2_tellName_102 ?_
          refine r_putI (T := TX2) (ty := .int) (v := (gI (pI (pI (pL M b16 (ix (gI M a0 4)) (gL M b17 6)) b19 (ix (gI (pL M b16 (ix (gI M a0 4)) (gL M b17 6)) a0 4)) x1) b21 (ix (gI (pI (pL M b16 (ix (gI M a0 4)) (gL M b17 6)) b19 (ix (gI (pL M b16 (ix (gI M a0 4)) (gL M b17 6)) a0 4)) x1) a0 4)) x2) a0 4) + 1) hx hb hts in2 tyX2 tyX2_ok nmX2 hown hK hP hD hT hS k0 (by decide) rfl 4 (by decide) (hts (.fieldLink RX2 33 "StoneWalk$Reader" "told" "I") (List.mem_of_getElem? (i := 2) (by decide +kernel))) rfl rfl (tyX2_ok 4 (by decide)) rfl rfl rfl dX2_tellName_103 (fun H locs hP hD hT hS => ?_)
          refine lv_aload_n hx hb dX2_tellName_106 rfl (lv_at hl 0 rfl) ?_
          rcases hN23 : gR (pI (pI (pI (pL M b16 (ix (gI M a0 4)) (gL M b17 6)) b19 (ix (gI (pL M b16 (ix (gI M a0 4)) (gL M b17 6)) a0 4)) x1) b21 (ix (gI (pI (pL M b16 (ix (gI M a0 4)) (gL M b17 6)) b19 (ix (gI (pL M b16 (ix (gI M a0 4)) (gL M b17 6)) a0 4)) x1) a0 4)) x2) a0 4 ((gI (pI (pI (pL M b16 (ix (gI M a0 4)) (gL M b17 6)) b19 (ix (gI (pL M b16 (ix (gI M a0 4)) (gL M b17 6)) a0 4)) x1) b21 (ix (gI (pI (pL M b16 (ix (gI M a0 4)) (gL M b17 6)) b19 (ix (gI (pL M b16 (ix (gI M a0 4)) (gL M b17 6)) a0 4)) x1) a0 4)) x2) a0 4) + 1)) a0 0 with _ | b23
          · exact absurd (oc_n hN23 h) (by simp)
          replace h := oc_s hN23 h
          have kb23 := hT.f k0 (k := 0) (t := 7) (n := 0) rfl hN23
          refine r_get (T := TX2) (v := .ref (ad b23)) hx hb hts in2 hown hK hP k0 (by decide) rfl 0 (by decide) (hts (.fieldLink RX2 22 "StoneWalk$Reader" "tape" "LStoneWalk$Tape;") (List.mem_of_getElem? (i := 1) (by decide +kernel))) rfl (t := 2) rfl (by show va_rf _ = _; rw [hN23]; rfl) dX2_tellName_107 ?_
          obtain ⟨z24, h24, h⟩ := ob_some h
          refine k_v (va_runV (As := []) (rest := []) ⟨hx, hb, hml, hown, hts⟩ (c_X7_advance (l := l) (pI (pI (pI (pL M b16 (ix (gI M a0 4)) (gL M b17 6)) b19 (ix (gI (pL M b16 (ix (gI M a0 4)) (gL M b17 6)) a0 4)) x1) b21 (ix (gI (pI (pL M b16 (ix (gI M a0 4)) (gL M b17 6)) b19 (ix (gI (pL M b16 (ix (gI M a0 4)) (gL M b17 6)) a0 4)) x1) a0 4)) x2) a0 4 ((gI (pI (pI (pL M b16 (ix (gI M a0 4)) (gL M b17 6)) b19 (ix (gI (pL M b16 (ix (gI M a0 4)) (gL M b17 6)) a0 4)) x1) b21 (ix (gI (pI (pL M b16 (ix (gI M a0 4)) (gL M b17 6)) b19 (ix (gI (pL M b16 (ix (gI M a0 4)) (gL M b17 6)) a0 4)) x1) a0 4)) x2) a0 4) + 1)) b23 kb23 h24) (cwV 0 hts gX2_tellName_X7_advance rfl rfl rfl hdV_X7_advance ⟨Nat.le_of_ble_eq_true rfl, Nat.le_of_ble_eq_true rfl⟩) (pV (T := TX7) hP hK hD hT hG hS kb23 (by decide) rfl) rfl rfl hl.1 rfl (lv_room (Nat.le_of_ble_eq_true rfl)) dX2_tellName_110 ⟨Nat.zero_le _, Nat.zero_le _⟩) hS (fun H locs hP hD hT hS => ?_)
          exact r_vret hx hb hr hlocks hP hK hD hT hG hS (Option.some.inj h) dX2_tellName_113
      · replace h := ite_f c11 h
        refine lv_aload_n hx hb dX2_tellName_40 rfl (lv_at hl 0 rfl) ?_
        refine lv_iconst (v := 3) hx hb dX2_tellName_41 rfl ?_
        obtain ⟨z25, h25, h⟩ := ob_some h
        refine k_v (va_runV (As := [.int 3]) (rest := []) ⟨hx, hb, hml, hown, hts⟩ (c_X2_fail (l := l) M a0 3 k0 h25) (cwV 1 hts gX2_tellName_X2_fail rfl rfl rfl hdV_X2_fail ⟨Nat.le_of_ble_eq_true rfl, Nat.le_of_ble_eq_true rfl⟩) (pV (T := TX2) hP hK hD hT hG hS k0 (by decide) rfl) rfl rfl hl.1 rfl (lv_room (Nat.le_of_ble_eq_true rfl)) dX2_tellName_42 ⟨Nat.zero_le _, Nat.zero_le _⟩) hS (fun H locs hP hD hT hS => ?_)
        refine lv_goto (tgt := 106) hx hb dX2_tellName_45 rfl ?_
        refine lv_aload_n hx hb dX2_tellName_106 rfl (lv_at hl 0 rfl) ?_
        rcases hN26 : gR z25 a0 0 with _ | b26
        · exact absurd (oc_n hN26 h) (by simp)
        replace h := oc_s hN26 h
        have kb26 := hT.f k0 (k := 0) (t := 7) (n := 0) rfl hN26
        refine r_get (T := TX2) (v := .ref (ad b26)) hx hb hts in2 hown hK hP k0 (by decide) rfl 0 (by decide) (hts (.fieldLink RX2 22 "StoneWalk$Reader" "tape" "LStoneWalk$Tape;") (List.mem_of_getElem? (i := 1) (by decide +kernel))) rfl (t := 2) rfl (by show va_rf _ = _; rw [hN26]; rfl) dX2_tellName_107 ?_
        obtain ⟨z27, h27, h⟩ := ob_some h
        refine k_v (va_runV (As := []) (rest := []) ⟨hx, hb, hml, hown, hts⟩ (c_X7_advance (l := l) z25 b26 kb26 h27) (cwV 0 hts gX2_tellName_X7_advance rfl rfl rfl hdV_X7_advance ⟨Nat.le_of_ble_eq_true rfl, Nat.le_of_ble_eq_true rfl⟩) (pV (T := TX7) hP hK hD hT hG hS kb26 (by decide) rfl) rfl rfl hl.1 rfl (lv_room (Nat.le_of_ble_eq_true rfl)) dX2_tellName_110 ⟨Nat.zero_le _, Nat.zero_le _⟩) hS (fun H locs hP hD hT hS => ?_)
        exact r_vret hx hb hr hlocks hP hK hD hT hG hS (Option.some.inj h) dX2_tellName_113
    · replace h := ite_f c9 h
      refine lv_aload_n hx hb dX2_tellName_24 rfl (lv_at hl 0 rfl) ?_
      refine lv_iconst (v := 1) hx hb dX2_tellName_25 rfl ?_
      obtain ⟨z28, h28, h⟩ := ob_some h
      refine k_v (va_runV (As := [.int 1]) (rest := []) ⟨hx, hb, hml, hown, hts⟩ (c_X2_fail (l := l) M a0 1 k0 h28) (cwV 1 hts gX2_tellName_X2_fail rfl rfl rfl hdV_X2_fail ⟨Nat.le_of_ble_eq_true rfl, Nat.le_of_ble_eq_true rfl⟩) (pV (T := TX2) hP hK hD hT hG hS k0 (by decide) rfl) rfl rfl hl.1 rfl (lv_room (Nat.le_of_ble_eq_true rfl)) dX2_tellName_26 ⟨Nat.zero_le _, Nat.zero_le _⟩) hS (fun H locs hP hD hT hS => ?_)
      refine lv_goto (tgt := 106) hx hb dX2_tellName_29 rfl ?_
      refine lv_aload_n hx hb dX2_tellName_106 rfl (lv_at hl 0 rfl) ?_
      rcases hN29 : gR z28 a0 0 with _ | b29
      · exact absurd (oc_n hN29 h) (by simp)
      replace h := oc_s hN29 h
      have kb29 := hT.f k0 (k := 0) (t := 7) (n := 0) rfl hN29
      refine r_get (T := TX2) (v := .ref (ad b29)) hx hb hts in2 hown hK hP k0 (by decide) rfl 0 (by decide) (hts (.fieldLink RX2 22 "StoneWalk$Reader" "tape" "LStoneWalk$Tape;") (List.mem_of_getElem? (i := 1) (by decide +kernel))) rfl (t := 2) rfl (by show va_rf _ = _; rw [hN29]; rfl) dX2_tellName_107 ?_
      obtain ⟨z30, h30, h⟩ := ob_some h
      refine k_v (va_runV (As := []) (rest := []) ⟨hx, hb, hml, hown, hts⟩ (c_X7_advance (l := l) z28 b29 kb29 h30) (cwV 0 hts gX2_tellName_X7_advance rfl rfl rfl hdV_X7_advance ⟨Nat.le_of_ble_eq_true rfl, Nat.le_of_ble_eq_true rfl⟩) (pV (T := TX7) hP hK hD hT hG hS kb29 (by decide) rfl) rfl rfl hl.1 rfl (lv_room (Nat.le_of_ble_eq_true rfl)) dX2_tellName_110 ⟨Nat.zero_le _, Nat.zero_le _⟩) hS (fun H locs hP hD hT hS => ?_)
      exact r_vret hx hb hr hlocks hP hK hD hT hG hS (Option.some.inj h) dX2_tellName_113
set_option maxHeartbeats 4000000 in
set_option maxRecDepth 100000 in
theorem c_X2_choice {l : Launch} {D : va_G} {ad : Nat → Nat} {cy : Nat → ClassId} {A : Nat → Prop} {g : CG} {q : SE} (M : MM) (a0 : Nat) (i1 : Nat) (k0 : ok g a0 2 0) (k1 : i1 < nS) {Z : (Int32 × MM)} (h : f_X2_choice M a0 i1 = some Z) : Met l yX2_choice wsX2_choice ({ frames := 5, cells := 0, slots := 0, locals := 111 }) (va_Pc [.ref (ad a0), .ref (q.2.1 i1)] (Wd D ad cy A g q M)) (va_Qi (fun r u => r = Z.1 ∧ u = Z.2) (Wd D ad cy A g q) A) 0 0 A := by
  refine Met.ofW (cc := cX2_choice) (maxL := 3) (ret := (some .int)) (by decide) rfl ?_
  intro p e s m args below meth c s₁ B hml hv
  obtain ⟨rfl, hP, hK, hD, hT, hG⟩ := hv
  have hx := B.exec
  have hb := B.bytes
  have hr := B.returns
  have hts := atoms_spec (ws := wsX2_choice) B.pre
  have hown : s.vm.findClass RX2 = some m.cls := findClass_of_methodNamed B.named
  have hlocks := B.notSynchronized
  have in2 : ∀ w ∈ u_ws RX2 TX2 7, w ∈ wsX2_choice := fun w h => List.mem_cons_of_mem _ (List.mem_append_left _ (List.mem_append_right _ h))
  have hS : va_S A s.heap s.heap [] := va_S.rf
  have hl := lv_entry ([.ref (ad a0), .ref (q.2.1 i1)]) (n := 3) (Nat.le_of_ble_eq_true rfl)
  rw [lg_entry_eq]
  generalize (lg_sl ([.ref (ad a0), .ref (q.2.1 i1)]) ++ List.replicate (3 - (lg_sl ([.ref (ad a0), .ref (q.2.1 i1)])).length) Slot.unset).toArray = ls at hl ⊢
  have hl : lv_has ls 3 [(0, .ref (ad a0)), (1, .ref (q.2.1 i1))] := hl
  unfold f_X2_choice at h
  refine lv_aload_n hx hb dX2_choice_0 rfl (lv_at hl 0 rfl) ?_
  rcases hN1 : gR M a0 0 with _ | b1
  · exact absurd (oc_n hN1 h) (by simp)
  replace h := oc_s hN1 h
  have kb1 := hT.f k0 (k := 0) (t := 7) (n := 0) rfl hN1
  refine r_get (T := TX2) (v := .ref (ad b1)) hx hb hts in2 hown hK hP k0 (by decide) rfl 0 (by decide) (hts (.fieldLink RX2 22 "StoneWalk$Reader" "tape" "LStoneWalk$Tape;") (List.mem_of_getElem? (i := 1) (by decide +kernel))) rfl (t := 2) rfl (by show va_rf _ = _; rw [hN1]; rfl) dX2_choice_1 ?_
  refine lv_aload_n hx hb dX2_choice_4 rfl (lv_at hl 1 rfl) ?_
  obtain ⟨z2, h2, h⟩ := ob_some h
  refine k_i (va_runV (As := [.ref (q.2.1 i1)]) (rest := []) ⟨hx, hb, hml, hown, hts⟩ (c_X7_among (l := l) M b1 i1 kb1 k1 h2) (cwV 1 hts gX2_choice_X7_among rfl rfl rfl hdV_X7_among ⟨Nat.le_of_ble_eq_true rfl, Nat.le_of_ble_eq_true rfl⟩) (pV (T := TX7) hP hK hD hT hG hS kb1 (by decide) rfl) rfl rfl hl.1 rfl (lv_room (Nat.le_of_ble_eq_true rfl)) dX2_choice_5 ⟨Nat.zero_le _, Nat.zero_le _⟩) hS (fun H locs hP hD hT hS => ?_)
  refine lv_istore_n (lv' := [(2, .int z2), (0, .ref (ad a0)), (1, .ref (q.2.1 i1))]) hx hb dX2_choice_8 rfl hl (by decide) rfl (fun ls hl => ?_)
  refine lv_iload_n hx hb dX2_choice_9 rfl (lv_at hl 0 rfl) ?_
  refine lv_iconst (v := (-1)) hx hb dX2_choice_10 rfl ?_
  refine lv_icmp_ne (tgt := 19) hx hb dX2_choice_11 rfl (fun c3 => ?_) (fun c3 => ?_)
  · replace h := ite_f c3 h
    refine lv_aload_n hx hb dX2_choice_19 rfl (lv_at hl 1 rfl) ?_
    rcases hN4 : gR M a0 0 with _ | b4
    · exact absurd (oc_n hN4 h) (by simp)
    replace h := oc_s hN4 h
    have kb4 := hT.f k0 (k := 0) (t := 7) (n := 0) rfl hN4
    refine r_get (T := TX2) (v := .ref (ad b4)) hx hb hts in2 hown hK hP k0 (by decide) rfl 0 (by decide) (hts (.fieldLink RX2 22 "StoneWalk$Reader" "tape" "LStoneWalk$Tape;") (List.mem_of_getElem? (i := 1) (by decide +kernel))) rfl (t := 2) rfl (by show va_rf _ = _; rw [hN4]; rfl) dX2_choice_20 ?_
    obtain ⟨z5, h5, h⟩ := ob_some h
    refine k_v (va_runV (As := []) (rest := []) ⟨hx, hb, hml, hown, hts⟩ (c_X7_advance (l := l) M b4 kb4 h5) (cwV 0 hts gX2_choice_X7_advance rfl rfl rfl hdV_X7_advance ⟨Nat.le_of_ble_eq_true rfl, Nat.le_of_ble_eq_true rfl⟩) (pV (T := TX7) hP hK hD hT hG hS kb4 (by decide) rfl) rfl rfl hl.1 rfl (lv_room (Nat.le_of_ble_eq_true rfl)) dX2_choice_23 ⟨Nat.zero_le _, Nat.zero_le _⟩) hS (fun H locs hP hD hT hS => ?_)
    refine lv_iload_n hx hb dX2_choice_26 rfl (lv_at hl 0 rfl) ?_
    have hZ := Option.some.inj h
    have hZ1 := congrArg Prod.fst hZ
    have hZ2 := congrArg Prod.snd hZ
    exact r_iret hx hb hr hlocks hP hK hD hT hG hS hZ1 hZ2 dX2_choice_27
  · replace h := ite_t c3 h
    refine lv_aload_n hx hb dX2_choice_14 rfl (lv_at hl 1 rfl) ?_
    refine lv_iconst (v := 1) hx hb dX2_choice_15 rfl ?_
    obtain ⟨z6, h6, h⟩ := ob_some h
    refine k_v (va_runV (As := [.int 1]) (rest := []) ⟨hx, hb, hml, hown, hts⟩ (c_X2_fail (l := l) M a0 1 k0 h6) (cwV 1 hts gX2_choice_X2_fail rfl rfl rfl hdV_X2_fail ⟨Nat.le_of_ble_eq_true rfl, Nat.le_of_ble_eq_true rfl⟩) (pV (T := TX2) hP hK hD hT hG hS k0 (by decide) rfl) rfl rfl hl.1 rfl (lv_room (Nat.le_of_ble_eq_true rfl)) dX2_choice_16 ⟨Nat.zero_le _, Nat.zero_le _⟩) hS (fun H locs hP hD hT hS => ?_)
    refine lv_aload_n hx hb dX2_choice_19 rfl (lv_at hl 1 rfl) ?_
    rcases hN7 : gR z6 a0 0 with _ | b7
    · exact absurd (oc_n hN7 h) (by simp)
    replace h := oc_s hN7 h
    have kb7 := hT.f k0 (k := 0) (t := 7) (n := 0) rfl hN7
    refine r_get (T := TX2) (v := .ref (ad b7)) hx hb hts in2 hown hK hP k0 (by decide) rfl 0 (by decide) (hts (.fieldLink RX2 22 "StoneWalk$Reader" "tape" "LStoneWalk$Tape;") (List.mem_of_getElem? (i := 1) (by decide +kernel))) rfl (t := 2) rfl (by show va_rf _ = _; rw [hN7]; rfl) dX2_choice_20 ?_
    obtain ⟨z8, h8, h⟩ := ob_some h
    refine k_v (va_runV (As := []) (rest := []) ⟨hx, hb, hml, hown, hts⟩ (c_X7_advance (l := l) z6 b7 kb7 h8) (cwV 0 hts gX2_choice_X7_advance rfl rfl rfl hdV_X7_advance ⟨Nat.le_of_ble_eq_true rfl, Nat.le_of_ble_eq_true rfl⟩) (pV (T := TX7) hP hK hD hT hG hS kb7 (by decide) rfl) rfl rfl hl.1 rfl (lv_room (Nat.le_of_ble_eq_true rfl)) dX2_choice_23 ⟨Nat.zero_le _, Nat.zero_le _⟩) hS (fun H locs hP hD hT hS => ?_)
    refine lv_iload_n hx hb dX2_choice_26 rfl (lv_at hl 0 rfl) ?_
    have hZ := Option.some.inj h
    have hZ1 := congrArg Prod.fst hZ
    have hZ2 := congrArg Prod.snd hZ
    exact r_iret hx hb hr hlocks hP hK hD hT hG hS hZ1 hZ2 dX2_choice_27
set_option maxHeartbeats 4000000 in
set_option maxRecDepth 100000 in
theorem c_X2_whole {l : Launch} {D : va_G} {ad : Nat → Nat} {cy : Nat → ClassId} {A : Nat → Prop} {g : CG} {q : SE} (M : MM) (a0 : Nat) (x1 : Int32) (x2 : Int32) (k0 : ok g a0 2 0) {Z : (Int32 × MM)} (h : f_X2_whole M a0 x1 x2 = some Z) : Met l yX2_whole wsX2_whole ({ frames := 2, cells := 0, slots := 0, locals := 43 }) (va_Pc [.ref (ad a0), .int x1, .int x2] (Wd D ad cy A g q M)) (va_Qi (fun r u => r = Z.1 ∧ u = Z.2) (Wd D ad cy A g q) A) 0 0 A := by
  refine Met.ofW (cc := cX2_whole) (maxL := 4) (ret := (some .int)) (by decide) rfl ?_
  intro p e s m args below meth c s₁ B hml hv
  obtain ⟨rfl, hP, hK, hD, hT, hG⟩ := hv
  have hx := B.exec
  have hb := B.bytes
  have hr := B.returns
  have hts := atoms_spec (ws := wsX2_whole) B.pre
  have hown : s.vm.findClass RX2 = some m.cls := findClass_of_methodNamed B.named
  have hlocks := B.notSynchronized
  have in2 : ∀ w ∈ u_ws RX2 TX2 7, w ∈ wsX2_whole := fun w h => List.mem_cons_of_mem _ (List.mem_append_left _ (List.mem_append_right _ h))
  have in7 : ∀ w ∈ u_ws RX7 TX7 7, w ∈ wsX2_whole := fun w h => List.mem_cons_of_mem _ (List.mem_append_right _ h)
  have hS : va_S A s.heap s.heap [] := va_S.rf
  have hl := lv_entry ([.ref (ad a0), .int x1, .int x2]) (n := 4) (Nat.le_of_ble_eq_true rfl)
  rw [lg_entry_eq]
  generalize (lg_sl ([.ref (ad a0), .int x1, .int x2]) ++ List.replicate (4 - (lg_sl ([.ref (ad a0), .int x1, .int x2])).length) Slot.unset).toArray = ls at hl ⊢
  have hl : lv_has ls 4 [(0, .ref (ad a0)), (1, .int x1), (2, .int x2)] := hl
  unfold f_X2_whole at h
  refine lv_aload_n hx hb dX2_whole_0 rfl (lv_at hl 0 rfl) ?_
  rcases hN1 : gR M a0 0 with _ | b1
  · exact absurd (oc_n hN1 h) (by simp)
  replace h := oc_s hN1 h
  have kb1 := hT.f k0 (k := 0) (t := 7) (n := 0) rfl hN1
  refine r_get (T := TX2) (v := .ref (ad b1)) hx hb hts in2 hown hK hP k0 (by decide) rfl 0 (by decide) (hts (.fieldLink RX2 22 "StoneWalk$Reader" "tape" "LStoneWalk$Tape;") (List.mem_of_getElem? (i := 1) (by decide +kernel))) rfl (t := 2) rfl (by show va_rf _ = _; rw [hN1]; rfl) dX2_whole_1 ?_
  refine r_get (T := TX7) (v := .int (gI M b1 4)) hx hb hts in7 hown hK hP kb1 (by decide) rfl 4 (by decide) (hts (.fieldLink RX2 55 "StoneWalk$Tape" "type" "I") (List.mem_of_getElem? (i := 2) (by decide +kernel))) rfl (t := 0) rfl rfl dX2_whole_4 ?_
  refine lv_iconst (v := 2) hx hb dX2_whole_7 rfl ?_
  refine lv_icmp_eq (tgt := 18) hx hb dX2_whole_8 rfl (fun c2 => ?_) (fun c2 => ?_)
  · replace h := ite_t c2 h
    refine lv_aload_n hx hb dX2_whole_18 rfl (lv_at hl 0 rfl) ?_
    rcases hN3 : gR M a0 0 with _ | b3
    · exact absurd (oc_n hN3 h) (by simp)
    replace h := oc_s hN3 h
    have kb3 := hT.f k0 (k := 0) (t := 7) (n := 0) rfl hN3
    refine r_get (T := TX2) (v := .ref (ad b3)) hx hb hts in2 hown hK hP k0 (by decide) rfl 0 (by decide) (hts (.fieldLink RX2 22 "StoneWalk$Reader" "tape" "LStoneWalk$Tape;") (List.mem_of_getElem? (i := 1) (by decide +kernel))) rfl (t := 2) rfl (by show va_rf _ = _; rw [hN3]; rfl) dX2_whole_19 ?_
    refine r_get (T := TX7) (v := .long (gL M b3 6)) hx hb hts in7 hown hK hP kb3 (by decide) rfl 6 (by decide) (hts (.fieldLink RX2 337 "StoneWalk$Tape" "value" "J") (List.mem_of_getElem? (i := 3) (by decide +kernel))) rfl (t := 1) rfl rfl dX2_whole_22 ?_
    refine lv_l2i hx hb dX2_whole_25 rfl ?_
    refine lv_istore_n (lv' := [(3, .int ((gL M b3 6).toInt32)), (0, .ref (ad a0)), (1, .int x1), (2, .int x2)]) hx hb dX2_whole_26 rfl hl (by decide) rfl (fun ls hl => ?_)
    refine lv_iload_n hx hb dX2_whole_27 rfl (lv_at hl 0 rfl) ?_
    refine lv_iload_n hx hb dX2_whole_28 rfl (lv_at hl 2 rfl) ?_
    refine lv_icmp_lt (tgt := 37) hx hb dX2_whole_29 rfl (fun c4 => ?_) (fun c4 => ?_)
    · replace h := ite_t c4 h
      refine lv_aload_n hx hb dX2_whole_37 rfl (lv_at hl 1 rfl) ?_
      refine lv_iconst (v := 4) hx hb dX2_whole_38 rfl ?_
      obtain ⟨z5, h5, h⟩ := ob_some h
      refine k_v (va_runV (As := [.int 4]) (rest := []) ⟨hx, hb, hml, hown, hts⟩ (c_X2_fail (l := l) M a0 4 k0 h5) (cwV 1 hts gX2_whole_X2_fail rfl rfl rfl hdV_X2_fail ⟨Nat.le_of_ble_eq_true rfl, Nat.le_of_ble_eq_true rfl⟩) (pV (T := TX2) hP hK hD hT hG hS k0 (by decide) rfl) rfl rfl hl.1 rfl (lv_room (Nat.le_of_ble_eq_true rfl)) dX2_whole_39 ⟨Nat.zero_le _, Nat.zero_le _⟩) hS (fun H locs hP hD hT hS => ?_)
      refine lv_aload_n hx hb dX2_whole_42 rfl (lv_at hl 1 rfl) ?_
      rcases hN6 : gR z5 a0 0 with _ | b6
      · exact absurd (oc_n hN6 h) (by simp)
      replace h := oc_s hN6 h
      have kb6 := hT.f k0 (k := 0) (t := 7) (n := 0) rfl hN6
      refine r_get (T := TX2) (v := .ref (ad b6)) hx hb hts in2 hown hK hP k0 (by decide) rfl 0 (by decide) (hts (.fieldLink RX2 22 "StoneWalk$Reader" "tape" "LStoneWalk$Tape;") (List.mem_of_getElem? (i := 1) (by decide +kernel))) rfl (t := 2) rfl (by show va_rf _ = _; rw [hN6]; rfl) dX2_whole_43 ?_
      obtain ⟨z7, h7, h⟩ := ob_some h
      refine k_v (va_runV (As := []) (rest := []) ⟨hx, hb, hml, hown, hts⟩ (c_X7_advance (l := l) z5 b6 kb6 h7) (cwV 0 hts gX2_whole_X7_advance rfl rfl rfl hdV_X7_advance ⟨Nat.le_of_ble_eq_true rfl, Nat.le_of_ble_eq_true rfl⟩) (pV (T := TX7) hP hK hD hT hG hS kb6 (by decide) rfl) rfl rfl hl.1 rfl (lv_room (Nat.le_of_ble_eq_true rfl)) dX2_whole_46 ⟨Nat.zero_le _, Nat.zero_le _⟩) hS (fun H locs hP hD hT hS => ?_)
      refine lv_iload_n hx hb dX2_whole_49 rfl (lv_at hl 0 rfl) ?_
      have hZ := Option.some.inj h
      have hZ1 := congrArg Prod.fst hZ
      have hZ2 := congrArg Prod.snd hZ
      exact r_iret hx hb hr hlocks hP hK hD hT hG hS hZ1 hZ2 dX2_whole_50
    · replace h := ite_f c4 h
      refine lv_iload_n hx hb dX2_whole_32 rfl (lv_at hl 0 rfl) ?_
      refine lv_iload_n hx hb dX2_whole_33 rfl (lv_at hl 3 rfl) ?_
      refine lv_icmp_le (tgt := 42) hx hb dX2_whole_34 rfl (fun c8 => ?_) (fun c8 => ?_)
      · replace h := ite_t c8 h
        refine lv_aload_n hx hb dX2_whole_42 rfl (lv_at hl 1 rfl) ?_
        rcases hN9 : gR M a0 0 with _ | b9
        · exact absurd (oc_n hN9 h) (by simp)
        replace h := oc_s hN9 h
        have kb9 := hT.f k0 (k := 0) (t := 7) (n := 0) rfl hN9
        refine r_get (T := TX2) (v := .ref (ad b9)) hx hb hts in2 hown hK hP k0 (by decide) rfl 0 (by decide) (hts (.fieldLink RX2 22 "StoneWalk$Reader" "tape" "LStoneWalk$Tape;") (List.mem_of_getElem? (i := 1) (by decide +kernel))) rfl (t := 2) rfl (by show va_rf _ = _; rw [hN9]; rfl) dX2_whole_43 ?_
        obtain ⟨z10, h10, h⟩ := ob_some h
        refine k_v (va_runV (As := []) (rest := []) ⟨hx, hb, hml, hown, hts⟩ (c_X7_advance (l := l) M b9 kb9 h10) (cwV 0 hts gX2_whole_X7_advance rfl rfl rfl hdV_X7_advance ⟨Nat.le_of_ble_eq_true rfl, Nat.le_of_ble_eq_true rfl⟩) (pV (T := TX7) hP hK hD hT hG hS kb9 (by decide) rfl) rfl rfl hl.1 rfl (lv_room (Nat.le_of_ble_eq_true rfl)) dX2_whole_46 ⟨Nat.zero_le _, Nat.zero_le _⟩) hS (fun H locs hP hD hT hS => ?_)
        refine lv_iload_n hx hb dX2_whole_49 rfl (lv_at hl 0 rfl) ?_
        have hZ := Option.some.inj h
        have hZ1 := congrArg Prod.fst hZ
        have hZ2 := congrArg Prod.snd hZ
        exact r_iret hx hb hr hlocks hP hK hD hT hG hS hZ1 hZ2 dX2_whole_50
      · replace h := ite_f c8 h
        refine lv_aload_n hx hb dX2_whole_37 rfl (lv_at hl 1 rfl) ?_
        refine lv_iconst (v := 4) hx hb dX2_whole_38 rfl ?_
        obtain ⟨z11, h11, h⟩ := ob_some h
        refine k_v (va_runV (As := [.int 4]) (rest := []) ⟨hx, hb, hml, hown, hts⟩ (c_X2_fail (l := l) M a0 4 k0 h11) (cwV 1 hts gX2_whole_X2_fail rfl rfl rfl hdV_X2_fail ⟨Nat.le_of_ble_eq_true rfl, Nat.le_of_ble_eq_true rfl⟩) (pV (T := TX2) hP hK hD hT hG hS k0 (by decide) rfl) rfl rfl hl.1 rfl (lv_room (Nat.le_of_ble_eq_true rfl)) dX2_whole_39 ⟨Nat.zero_le _, Nat.zero_le _⟩) hS (fun H locs hP hD hT hS => ?_)
        refine lv_aload_n hx hb dX2_whole_42 rfl (lv_at hl 1 rfl) ?_
        rcases hN12 : gR z11 a0 0 with _ | b12
        · exact absurd (oc_n hN12 h) (by simp)
        replace h := oc_s hN12 h
        have kb12 := hT.f k0 (k := 0) (t := 7) (n := 0) rfl hN12
        refine r_get (T := TX2) (v := .ref (ad b12)) hx hb hts in2 hown hK hP k0 (by decide) rfl 0 (by decide) (hts (.fieldLink RX2 22 "StoneWalk$Reader" "tape" "LStoneWalk$Tape;") (List.mem_of_getElem? (i := 1) (by decide +kernel))) rfl (t := 2) rfl (by show va_rf _ = _; rw [hN12]; rfl) dX2_whole_43 ?_
        obtain ⟨z13, h13, h⟩ := ob_some h
        refine k_v (va_runV (As := []) (rest := []) ⟨hx, hb, hml, hown, hts⟩ (c_X7_advance (l := l) z11 b12 kb12 h13) (cwV 0 hts gX2_whole_X7_advance rfl rfl rfl hdV_X7_advance ⟨Nat.le_of_ble_eq_true rfl, Nat.le_of_ble_eq_true rfl⟩) (pV (T := TX7) hP hK hD hT hG hS kb12 (by decide) rfl) rfl rfl hl.1 rfl (lv_room (Nat.le_of_ble_eq_true rfl)) dX2_whole_46 ⟨Nat.zero_le _, Nat.zero_le _⟩) hS (fun H locs hP hD hT hS => ?_)
        refine lv_iload_n hx hb dX2_whole_49 rfl (lv_at hl 0 rfl) ?_
        have hZ := Option.some.inj h
        have hZ1 := congrArg Prod.fst hZ
        have hZ2 := congrArg Prod.snd hZ
        exact r_iret hx hb hr hlocks hP hK hD hT hG hS hZ1 hZ2 dX2_whole_50
  · replace h := ite_f c2 h
    refine lv_aload_n hx hb dX2_whole_11 rfl (lv_at hl 0 rfl) ?_
    refine lv_iconst (v := 1) hx hb dX2_whole_12 rfl ?_
    obtain ⟨z14, h14, h⟩ := ob_some h
    refine k_v (va_runV (As := [.int 1]) (rest := []) ⟨hx, hb, hml, hown, hts⟩ (c_X2_fail (l := l) M a0 1 k0 h14) (cwV 1 hts gX2_whole_X2_fail rfl rfl rfl hdV_X2_fail ⟨Nat.le_of_ble_eq_true rfl, Nat.le_of_ble_eq_true rfl⟩) (pV (T := TX2) hP hK hD hT hG hS k0 (by decide) rfl) rfl rfl hl.1 rfl (lv_room (Nat.le_of_ble_eq_true rfl)) dX2_whole_13 ⟨Nat.zero_le _, Nat.zero_le _⟩) hS (fun H locs hP hD hT hS => ?_)
    refine lv_iconst (v := (-1)) hx hb dX2_whole_16 rfl ?_
    have hZ := Option.some.inj h
    have hZ1 := congrArg Prod.fst hZ
    have hZ2 := congrArg Prod.snd hZ
    exact r_iret hx hb hr hlocks hP hK hD hT hG hS hZ1 hZ2 dX2_whole_17
set_option maxHeartbeats 4000000 in
set_option maxRecDepth 100000 in
theorem c_X2_measure {l : Launch} {D : va_G} {ad : Nat → Nat} {cy : Nat → ClassId} {A : Nat → Prop} {g : CG} {q : SE} (M : MM) (a0 : Nat) (i1 : Nat) (x2 : Int32) (x3 : Int32) (k0 : ok g a0 2 0) (k1 : i1 < nS) {Z : (Int32 × MM)} (h : f_X2_measure M a0 i1 x2 x3 = some Z) : Met l yX2_measure wsX2_measure ({ frames := 5, cells := 0, slots := 0, locals := 111 }) (va_Pc [.ref (ad a0), .ref (q.2.1 i1), .int x2, .int x3] (Wd D ad cy A g q M)) (va_Qi (fun r u => r = Z.1 ∧ u = Z.2) (Wd D ad cy A g q) A) 0 0 A := by
  refine Met.ofW (cc := cX2_measure) (maxL := 4) (ret := (some .int)) (by decide) rfl ?_
  intro p e s m args below meth c s₁ B hml hv
  obtain ⟨rfl, hP, hK, hD, hT, hG⟩ := hv
  have hx := B.exec
  have hb := B.bytes
  have hr := B.returns
  have hts := atoms_spec (ws := wsX2_measure) B.pre
  have hown : s.vm.findClass RX2 = some m.cls := findClass_of_methodNamed B.named
  have hlocks := B.notSynchronized
  have in2 : ∀ w ∈ u_ws RX2 TX2 7, w ∈ wsX2_measure := fun w h => List.mem_cons_of_mem _ (List.mem_append_left _ (List.mem_append_right _ h))
  have hS : va_S A s.heap s.heap [] := va_S.rf
  have hl := lv_entry ([.ref (ad a0), .ref (q.2.1 i1), .int x2, .int x3]) (n := 4) (Nat.le_of_ble_eq_true rfl)
  rw [lg_entry_eq]
  generalize (lg_sl ([.ref (ad a0), .ref (q.2.1 i1), .int x2, .int x3]) ++ List.replicate (4 - (lg_sl ([.ref (ad a0), .ref (q.2.1 i1), .int x2, .int x3])).length) Slot.unset).toArray = ls at hl ⊢
  have hl : lv_has ls 4 [(0, .ref (ad a0)), (1, .ref (q.2.1 i1)), (2, .int x2), (3, .int x3)] := hl
  unfold f_X2_measure at h
  refine lv_aload_n hx hb dX2_measure_0 rfl (lv_at hl 0 rfl) ?_
  rcases hN1 : gR M a0 0 with _ | b1
  · exact absurd (oc_n hN1 h) (by simp)
  replace h := oc_s hN1 h
  have kb1 := hT.f k0 (k := 0) (t := 7) (n := 0) rfl hN1
  refine r_get (T := TX2) (v := .ref (ad b1)) hx hb hts in2 hown hK hP k0 (by decide) rfl 0 (by decide) (hts (.fieldLink RX2 22 "StoneWalk$Reader" "tape" "LStoneWalk$Tape;") (List.mem_of_getElem? (i := 1) (by decide +kernel))) rfl (t := 2) rfl (by show va_rf _ = _; rw [hN1]; rfl) dX2_measure_1 ?_
  refine lv_aload_n hx hb dX2_measure_4 rfl (lv_at hl 1 rfl) ?_
  obtain ⟨z2, h2, h⟩ := ob_some h
  refine k_i (va_runV (As := [.ref (q.2.1 i1)]) (rest := []) ⟨hx, hb, hml, hown, hts⟩ (c_X7_among (l := l) M b1 i1 kb1 k1 h2) (cwV 1 hts gX2_measure_X7_among rfl rfl rfl hdV_X7_among ⟨Nat.le_of_ble_eq_true rfl, Nat.le_of_ble_eq_true rfl⟩) (pV (T := TX7) hP hK hD hT hG hS kb1 (by decide) rfl) rfl rfl hl.1 rfl (lv_room (Nat.le_of_ble_eq_true rfl)) dX2_measure_5 ⟨Nat.zero_le _, Nat.zero_le _⟩) hS (fun H locs hP hD hT hS => ?_)
  refine lv_iconst (v := (-1)) hx hb dX2_measure_8 rfl ?_
  refine lv_icmp_ne (tgt := 17) hx hb dX2_measure_9 rfl (fun c3 => ?_) (fun c3 => ?_)
  · replace h := ite_f c3 h
    refine lv_aload_n hx hb dX2_measure_17 rfl (lv_at hl 0 rfl) ?_
    rcases hN4 : gR M a0 0 with _ | b4
    · exact absurd (oc_n hN4 h) (by simp)
    replace h := oc_s hN4 h
    have kb4 := hT.f k0 (k := 0) (t := 7) (n := 0) rfl hN4
    refine r_get (T := TX2) (v := .ref (ad b4)) hx hb hts in2 hown hK hP k0 (by decide) rfl 0 (by decide) (hts (.fieldLink RX2 22 "StoneWalk$Reader" "tape" "LStoneWalk$Tape;") (List.mem_of_getElem? (i := 1) (by decide +kernel))) rfl (t := 2) rfl (by show va_rf _ = _; rw [hN4]; rfl) dX2_measure_18 ?_
    obtain ⟨z5, h5, h⟩ := ob_some h
    refine k_v (va_runV (As := []) (rest := []) ⟨hx, hb, hml, hown, hts⟩ (c_X7_advance (l := l) M b4 kb4 h5) (cwV 0 hts gX2_measure_X7_advance rfl rfl rfl hdV_X7_advance ⟨Nat.le_of_ble_eq_true rfl, Nat.le_of_ble_eq_true rfl⟩) (pV (T := TX7) hP hK hD hT hG hS kb4 (by decide) rfl) rfl rfl hl.1 rfl (lv_room (Nat.le_of_ble_eq_true rfl)) dX2_measure_21 ⟨Nat.zero_le _, Nat.zero_le _⟩) hS (fun H locs hP hD hT hS => ?_)
    refine lv_aload_n hx hb dX2_measure_24 rfl (lv_at hl 0 rfl) ?_
    refine lv_iload_n hx hb dX2_measure_25 rfl (lv_at hl 2 rfl) ?_
    refine lv_iload_n hx hb dX2_measure_26 rfl (lv_at hl 3 rfl) ?_
    obtain ⟨z6, h6, h⟩ := ob_some h
    refine k_i (va_runV (As := [.int x2, .int x3]) (rest := []) ⟨hx, hb, hml, hown, hts⟩ (c_X2_whole (l := l) z5 a0 x2 x3 k0 h6) (cwV 2 hts gX2_measure_X2_whole rfl rfl rfl hdV_X2_whole ⟨Nat.le_of_ble_eq_true rfl, Nat.le_of_ble_eq_true rfl⟩) (pV (T := TX2) hP hK hD hT hG hS k0 (by decide) rfl) rfl rfl hl.1 rfl (lv_room (Nat.le_of_ble_eq_true rfl)) dX2_measure_27 ⟨Nat.zero_le _, Nat.zero_le _⟩) hS (fun H locs hP hD hT hS => ?_)
    have hZ := Option.some.inj h
    have hZ1 := congrArg Prod.fst hZ
    have hZ2 := congrArg Prod.snd hZ
    exact r_iret hx hb hr hlocks hP hK hD hT hG hS hZ1 hZ2 dX2_measure_30
  · replace h := ite_t c3 h
    refine lv_aload_n hx hb dX2_measure_12 rfl (lv_at hl 0 rfl) ?_
    refine lv_iconst (v := 1) hx hb dX2_measure_13 rfl ?_
    obtain ⟨z7, h7, h⟩ := ob_some h
    refine k_v (va_runV (As := [.int 1]) (rest := []) ⟨hx, hb, hml, hown, hts⟩ (c_X2_fail (l := l) M a0 1 k0 h7) (cwV 1 hts gX2_measure_X2_fail rfl rfl rfl hdV_X2_fail ⟨Nat.le_of_ble_eq_true rfl, Nat.le_of_ble_eq_true rfl⟩) (pV (T := TX2) hP hK hD hT hG hS k0 (by decide) rfl) rfl rfl hl.1 rfl (lv_room (Nat.le_of_ble_eq_true rfl)) dX2_measure_14 ⟨Nat.zero_le _, Nat.zero_le _⟩) hS (fun H locs hP hD hT hS => ?_)
    refine lv_aload_n hx hb dX2_measure_17 rfl (lv_at hl 0 rfl) ?_
    rcases hN8 : gR z7 a0 0 with _ | b8
    · exact absurd (oc_n hN8 h) (by simp)
    replace h := oc_s hN8 h
    have kb8 := hT.f k0 (k := 0) (t := 7) (n := 0) rfl hN8
    refine r_get (T := TX2) (v := .ref (ad b8)) hx hb hts in2 hown hK hP k0 (by decide) rfl 0 (by decide) (hts (.fieldLink RX2 22 "StoneWalk$Reader" "tape" "LStoneWalk$Tape;") (List.mem_of_getElem? (i := 1) (by decide +kernel))) rfl (t := 2) rfl (by show va_rf _ = _; rw [hN8]; rfl) dX2_measure_18 ?_
    obtain ⟨z9, h9, h⟩ := ob_some h
    refine k_v (va_runV (As := []) (rest := []) ⟨hx, hb, hml, hown, hts⟩ (c_X7_advance (l := l) z7 b8 kb8 h9) (cwV 0 hts gX2_measure_X7_advance rfl rfl rfl hdV_X7_advance ⟨Nat.le_of_ble_eq_true rfl, Nat.le_of_ble_eq_true rfl⟩) (pV (T := TX7) hP hK hD hT hG hS kb8 (by decide) rfl) rfl rfl hl.1 rfl (lv_room (Nat.le_of_ble_eq_true rfl)) dX2_measure_21 ⟨Nat.zero_le _, Nat.zero_le _⟩) hS (fun H locs hP hD hT hS => ?_)
    refine lv_aload_n hx hb dX2_measure_24 rfl (lv_at hl 0 rfl) ?_
    refine lv_iload_n hx hb dX2_measure_25 rfl (lv_at hl 2 rfl) ?_
    refine lv_iload_n hx hb dX2_measure_26 rfl (lv_at hl 3 rfl) ?_
    obtain ⟨z10, h10, h⟩ := ob_some h
    refine k_i (va_runV (As := [.int x2, .int x3]) (rest := []) ⟨hx, hb, hml, hown, hts⟩ (c_X2_whole (l := l) z9 a0 x2 x3 k0 h10) (cwV 2 hts gX2_measure_X2_whole rfl rfl rfl hdV_X2_whole ⟨Nat.le_of_ble_eq_true rfl, Nat.le_of_ble_eq_true rfl⟩) (pV (T := TX2) hP hK hD hT hG hS k0 (by decide) rfl) rfl rfl hl.1 rfl (lv_room (Nat.le_of_ble_eq_true rfl)) dX2_measure_27 ⟨Nat.zero_le _, Nat.zero_le _⟩) hS (fun H locs hP hD hT hS => ?_)
    have hZ := Option.some.inj h
    have hZ1 := congrArg Prod.fst hZ
    have hZ2 := congrArg Prod.snd hZ
    exact r_iret hx hb hr hlocks hP hK hD hT hG hS hZ1 hZ2 dX2_measure_30
set_option maxHeartbeats 4000000 in
set_option maxRecDepth 100000 in
theorem c_X2_readWay {l : Launch} {D : va_G} {ad : Nat → Nat} {cy : Nat → ClassId} {A : Nat → Prop} {g : CG} {q : SE} (M : MM) (a0 : Nat) (r1 : Option Nat) (k0 : ok g a0 2 0) (k1 : ∀ b, r1 = some b → ok g b 10 0) {Z : MM} (h : f_X2_readWay M a0 r1 = some Z) : Met l yX2_readWay wsX2_readWay ({ frames := 6, cells := 0, slots := 0, locals := 134 }) (va_Pc [.ref (ad a0), va_rf (r1.map ad)] (Wd D ad cy A g q M)) (va_Qv (fun u => u = Z) (Wd D ad cy A g q) A) 0 0 A := by
  refine Met.ofW (cc := cX2_readWay) (maxL := 2) (ret := none) (by decide) rfl ?_
  intro p e s m args below meth c s₁ B hml hv
  obtain ⟨rfl, hP, hK, hD, hT, hG⟩ := hv
  have hx := B.exec
  have hb := B.bytes
  have hr := B.returns
  have hts := atoms_spec (ws := wsX2_readWay) B.pre
  have hown : s.vm.findClass RX2 = some m.cls := findClass_of_methodNamed B.named
  have hlocks := B.notSynchronized
  have in10 : ∀ w ∈ u_ws RX10 TX10 3, w ∈ wsX2_readWay := fun w h => List.mem_cons_of_mem _ (List.mem_append_left _ (List.mem_append_left _ (List.mem_append_right _ h)))
  have hS : va_S A s.heap s.heap [] := va_S.rf
  unfold f_X2_readWay at h
  rcases r1 with _ | b1
  · skip
    have hl := lv_entry ([.ref (ad a0), va_rf ((none : Option Nat).map ad)]) (n := 2) (Nat.le_of_ble_eq_true rfl)
    rw [lg_entry_eq]
    generalize (lg_sl ([.ref (ad a0), va_rf ((none : Option Nat).map ad)]) ++ List.replicate (2 - (lg_sl ([.ref (ad a0), va_rf ((none : Option Nat).map ad)])).length) Slot.unset).toArray = ls at hl ⊢
    have hl : lv_has ls 2 [(0, .ref (ad a0)), (1, .null)] := hl
    replace h := oc_n rfl h
    refine lv_aload_nN hx hb dX2_readWay_0 rfl (lv_at hl 1 rfl) ?_
    refine lv_ifnonnullN hx hb dX2_readWay_1 ?_
    exact r_vret hx hb hr hlocks hP hK hD hT hG hS (Option.some.inj h) dX2_readWay_4
  · skip
    have hl := lv_entry ([.ref (ad a0), va_rf ((some b1).map ad)]) (n := 2) (Nat.le_of_ble_eq_true rfl)
    rw [lg_entry_eq]
    generalize (lg_sl ([.ref (ad a0), va_rf ((some b1).map ad)]) ++ List.replicate (2 - (lg_sl ([.ref (ad a0), va_rf ((some b1).map ad)])).length) Slot.unset).toArray = ls at hl ⊢
    have hl : lv_has ls 2 [(0, .ref (ad a0)), (1, .ref (ad b1))] := hl
    replace h := oc_s rfl h
    have kb1 := k1 _ rfl
    refine lv_aload_n hx hb dX2_readWay_0 rfl (lv_at hl 1 rfl) ?_
    refine lv_ifnonnull (tgt := 5) hx hb dX2_readWay_1 rfl ?_
    refine lv_aload_n hx hb dX2_readWay_5 rfl (lv_at hl 1 rfl) ?_
    refine lv_aload_n hx hb dX2_readWay_6 rfl (lv_at hl 0 rfl) ?_
    refine r_ldcS (tx := "walked sled rolled dragged") (i := 1) hx hb hG hown (by decide +kernel) dX2_readWay_7 ?_
    obtain ⟨z1, h1, h⟩ := ob_some h
    refine k_i (va_runV (As := [.ref (q.2.1 1)]) (rest := [.ref (ad b1)]) ⟨hx, hb, hml, hown, hts⟩ (c_X2_choice (l := l) M a0 1 k0 (by decide) h1) (cwV 1 hts gX2_readWay_X2_choice rfl rfl rfl hdV_X2_choice ⟨Nat.le_of_ble_eq_true rfl, Nat.le_of_ble_eq_true rfl⟩) (pV (T := TX2) hP hK hD hT hG hS k0 (by decide) rfl) rfl rfl hl.1 rfl (lv_room (Nat.le_of_ble_eq_true rfl)) dX2_readWay_9 ⟨Nat.zero_le _, Nat.zero_le _⟩) hS (fun H locs hP hD hT hS => ?_)
    refine r_putI (T := TX10) (ty := .int) (v := z1.1) hx hb hts in10 tyX10 tyX10_ok nmX10 hown hK hP hD hT hS kb1 (by decide) rfl 0 (by decide) (hts (.fieldLink RX2 154 "StoneWalk$Way" "kind" "I") (List.mem_of_getElem? (i := 1) (by decide +kernel))) rfl rfl (tyX10_ok 0 (by decide)) rfl rfl rfl dX2_readWay_12 (fun H locs hP hD hT hS => ?_)
    refine lv_aload_n hx hb dX2_readWay_15 rfl (lv_at hl 1 rfl) ?_
    refine lv_aload_n hx hb dX2_readWay_16 rfl (lv_at hl 0 rfl) ?_
    refine r_ldcS (tx := "weighs") (i := 2) hx hb hG hown (by decide +kernel) dX2_readWay_17 ?_
    refine lv_iconst (v := 1) hx hb dX2_readWay_19 rfl ?_
    refine lv_bipush (v := 99) hx hb dX2_readWay_20 rfl ?_
    obtain ⟨z2, h2, h⟩ := ob_some h
    refine k_i (va_runV (As := [.ref (q.2.1 2), .int 1, .int 99]) (rest := [.ref (ad b1)]) ⟨hx, hb, hml, hown, hts⟩ (c_X2_measure (l := l) (pI z1.2 b1 0 z1.1) a0 2 1 99 k0 (by decide) h2) (cwV 3 hts gX2_readWay_X2_measure rfl rfl rfl hdV_X2_measure ⟨Nat.le_of_ble_eq_true rfl, Nat.le_of_ble_eq_true rfl⟩) (pV (T := TX2) hP hK hD hT hG hS k0 (by decide) rfl) rfl rfl hl.1 rfl (lv_room (Nat.le_of_ble_eq_true rfl)) dX2_readWay_22 ⟨Nat.zero_le _, Nat.zero_le _⟩) hS (fun H locs hP hD hT hS => ?_)
    refine r_putI (T := TX10) (ty := .int) (v := z2.1) hx hb hts in10 tyX10 tyX10_ok nmX10 hown hK hP hD hT hS kb1 (by decide) rfl 1 (by decide) (hts (.fieldLink RX2 165 "StoneWalk$Way" "weighs" "I") (List.mem_of_getElem? (i := 2) (by decide +kernel))) rfl rfl (tyX10_ok 1 (by decide)) rfl rfl rfl dX2_readWay_25 (fun H locs hP hD hT hS => ?_)
    refine lv_aload_n hx hb dX2_readWay_28 rfl (lv_at hl 1 rfl) ?_
    refine lv_aload_n hx hb dX2_readWay_29 rfl (lv_at hl 0 rfl) ?_
    refine r_ldcS (tx := "pull") (i := 3) hx hb hG hown (by decide +kernel) dX2_readWay_30 ?_
    refine lv_iconst (v := 1) hx hb dX2_readWay_32 rfl ?_
    refine lv_bipush (v := 20) hx hb dX2_readWay_33 rfl ?_
    obtain ⟨z3, h3, h⟩ := ob_some h
    refine k_i (va_runV (As := [.ref (q.2.1 3), .int 1, .int 20]) (rest := [.ref (ad b1)]) ⟨hx, hb, hml, hown, hts⟩ (c_X2_measure (l := l) (pI z2.2 b1 1 z2.1) a0 3 1 20 k0 (by decide) h3) (cwV 3 hts gX2_readWay_X2_measure rfl rfl rfl hdV_X2_measure ⟨Nat.le_of_ble_eq_true rfl, Nat.le_of_ble_eq_true rfl⟩) (pV (T := TX2) hP hK hD hT hG hS k0 (by decide) rfl) rfl rfl hl.1 rfl (lv_room (Nat.le_of_ble_eq_true rfl)) dX2_readWay_35 ⟨Nat.zero_le _, Nat.zero_le _⟩) hS (fun H locs hP hD hT hS => ?_)
    refine r_putI (T := TX10) (ty := .int) (v := z3.1) hx hb hts in10 tyX10 tyX10_ok nmX10 hown hK hP hD hT hS kb1 (by decide) rfl 2 (by decide) (hts (.fieldLink RX2 169 "StoneWalk$Way" "pull" "I") (List.mem_of_getElem? (i := 3) (by decide +kernel))) rfl rfl (tyX10_ok 2 (by decide)) rfl rfl rfl dX2_readWay_38 (fun H locs hP hD hT hS => ?_)
    exact r_vret hx hb hr hlocks hP hK hD hT hG hS (Option.some.inj h) dX2_readWay_41
set_option maxHeartbeats 4000000 in
set_option maxRecDepth 100000 in
theorem c_X2_readSlope {l : Launch} {D : va_G} {ad : Nat → Nat} {cy : Nat → ClassId} {A : Nat → Prop} {g : CG} {q : SE} (M : MM) (a0 : Nat) (k0 : ok g a0 2 0) {Z : (Int32 × MM)} (h : f_X2_readSlope M a0 = some Z) : Met l yX2_readSlope wsX2_readSlope ({ frames := 6, cells := 0, slots := 0, locals := 133 }) (va_Pc [.ref (ad a0)] (Wd D ad cy A g q M)) (va_Qi (fun r u => r = Z.1 ∧ u = Z.2) (Wd D ad cy A g q) A) 0 0 A := by
  refine Met.ofW (cc := cX2_readSlope) (maxL := 3) (ret := (some .int)) (by decide) rfl ?_
  intro p e s m args below meth c s₁ B hml hv
  obtain ⟨rfl, hP, hK, hD, hT, hG⟩ := hv
  have hx := B.exec
  have hb := B.bytes
  have hr := B.returns
  have hts := atoms_spec (ws := wsX2_readSlope) B.pre
  have hown : s.vm.findClass RX2 = some m.cls := findClass_of_methodNamed B.named
  have hlocks := B.notSynchronized
  have hS : va_S A s.heap s.heap [] := va_S.rf
  have hl := lv_entry ([.ref (ad a0)]) (n := 3) (Nat.le_of_ble_eq_true rfl)
  rw [lg_entry_eq]
  generalize (lg_sl ([.ref (ad a0)]) ++ List.replicate (3 - (lg_sl ([.ref (ad a0)])).length) Slot.unset).toArray = ls at hl ⊢
  have hl : lv_has ls 3 [(0, .ref (ad a0))] := hl
  unfold f_X2_readSlope at h
  refine lv_aload_n hx hb dX2_readSlope_0 rfl (lv_at hl 0 rfl) ?_
  refine r_ldcS (tx := "up down") (i := 6) hx hb hG hown (by decide +kernel) dX2_readSlope_1 ?_
  obtain ⟨z1, h1, h⟩ := ob_some h
  refine k_i (va_runV (As := [.ref (q.2.1 6)]) (rest := []) ⟨hx, hb, hml, hown, hts⟩ (c_X2_choice (l := l) M a0 6 k0 (by decide) h1) (cwV 1 hts gX2_readSlope_X2_choice rfl rfl rfl hdV_X2_choice ⟨Nat.le_of_ble_eq_true rfl, Nat.le_of_ble_eq_true rfl⟩) (pV (T := TX2) hP hK hD hT hG hS k0 (by decide) rfl) rfl rfl hl.1 rfl (lv_room (Nat.le_of_ble_eq_true rfl)) dX2_readSlope_3 ⟨Nat.zero_le _, Nat.zero_le _⟩) hS (fun H locs hP hD hT hS => ?_)
  refine lv_istore_n (lv' := [(1, .int z1.1), (0, .ref (ad a0))]) hx hb dX2_readSlope_6 rfl hl (by decide) rfl (fun ls hl => ?_)
  refine lv_aload_n hx hb dX2_readSlope_7 rfl (lv_at hl 1 rfl) ?_
  refine lv_iconst (v := 0) hx hb dX2_readSlope_8 rfl ?_
  refine lv_bipush (v := 20) hx hb dX2_readSlope_9 rfl ?_
  obtain ⟨z2, h2, h⟩ := ob_some h
  refine k_i (va_runV (As := [.int 0, .int 20]) (rest := []) ⟨hx, hb, hml, hown, hts⟩ (c_X2_whole (l := l) z1.2 a0 0 20 k0 h2) (cwV 2 hts gX2_readSlope_X2_whole rfl rfl rfl hdV_X2_whole ⟨Nat.le_of_ble_eq_true rfl, Nat.le_of_ble_eq_true rfl⟩) (pV (T := TX2) hP hK hD hT hG hS k0 (by decide) rfl) rfl rfl hl.1 rfl (lv_room (Nat.le_of_ble_eq_true rfl)) dX2_readSlope_11 ⟨Nat.zero_le _, Nat.zero_le _⟩) hS (fun H locs hP hD hT hS => ?_)
  refine lv_istore_n (lv' := [(2, .int z2.1), (1, .int z1.1), (0, .ref (ad a0))]) hx hb dX2_readSlope_14 rfl hl (by decide) rfl (fun ls hl => ?_)
  refine lv_iload_n hx hb dX2_readSlope_15 rfl (lv_at hl 1 rfl) ?_
  refine lv_if_ne (tgt := 23) hx hb dX2_readSlope_16 rfl (fun c3 => ?_) (fun c3 => ?_)
  · replace h := ite_f c3 h
    refine lv_iload_n hx hb dX2_readSlope_23 rfl (lv_at hl 0 rfl) ?_
    refine lv_ineg hx hb dX2_readSlope_24 ?_
    have hZ := Option.some.inj h
    have hZ1 := congrArg Prod.fst hZ
    have hZ2 := congrArg Prod.snd hZ
    exact r_iret hx hb hr hlocks hP hK hD hT hG hS hZ1 hZ2 dX2_readSlope_25
  · replace h := ite_t c3 h
    refine lv_iload_n hx hb dX2_readSlope_19 rfl (lv_at hl 0 rfl) ?_
    refine lv_goto (tgt := 25) hx hb dX2_readSlope_20 rfl ?_
    have hZ := Option.some.inj h
    have hZ1 := congrArg Prod.fst hZ
    have hZ2 := congrArg Prod.snd hZ
    exact r_iret hx hb hr hlocks hP hK hD hT hG hS hZ1 hZ2 dX2_readSlope_25
set_option maxHeartbeats 4000000 in
set_option maxRecDepth 100000 in
theorem c_X2_passes {l : Launch} {D : va_G} {ad : Nat → Nat} {cy : Nat → ClassId} {A : Nat → Prop} {g : CG} {q : SE} (M : MM) (a0 : Nat) (x1 : Int32) (k0 : ok g a0 2 0) {Z : (Int32 × MM)} (h : f_X2_passes M a0 x1 = some Z) : Met l yX2_passes wsX2_passes ({ frames := 2, cells := 0, slots := 0, locals := 43 }) (va_Pc [.ref (ad a0), .int x1] (Wd D ad cy A g q M)) (va_Qi (fun r u => r = Z.1 ∧ u = Z.2 ∧ zb r) (Wd D ad cy A g q) A) 0 0 A := by
  refine Met.ofW (cc := cX2_passes) (maxL := 3) (ret := (some .boolean)) (by decide) rfl ?_
  intro p e s m args below meth c s₁ B hml hv
  obtain ⟨rfl, hP, hK, hD, hT, hG⟩ := hv
  have hx := B.exec
  have hb := B.bytes
  have hr := B.returns
  have hts := atoms_spec (ws := wsX2_passes) B.pre
  have hown : s.vm.findClass RX2 = some m.cls := findClass_of_methodNamed B.named
  have hlocks := B.notSynchronized
  have in2 : ∀ w ∈ u_ws RX2 TX2 7, w ∈ wsX2_passes := fun w h => List.mem_cons_of_mem _ (List.mem_append_left _ (List.mem_append_right _ h))
  have hS : va_S A s.heap s.heap [] := va_S.rf
  have hl := lv_entry ([.ref (ad a0), .int x1]) (n := 3) (Nat.le_of_ble_eq_true rfl)
  rw [lg_entry_eq]
  generalize (lg_sl ([.ref (ad a0), .int x1]) ++ List.replicate (3 - (lg_sl ([.ref (ad a0), .int x1])).length) Slot.unset).toArray = ls at hl ⊢
  have hl : lv_has ls 3 [(0, .ref (ad a0)), (1, .int x1)] := hl
  unfold f_X2_passes at h
  refine lv_aload_n hx hb dX2_passes_0 rfl (lv_at hl 0 rfl) ?_
  rcases hN1 : gR M a0 0 with _ | b1
  · exact absurd (oc_n hN1 h) (by simp)
  replace h := oc_s hN1 h
  have kb1 := hT.f k0 (k := 0) (t := 7) (n := 0) rfl hN1
  refine r_get (T := TX2) (v := .ref (ad b1)) hx hb hts in2 hown hK hP k0 (by decide) rfl 0 (by decide) (hts (.fieldLink RX2 22 "StoneWalk$Reader" "tape" "LStoneWalk$Tape;") (List.mem_of_getElem? (i := 1) (by decide +kernel))) rfl (t := 2) rfl (by show va_rf _ = _; rw [hN1]; rfl) dX2_passes_1 ?_
  refine lv_iload_n hx hb dX2_passes_4 rfl (lv_at hl 1 rfl) ?_
  obtain ⟨z2, h2, h⟩ := ob_some h
  refine k_z (va_runV (As := [.int x1]) (rest := []) ⟨hx, hb, hml, hown, hts⟩ (c_X7_isSign (l := l) M b1 x1 kb1 h2) (cwV 1 hts gX2_passes_X7_isSign rfl rfl rfl hdV_X7_isSign ⟨Nat.le_of_ble_eq_true rfl, Nat.le_of_ble_eq_true rfl⟩) (pV (T := TX7) hP hK hD hT hG hS kb1 (by decide) rfl) rfl rfl hl.1 rfl (lv_room (Nat.le_of_ble_eq_true rfl)) dX2_passes_5 ⟨Nat.zero_le _, Nat.zero_le _⟩) hS (fun H locs hz2 hP hD hT hS => ?_)
  refine lv_istore_n (lv' := [(2, .int z2), (0, .ref (ad a0)), (1, .int x1)]) hx hb dX2_passes_8 rfl hl (by decide) rfl (fun ls hl => ?_)
  refine lv_iload_n hx hb dX2_passes_9 rfl (lv_at hl 0 rfl) ?_
  refine lv_if_eq (tgt := 20) hx hb dX2_passes_10 rfl (fun c3 => ?_) (fun c3 => ?_)
  · replace h := ite_t c3 h
    refine lv_iload_n hx hb dX2_passes_20 rfl (lv_at hl 0 rfl) ?_
    have hZ := Option.some.inj h
    have hZ1 := congrArg Prod.fst hZ
    have hZ2 := congrArg Prod.snd hZ
    exact r_zret hx hb hr hlocks hP hK hD hT hG hS hz2 hZ1 hZ2 dX2_passes_21
  · replace h := ite_f c3 h
    refine lv_aload_n hx hb dX2_passes_13 rfl (lv_at hl 1 rfl) ?_
    rcases hN4 : gR M a0 0 with _ | b4
    · exact absurd (oc_n hN4 h) (by simp)
    replace h := oc_s hN4 h
    have kb4 := hT.f k0 (k := 0) (t := 7) (n := 0) rfl hN4
    refine r_get (T := TX2) (v := .ref (ad b4)) hx hb hts in2 hown hK hP k0 (by decide) rfl 0 (by decide) (hts (.fieldLink RX2 22 "StoneWalk$Reader" "tape" "LStoneWalk$Tape;") (List.mem_of_getElem? (i := 1) (by decide +kernel))) rfl (t := 2) rfl (by show va_rf _ = _; rw [hN4]; rfl) dX2_passes_14 ?_
    obtain ⟨z5, h5, h⟩ := ob_some h
    refine k_v (va_runV (As := []) (rest := []) ⟨hx, hb, hml, hown, hts⟩ (c_X7_advance (l := l) M b4 kb4 h5) (cwV 0 hts gX2_passes_X7_advance rfl rfl rfl hdV_X7_advance ⟨Nat.le_of_ble_eq_true rfl, Nat.le_of_ble_eq_true rfl⟩) (pV (T := TX7) hP hK hD hT hG hS kb4 (by decide) rfl) rfl rfl hl.1 rfl (lv_room (Nat.le_of_ble_eq_true rfl)) dX2_passes_17 ⟨Nat.zero_le _, Nat.zero_le _⟩) hS (fun H locs hP hD hT hS => ?_)
    refine lv_iload_n hx hb dX2_passes_20 rfl (lv_at hl 0 rfl) ?_
    have hZ := Option.some.inj h
    have hZ1 := congrArg Prod.fst hZ
    have hZ2 := congrArg Prod.snd hZ
    exact r_zret hx hb hr hlocks hP hK hD hT hG hS hz2 hZ1 hZ2 dX2_passes_21
set_option maxHeartbeats 4000000 in
set_option maxRecDepth 100000 in
theorem c_X2_readRoad {l : Launch} {D : va_G} {ad : Nat → Nat} {cy : Nat → ClassId} {A : Nat → Prop} {g : CG} {q : SE} (M : MM) (a0 : Nat) (r1 : Option Nat) (k0 : ok g a0 2 0) (k1 : ∀ b, r1 = some b → ok g b 3 0) {Z : MM} (h : f_X2_readRoad M a0 r1 = some Z) : Met l yX2_readRoad wsX2_readRoad ({ frames := 7, cells := 0, slots := 0, locals := 155 }) (va_Pc [.ref (ad a0), va_rf (r1.map ad)] (Wd D ad cy A g q M)) (va_Qv (fun u => u = Z) (Wd D ad cy A g q) A) 0 0 A := by
  refine Met.ofW (cc := cX2_readRoad) (maxL := 4) (ret := none) (by decide) rfl ?_
  intro p e s m args below meth c s₁ B hml hv
  obtain ⟨rfl, hP, hK, hD, hT, hG⟩ := hv
  have hx := B.exec
  have hb := B.bytes
  have hr := B.returns
  have hts := atoms_spec (ws := wsX2_readRoad) B.pre
  have hown : s.vm.findClass RX2 = some m.cls := findClass_of_methodNamed B.named
  have hlocks := B.notSynchronized
  have in2 : ∀ w ∈ u_ws RX2 TX2 7, w ∈ wsX2_readRoad := fun w h => List.mem_cons_of_mem _ (List.mem_append_left _ (List.mem_append_right _ h))
  have in3 : ∀ w ∈ u_ws RX3 TX3 3, w ∈ wsX2_readRoad := fun w h => List.mem_cons_of_mem _ (List.mem_append_left _ (List.mem_append_left _ (List.mem_append_right _ h)))
  have hS : va_S A s.heap s.heap [] := va_S.rf
  unfold f_X2_readRoad at h
  rcases r1 with _ | b1
  · skip
    have hl := lv_entry ([.ref (ad a0), va_rf ((none : Option Nat).map ad)]) (n := 4) (Nat.le_of_ble_eq_true rfl)
    rw [lg_entry_eq]
    generalize (lg_sl ([.ref (ad a0), va_rf ((none : Option Nat).map ad)]) ++ List.replicate (4 - (lg_sl ([.ref (ad a0), va_rf ((none : Option Nat).map ad)])).length) Slot.unset).toArray = ls at hl ⊢
    have hl : lv_has ls 4 [(0, .ref (ad a0)), (1, .null)] := hl
    replace h := oc_n rfl h
    refine lv_aload_nN hx hb dX2_readRoad_0 rfl (lv_at hl 1 rfl) ?_
    refine lv_ifnonnullN hx hb dX2_readRoad_1 ?_
    exact r_vret hx hb hr hlocks hP hK hD hT hG hS (Option.some.inj h) dX2_readRoad_4
  · skip
    have hl := lv_entry ([.ref (ad a0), va_rf ((some b1).map ad)]) (n := 4) (Nat.le_of_ble_eq_true rfl)
    rw [lg_entry_eq]
    generalize (lg_sl ([.ref (ad a0), va_rf ((some b1).map ad)]) ++ List.replicate (4 - (lg_sl ([.ref (ad a0), va_rf ((some b1).map ad)])).length) Slot.unset).toArray = ls at hl ⊢
    have hl : lv_has ls 4 [(0, .ref (ad a0)), (1, .ref (ad b1))] := hl
    replace h := oc_s rfl h
    have kb1 := k1 _ rfl
    refine lv_aload_n hx hb dX2_readRoad_0 rfl (lv_at hl 1 rfl) ?_
    refine lv_ifnonnull (tgt := 5) hx hb dX2_readRoad_1 rfl ?_
    refine lv_aload_n hx hb dX2_readRoad_5 rfl (lv_at hl 1 rfl) ?_
    refine lv_iconst (v := 0) hx hb dX2_readRoad_6 rfl ?_
    refine r_putI (T := TX3) (ty := .int) (v := 0) hx hb hts in3 tyX3 tyX3_ok nmX3 hown hK hP hD hT hS kb1 (by decide) rfl 1 (by decide) (hts (.fieldLink RX2 171 "StoneWalk$Road" "held" "I") (List.mem_of_getElem? (i := 1) (by decide +kernel))) rfl rfl (tyX3_ok 1 (by decide)) rfl rfl rfl dX2_readRoad_7 (fun H locs hP hD hT hS => ?_)
    refine lv_aload_n hx hb dX2_readRoad_10 rfl (lv_at hl 1 rfl) ?_
    refine lv_aload_n hx hb dX2_readRoad_11 rfl (lv_at hl 0 rfl) ?_
    refine r_ldcS (tx := "hollow") (i := 4) hx hb hG hown (by decide +kernel) dX2_readRoad_12 ?_
    refine lv_iconst (v := 0) hx hb dX2_readRoad_14 rfl ?_
    refine lv_bipush (v := 9) hx hb dX2_readRoad_15 rfl ?_
    obtain ⟨z1, h1, h⟩ := ob_some h
    refine k_i (va_runV (As := [.ref (q.2.1 4), .int 0, .int 9]) (rest := [.ref (ad b1)]) ⟨hx, hb, hml, hown, hts⟩ (c_X2_measure (l := l) (pI M b1 1 0) a0 4 0 9 k0 (by decide) h1) (cwV 3 hts gX2_readRoad_X2_measure rfl rfl rfl hdV_X2_measure ⟨Nat.le_of_ble_eq_true rfl, Nat.le_of_ble_eq_true rfl⟩) (pV (T := TX2) hP hK hD hT hG hS k0 (by decide) rfl) rfl rfl hl.1 rfl (lv_room (Nat.le_of_ble_eq_true rfl)) dX2_readRoad_17 ⟨Nat.zero_le _, Nat.zero_le _⟩) hS (fun H locs hP hD hT hS => ?_)
    refine r_putI (T := TX3) (ty := .int) (v := z1.1) hx hb hts in3 tyX3 tyX3_ok nmX3 hown hK hP hD hT hS kb1 (by decide) rfl 0 (by decide) (hts (.fieldLink RX2 178 "StoneWalk$Road" "hollow" "I") (List.mem_of_getElem? (i := 2) (by decide +kernel))) rfl rfl (tyX3_ok 0 (by decide)) rfl rfl rfl dX2_readRoad_20 (fun H locs hP hD hT hS => ?_)
    refine lv_aload_n hx hb dX2_readRoad_23 rfl (lv_at hl 0 rfl) ?_
    refine r_ldcS (tx := "slopes") (i := 5) hx hb hG hown (by decide +kernel) dX2_readRoad_24 ?_
    obtain ⟨z2, h2, h⟩ := ob_some h
    refine k_i (va_runV (As := [.ref (q.2.1 5)]) (rest := []) ⟨hx, hb, hml, hown, hts⟩ (c_X2_choice (l := l) (pI z1.2 b1 0 z1.1) a0 5 k0 (by decide) h2) (cwV 1 hts gX2_readRoad_X2_choice rfl rfl rfl hdV_X2_choice ⟨Nat.le_of_ble_eq_true rfl, Nat.le_of_ble_eq_true rfl⟩) (pV (T := TX2) hP hK hD hT hG hS k0 (by decide) rfl) rfl rfl hl.1 rfl (lv_room (Nat.le_of_ble_eq_true rfl)) dX2_readRoad_26 ⟨Nat.zero_le _, Nat.zero_le _⟩) hS (fun H locs hP hD hT hS => ?_)
    refine lv_pop hx hb dX2_readRoad_29 rfl ?_
    refine lv_iconst (v := 1) hx hb dX2_readRoad_30 rfl ?_
    refine lv_istore_n (lv' := [(2, .int 1), (0, .ref (ad a0)), (1, .ref (ad b1))]) hx hb dX2_readRoad_31 rfl hl (by decide) rfl (fun ls hl => ?_)
    refine lv_iconst (v := 0) hx hb dX2_readRoad_32 rfl ?_
    refine lv_istore_n (lv' := [(3, .int 0), (2, .int 1), (0, .ref (ad a0)), (1, .ref (ad b1))]) hx hb dX2_readRoad_33 rfl hl (by decide) rfl (fun ls hl => ?_)
    have L3 : ∀ n3 : Nat, ∀ (M3 : MM) (y3_0 : Nat) (y3_1 : Nat) (y3_2 : Int32) (y3_3 : Int32) (ky3_0 : ok g y3_0 2 0) (ky3_1 : ok g y3_1 3 0) (H : Heap) (locs : List Loc), f_X2_readRoad_L34 n3 M3 y3_0 y3_1 y3_2 y3_3 = some Z → va_P D vwCl (wd ad cy g M3) H → va_D A (wd ad cy g M3) → WT g M3 → va_S A s.heap H locs → ∀ (ls : Array Slot), lv_has ls 4 [(0, .ref (ad y3_0)), (1, .ref (ad y3_1)), (2, .int y3_2), (3, .int y3_3)] → W p l e ((headSpec wsX2_readRoad ({ frames := 7, cells := 0, slots := 0, locals := 155 })).room) s m (([.ref (ad a0), va_rf ((some b1).map ad)] : List Value).toArray) below meth c H locs 0 0 (MQ below (va_Qv (fun u => u = Z) (Wd D ad cy A g q) A) ([.ref (ad a0), va_rf ((some b1).map ad)] : List Value).toArray s 0 0 A) (F0 m 34 ls []) := by
      intro n3
      induction n3 with
      | zero => intro M3 y3_0 y3_1 y3_2 y3_3 ky3_0 ky3_1 H locs h; exact absurd h (by simp [f_X2_readRoad_L34])
      | succ n3 ih3 =>
        intro M3 y3_0 y3_1 y3_2 y3_3 ky3_0 ky3_1 H locs h hP hD hT hS ls hl
        rw [f_X2_readRoad_L34] at h
        refine lv_iload_n hx hb dX2_readRoad_34 rfl (lv_at hl 3 rfl) ?_
        refine lv_bipush (v := 6) hx hb dX2_readRoad_35 rfl ?_
        refine lv_icmp_gt (tgt := 89) hx hb dX2_readRoad_37 rfl (fun c4 => ?_) (fun c4 => ?_)
        · replace h := ite_t c4 h
          exact r_vret hx hb hr hlocks hP hK hD hT hG hS (Option.some.inj h) dX2_readRoad_89
        · replace h := ite_f c4 h
          refine lv_iload_n hx hb dX2_readRoad_40 rfl (lv_at hl 2 rfl) ?_
          refine lv_if_eq (tgt := 89) hx hb dX2_readRoad_41 rfl (fun c5 => ?_) (fun c5 => ?_)
          · replace h := ite_t c5 h
            exact r_vret hx hb hr hlocks hP hK hD hT hG hS (Option.some.inj h) dX2_readRoad_89
          · replace h := ite_f c5 h
            refine lv_iload_n hx hb dX2_readRoad_44 rfl (lv_at hl 3 rfl) ?_
            refine lv_bipush (v := 6) hx hb dX2_readRoad_45 rfl ?_
            refine lv_icmp_ne (tgt := 68) hx hb dX2_readRoad_47 rfl (fun c6 => ?_) (fun c6 => ?_)
            · replace h := ite_f c6 h
              refine lv_aload_n hx hb dX2_readRoad_68 rfl (lv_at hl 1 rfl) ?_
              refine lv_aload_n hx hb dX2_readRoad_69 rfl (lv_at hl 0 rfl) ?_
              obtain ⟨z7, h7, h⟩ := ob_some h
              refine k_i (va_runV (As := []) (rest := [.ref (ad y3_1)]) ⟨hx, hb, hml, hown, hts⟩ (c_X2_readSlope (l := l) M3 y3_0 ky3_0 h7) (cwV 0 hts gX2_readRoad_X2_readSlope rfl rfl rfl hdV_X2_readSlope ⟨Nat.le_of_ble_eq_true rfl, Nat.le_of_ble_eq_true rfl⟩) (pV (T := TX2) hP hK hD hT hG hS ky3_0 (by decide) rfl) rfl rfl hl.1 rfl (lv_room (Nat.le_of_ble_eq_true rfl)) dX2_readRoad_70 ⟨Nat.zero_le _, Nat.zero_le _⟩) hS (fun H locs hP hD hT hS => ?_)
              obtain ⟨z8, h8, h⟩ := ob_some h
              refine k_v (va_runV (As := [.int z7.1]) (rest := []) ⟨hx, hb, hml, hown, hts⟩ (c_X3_add (l := l) z7.2 y3_1 z7.1 ky3_1 h8) (cwV 1 hts gX2_readRoad_X3_add rfl rfl rfl hdV_X3_add ⟨Nat.le_of_ble_eq_true rfl, Nat.le_of_ble_eq_true rfl⟩) (pV (T := TX3) hP hK hD hT hG hS ky3_1 (by decide) rfl) rfl rfl hl.1 rfl (lv_room (Nat.le_of_ble_eq_true rfl)) dX2_readRoad_73 ⟨Nat.zero_le _, Nat.zero_le _⟩) hS (fun H locs hP hD hT hS => ?_)
              refine lv_aload_n hx hb dX2_readRoad_76 rfl (lv_at hl 0 rfl) ?_
              refine lv_bipush (v := 44) hx hb dX2_readRoad_77 rfl ?_
              obtain ⟨z9, h9, h⟩ := ob_some h
              refine k_z (va_runV (As := [.int 44]) (rest := []) ⟨hx, hb, hml, hown, hts⟩ (c_X2_passes (l := l) z8 y3_0 44 ky3_0 h9) (cwV 1 hts gX2_readRoad_X2_passes rfl rfl rfl hdV_X2_passes ⟨Nat.le_of_ble_eq_true rfl, Nat.le_of_ble_eq_true rfl⟩) (pV (T := TX2) hP hK hD hT hG hS ky3_0 (by decide) rfl) rfl rfl hl.1 rfl (lv_room (Nat.le_of_ble_eq_true rfl)) dX2_readRoad_79 ⟨Nat.zero_le _, Nat.zero_le _⟩) hS (fun H locs hz9 hP hD hT hS => ?_)
              refine lv_istore_n (lv' := [(2, .int z9.1), (0, .ref (ad y3_0)), (1, .ref (ad y3_1)), (3, .int y3_3)]) hx hb dX2_readRoad_82 rfl hl (by decide) rfl (fun ls hl => ?_)
              refine lv_iinc (v := y3_3 + 1) (lv' := [(3, .int (y3_3 + 1)), (2, .int z9.1), (0, .ref (ad y3_0)), (1, .ref (ad y3_1))]) hx hb dX2_readRoad_83 hl (k := 3) rfl rfl (by decide) rfl (fun ls hl => ?_)
              refine lv_goto (tgt := 34) hx hb dX2_readRoad_86 rfl ?_
              exact ih3 z9.2 y3_0 y3_1 z9.1 (y3_3 + 1) ky3_0 ky3_1 _ _ h hP hD hT hS ls (lv_sub hl [2, 3, 1, 0] rfl)
            · replace h := ite_t c6 h
              refine lv_aload_n hx hb dX2_readRoad_50 rfl (lv_at hl 0 rfl) ?_
              rcases hN10 : gR M3 y3_0 0 with _ | b10
              · exact absurd (oc_n hN10 h) (by simp)
              replace h := oc_s hN10 h
              have kb10 := hT.f ky3_0 (k := 0) (t := 7) (n := 0) rfl hN10
              refine r_get (T := TX2) (v := .ref (ad b10)) hx hb hts in2 hown hK hP ky3_0 (by decide) rfl 0 (by decide) (hts (.fieldLink RX2 22 "StoneWalk$Reader" "tape" "LStoneWalk$Tape;") (List.mem_of_getElem? (i := 3) (by decide +kernel))) rfl (t := 2) rfl (by show va_rf _ = _; rw [hN10]; rfl) dX2_readRoad_51 ?_
              refine r_ldcS (tx := "up down") (i := 6) hx hb hG hown (by decide +kernel) dX2_readRoad_54 ?_
              obtain ⟨z11, h11, h⟩ := ob_some h
              refine k_i (va_runV (As := [.ref (q.2.1 6)]) (rest := []) ⟨hx, hb, hml, hown, hts⟩ (c_X7_among (l := l) M3 b10 6 kb10 (by decide) h11) (cwV 1 hts gX2_readRoad_X7_among rfl rfl rfl hdV_X7_among ⟨Nat.le_of_ble_eq_true rfl, Nat.le_of_ble_eq_true rfl⟩) (pV (T := TX7) hP hK hD hT hG hS kb10 (by decide) rfl) rfl rfl hl.1 rfl (lv_room (Nat.le_of_ble_eq_true rfl)) dX2_readRoad_56 ⟨Nat.zero_le _, Nat.zero_le _⟩) hS (fun H locs hP hD hT hS => ?_)
              refine lv_iconst (v := (-1)) hx hb dX2_readRoad_59 rfl ?_
              refine lv_icmp_eq (tgt := 68) hx hb dX2_readRoad_60 rfl (fun c12 => ?_) (fun c12 => ?_)
              · replace h := ite_t c12 h
                refine lv_aload_n hx hb dX2_readRoad_68 rfl (lv_at hl 1 rfl) ?_
                refine lv_aload_n hx hb dX2_readRoad_69 rfl (lv_at hl 0 rfl) ?_
                obtain ⟨z13, h13, h⟩ := ob_some h
                refine k_i (va_runV (As := []) (rest := [.ref (ad y3_1)]) ⟨hx, hb, hml, hown, hts⟩ (c_X2_readSlope (l := l) M3 y3_0 ky3_0 h13) (cwV 0 hts gX2_readRoad_X2_readSlope rfl rfl rfl hdV_X2_readSlope ⟨Nat.le_of_ble_eq_true rfl, Nat.le_of_ble_eq_true rfl⟩) (pV (T := TX2) hP hK hD hT hG hS ky3_0 (by decide) rfl) rfl rfl hl.1 rfl (lv_room (Nat.le_of_ble_eq_true rfl)) dX2_readRoad_70 ⟨Nat.zero_le _, Nat.zero_le _⟩) hS (fun H locs hP hD hT hS => ?_)
                obtain ⟨z14, h14, h⟩ := ob_some h
                refine k_v (va_runV (As := [.int z13.1]) (rest := []) ⟨hx, hb, hml, hown, hts⟩ (c_X3_add (l := l) z13.2 y3_1 z13.1 ky3_1 h14) (cwV 1 hts gX2_readRoad_X3_add rfl rfl rfl hdV_X3_add ⟨Nat.le_of_ble_eq_true rfl, Nat.le_of_ble_eq_true rfl⟩) (pV (T := TX3) hP hK hD hT hG hS ky3_1 (by decide) rfl) rfl rfl hl.1 rfl (lv_room (Nat.le_of_ble_eq_true rfl)) dX2_readRoad_73 ⟨Nat.zero_le _, Nat.zero_le _⟩) hS (fun H locs hP hD hT hS => ?_)
                refine lv_aload_n hx hb dX2_readRoad_76 rfl (lv_at hl 0 rfl) ?_
                refine lv_bipush (v := 44) hx hb dX2_readRoad_77 rfl ?_
                obtain ⟨z15, h15, h⟩ := ob_some h
                refine k_z (va_runV (As := [.int 44]) (rest := []) ⟨hx, hb, hml, hown, hts⟩ (c_X2_passes (l := l) z14 y3_0 44 ky3_0 h15) (cwV 1 hts gX2_readRoad_X2_passes rfl rfl rfl hdV_X2_passes ⟨Nat.le_of_ble_eq_true rfl, Nat.le_of_ble_eq_true rfl⟩) (pV (T := TX2) hP hK hD hT hG hS ky3_0 (by decide) rfl) rfl rfl hl.1 rfl (lv_room (Nat.le_of_ble_eq_true rfl)) dX2_readRoad_79 ⟨Nat.zero_le _, Nat.zero_le _⟩) hS (fun H locs hz15 hP hD hT hS => ?_)
                refine lv_istore_n (lv' := [(2, .int z15.1), (0, .ref (ad y3_0)), (1, .ref (ad y3_1)), (3, .int y3_3)]) hx hb dX2_readRoad_82 rfl hl (by decide) rfl (fun ls hl => ?_)
                refine lv_iinc (v := y3_3 + 1) (lv' := [(3, .int (y3_3 + 1)), (2, .int z15.1), (0, .ref (ad y3_0)), (1, .ref (ad y3_1))]) hx hb dX2_readRoad_83 hl (k := 3) rfl rfl (by decide) rfl (fun ls hl => ?_)
                refine lv_goto (tgt := 34) hx hb dX2_readRoad_86 rfl ?_
                exact ih3 z15.2 y3_0 y3_1 z15.1 (y3_3 + 1) ky3_0 ky3_1 _ _ h hP hD hT hS ls (lv_sub hl [2, 3, 1, 0] rfl)
              · replace h := ite_f c12 h
                refine lv_aload_n hx hb dX2_readRoad_63 rfl (lv_at hl 0 rfl) ?_
                refine lv_iconst (v := 5) hx hb dX2_readRoad_64 rfl ?_
                obtain ⟨z16, h16, h⟩ := ob_some h
                refine k_v (va_runV (As := [.int 5]) (rest := []) ⟨hx, hb, hml, hown, hts⟩ (c_X2_fail (l := l) M3 y3_0 5 ky3_0 h16) (cwV 1 hts gX2_readRoad_X2_fail rfl rfl rfl hdV_X2_fail ⟨Nat.le_of_ble_eq_true rfl, Nat.le_of_ble_eq_true rfl⟩) (pV (T := TX2) hP hK hD hT hG hS ky3_0 (by decide) rfl) rfl rfl hl.1 rfl (lv_room (Nat.le_of_ble_eq_true rfl)) dX2_readRoad_65 ⟨Nat.zero_le _, Nat.zero_le _⟩) hS (fun H locs hP hD hT hS => ?_)
                refine lv_aload_n hx hb dX2_readRoad_68 rfl (lv_at hl 1 rfl) ?_
                refine lv_aload_n hx hb dX2_readRoad_69 rfl (lv_at hl 0 rfl) ?_
                obtain ⟨z17, h17, h⟩ := ob_some h
                refine k_i (va_runV (As := []) (rest := [.ref (ad y3_1)]) ⟨hx, hb, hml, hown, hts⟩ (c_X2_readSlope (l := l) z16 y3_0 ky3_0 h17) (cwV 0 hts gX2_readRoad_X2_readSlope rfl rfl rfl hdV_X2_readSlope ⟨Nat.le_of_ble_eq_true rfl, Nat.le_of_ble_eq_true rfl⟩) (pV (T := TX2) hP hK hD hT hG hS ky3_0 (by decide) rfl) rfl rfl hl.1 rfl (lv_room (Nat.le_of_ble_eq_true rfl)) dX2_readRoad_70 ⟨Nat.zero_le _, Nat.zero_le _⟩) hS (fun H locs hP hD hT hS => ?_)
                obtain ⟨z18, h18, h⟩ := ob_some h
                refine k_v (va_runV (As := [.int z17.1]) (rest := []) ⟨hx, hb, hml, hown, hts⟩ (c_X3_add (l := l) z17.2 y3_1 z17.1 ky3_1 h18) (cwV 1 hts gX2_readRoad_X3_add rfl rfl rfl hdV_X3_add ⟨Nat.le_of_ble_eq_true rfl, Nat.le_of_ble_eq_true rfl⟩) (pV (T := TX3) hP hK hD hT hG hS ky3_1 (by decide) rfl) rfl rfl hl.1 rfl (lv_room (Nat.le_of_ble_eq_true rfl)) dX2_readRoad_73 ⟨Nat.zero_le _, Nat.zero_le _⟩) hS (fun H locs hP hD hT hS => ?_)
                refine lv_aload_n hx hb dX2_readRoad_76 rfl (lv_at hl 0 rfl) ?_
                refine lv_bipush (v := 44) hx hb dX2_readRoad_77 rfl ?_
                obtain ⟨z19, h19, h⟩ := ob_some h
                refine k_z (va_runV (As := [.int 44]) (rest := []) ⟨hx, hb, hml, hown, hts⟩ (c_X2_passes (l := l) z18 y3_0 44 ky3_0 h19) (cwV 1 hts gX2_readRoad_X2_passes rfl rfl rfl hdV_X2_passes ⟨Nat.le_of_ble_eq_true rfl, Nat.le_of_ble_eq_true rfl⟩) (pV (T := TX2) hP hK hD hT hG hS ky3_0 (by decide) rfl) rfl rfl hl.1 rfl (lv_room (Nat.le_of_ble_eq_true rfl)) dX2_readRoad_79 ⟨Nat.zero_le _, Nat.zero_le _⟩) hS (fun H locs hz19 hP hD hT hS => ?_)
                refine lv_istore_n (lv' := [(2, .int z19.1), (0, .ref (ad y3_0)), (1, .ref (ad y3_1)), (3, .int y3_3)]) hx hb dX2_readRoad_82 rfl hl (by decide) rfl (fun ls hl => ?_)
                refine lv_iinc (v := y3_3 + 1) (lv' := [(3, .int (y3_3 + 1)), (2, .int z19.1), (0, .ref (ad y3_0)), (1, .ref (ad y3_1))]) hx hb dX2_readRoad_83 hl (k := 3) rfl rfl (by decide) rfl (fun ls hl => ?_)
                refine lv_goto (tgt := 34) hx hb dX2_readRoad_86 rfl ?_
                exact ih3 z19.2 y3_0 y3_1 z19.1 (y3_3 + 1) ky3_0 ky3_1 _ _ h hP hD hT hS ls (lv_sub hl [2, 3, 1, 0] rfl)
    exact L3 FU z2.2 a0 b1 1 0 k0 kb1 _ _ h hP hD hT hS ls (lv_sub hl [2, 3, 1, 0] rfl)
set_option maxHeartbeats 4000000 in
set_option maxRecDepth 100000 in
theorem c_X2_readMeasures {l : Launch} {D : va_G} {ad : Nat → Nat} {cy : Nat → ClassId} {A : Nat → Prop} {g : CG} {q : SE} (M : MM) (a0 : Nat) (r1 : Option Nat) (k0 : ok g a0 2 0) (k1 : ∀ b, r1 = some b → ok g b 5 0) {Z : MM} (h : f_X2_readMeasures M a0 r1 = some Z) : Met l yX2_readMeasures wsX2_readMeasures ({ frames := 6, cells := 0, slots := 0, locals := 134 }) (va_Pc [.ref (ad a0), va_rf (r1.map ad)] (Wd D ad cy A g q M)) (va_Qv (fun u => u = Z) (Wd D ad cy A g q) A) 0 0 A := by
  refine Met.ofW (cc := cX2_readMeasures) (maxL := 2) (ret := none) (by decide) rfl ?_
  intro p e s m args below meth c s₁ B hml hv
  obtain ⟨rfl, hP, hK, hD, hT, hG⟩ := hv
  have hx := B.exec
  have hb := B.bytes
  have hr := B.returns
  have hts := atoms_spec (ws := wsX2_readMeasures) B.pre
  have hown : s.vm.findClass RX2 = some m.cls := findClass_of_methodNamed B.named
  have hlocks := B.notSynchronized
  have in5 : ∀ w ∈ u_ws RX5 TX5 8, w ∈ wsX2_readMeasures := fun w h => List.mem_cons_of_mem _ (List.mem_append_left _ (List.mem_append_left _ (List.mem_append_right _ h)))
  have hS : va_S A s.heap s.heap [] := va_S.rf
  unfold f_X2_readMeasures at h
  rcases r1 with _ | b1
  · skip
    have hl := lv_entry ([.ref (ad a0), va_rf ((none : Option Nat).map ad)]) (n := 2) (Nat.le_of_ble_eq_true rfl)
    rw [lg_entry_eq]
    generalize (lg_sl ([.ref (ad a0), va_rf ((none : Option Nat).map ad)]) ++ List.replicate (2 - (lg_sl ([.ref (ad a0), va_rf ((none : Option Nat).map ad)])).length) Slot.unset).toArray = ls at hl ⊢
    have hl : lv_has ls 2 [(0, .ref (ad a0)), (1, .null)] := hl
    replace h := oc_n rfl h
    refine lv_aload_nN hx hb dX2_readMeasures_0 rfl (lv_at hl 1 rfl) ?_
    refine lv_ifnonnullN hx hb dX2_readMeasures_1 ?_
    exact r_vret hx hb hr hlocks hP hK hD hT hG hS (Option.some.inj h) dX2_readMeasures_4
  · skip
    have hl := lv_entry ([.ref (ad a0), va_rf ((some b1).map ad)]) (n := 2) (Nat.le_of_ble_eq_true rfl)
    rw [lg_entry_eq]
    generalize (lg_sl ([.ref (ad a0), va_rf ((some b1).map ad)]) ++ List.replicate (2 - (lg_sl ([.ref (ad a0), va_rf ((some b1).map ad)])).length) Slot.unset).toArray = ls at hl ⊢
    have hl : lv_has ls 2 [(0, .ref (ad a0)), (1, .ref (ad b1))] := hl
    replace h := oc_s rfl h
    have kb1 := k1 _ rfl
    refine lv_aload_n hx hb dX2_readMeasures_0 rfl (lv_at hl 1 rfl) ?_
    refine lv_ifnonnull (tgt := 5) hx hb dX2_readMeasures_1 rfl ?_
    refine lv_aload_n hx hb dX2_readMeasures_5 rfl (lv_at hl 1 rfl) ?_
    refine lv_aload_n hx hb dX2_readMeasures_6 rfl (lv_at hl 0 rfl) ?_
    refine r_ldcS (tx := "tons") (i := 7) hx hb hG hown (by decide +kernel) dX2_readMeasures_7 ?_
    refine lv_iconst (v := 1) hx hb dX2_readMeasures_9 rfl ?_
    refine lv_bipush (v := 99) hx hb dX2_readMeasures_10 rfl ?_
    obtain ⟨z1, h1, h⟩ := ob_some h
    refine k_i (va_runV (As := [.ref (q.2.1 7), .int 1, .int 99]) (rest := [.ref (ad b1)]) ⟨hx, hb, hml, hown, hts⟩ (c_X2_measure (l := l) M a0 7 1 99 k0 (by decide) h1) (cwV 3 hts gX2_readMeasures_X2_measure rfl rfl rfl hdV_X2_measure ⟨Nat.le_of_ble_eq_true rfl, Nat.le_of_ble_eq_true rfl⟩) (pV (T := TX2) hP hK hD hT hG hS k0 (by decide) rfl) rfl rfl hl.1 rfl (lv_room (Nat.le_of_ble_eq_true rfl)) dX2_readMeasures_12 ⟨Nat.zero_le _, Nat.zero_le _⟩) hS (fun H locs hP hD hT hS => ?_)
    refine r_putI (T := TX5) (ty := .int) (v := z1.1) hx hb hts in5 tyX5 tyX5_ok nmX5 hown hK hP hD hT hS kb1 (by decide) rfl 0 (by decide) (hts (.fieldLink RX2 196 "StoneWalk$Stone" "tons" "I") (List.mem_of_getElem? (i := 1) (by decide +kernel))) rfl rfl (tyX5_ok 0 (by decide)) rfl rfl rfl dX2_readMeasures_15 (fun H locs hP hD hT hS => ?_)
    refine lv_aload_n hx hb dX2_readMeasures_18 rfl (lv_at hl 1 rfl) ?_
    refine lv_aload_n hx hb dX2_readMeasures_19 rfl (lv_at hl 0 rfl) ?_
    refine r_ldcS (tx := "lean") (i := 8) hx hb hG hown (by decide +kernel) dX2_readMeasures_20 ?_
    refine lv_iconst (v := 0) hx hb dX2_readMeasures_22 rfl ?_
    refine lv_bipush (v := 30) hx hb dX2_readMeasures_23 rfl ?_
    obtain ⟨z2, h2, h⟩ := ob_some h
    refine k_i (va_runV (As := [.ref (q.2.1 8), .int 0, .int 30]) (rest := [.ref (ad b1)]) ⟨hx, hb, hml, hown, hts⟩ (c_X2_measure (l := l) (pI z1.2 b1 0 z1.1) a0 8 0 30 k0 (by decide) h2) (cwV 3 hts gX2_readMeasures_X2_measure rfl rfl rfl hdV_X2_measure ⟨Nat.le_of_ble_eq_true rfl, Nat.le_of_ble_eq_true rfl⟩) (pV (T := TX2) hP hK hD hT hG hS k0 (by decide) rfl) rfl rfl hl.1 rfl (lv_room (Nat.le_of_ble_eq_true rfl)) dX2_readMeasures_25 ⟨Nat.zero_le _, Nat.zero_le _⟩) hS (fun H locs hP hD hT hS => ?_)
    refine r_putI (T := TX5) (ty := .int) (v := z2.1) hx hb hts in5 tyX5 tyX5_ok nmX5 hown hK hP hD hT hS kb1 (by decide) rfl 1 (by decide) (hts (.fieldLink RX2 202 "StoneWalk$Stone" "lean" "I") (List.mem_of_getElem? (i := 2) (by decide +kernel))) rfl rfl (tyX5_ok 1 (by decide)) rfl rfl rfl dX2_readMeasures_28 (fun H locs hP hD hT hS => ?_)
    refine lv_aload_n hx hb dX2_readMeasures_31 rfl (lv_at hl 1 rfl) ?_
    refine lv_aload_n hx hb dX2_readMeasures_32 rfl (lv_at hl 0 rfl) ?_
    refine r_ldcS (tx := "edge") (i := 9) hx hb hG hown (by decide +kernel) dX2_readMeasures_33 ?_
    refine lv_iconst (v := 0) hx hb dX2_readMeasures_35 rfl ?_
    refine lv_bipush (v := 20) hx hb dX2_readMeasures_36 rfl ?_
    obtain ⟨z3, h3, h⟩ := ob_some h
    refine k_i (va_runV (As := [.ref (q.2.1 9), .int 0, .int 20]) (rest := [.ref (ad b1)]) ⟨hx, hb, hml, hown, hts⟩ (c_X2_measure (l := l) (pI z2.2 b1 1 z2.1) a0 9 0 20 k0 (by decide) h3) (cwV 3 hts gX2_readMeasures_X2_measure rfl rfl rfl hdV_X2_measure ⟨Nat.le_of_ble_eq_true rfl, Nat.le_of_ble_eq_true rfl⟩) (pV (T := TX2) hP hK hD hT hG hS k0 (by decide) rfl) rfl rfl hl.1 rfl (lv_room (Nat.le_of_ble_eq_true rfl)) dX2_readMeasures_38 ⟨Nat.zero_le _, Nat.zero_le _⟩) hS (fun H locs hP hD hT hS => ?_)
    refine r_putI (T := TX5) (ty := .int) (v := z3.1) hx hb hts in5 tyX5 tyX5_ok nmX5 hown hK hP hD hT hS kb1 (by decide) rfl 2 (by decide) (hts (.fieldLink RX2 206 "StoneWalk$Stone" "edge" "I") (List.mem_of_getElem? (i := 3) (by decide +kernel))) rfl rfl (tyX5_ok 2 (by decide)) rfl rfl rfl dX2_readMeasures_41 (fun H locs hP hD hT hS => ?_)
    exact r_vret hx hb hr hlocks hP hK hD hT hG hS (Option.some.inj h) dX2_readMeasures_44
set_option maxHeartbeats 4000000 in
set_option maxRecDepth 100000 in
theorem c_X2_toldName {l : Launch} {D : va_G} {ad : Nat → Nat} {cy : Nat → ClassId} {A : Nat → Prop} {g : CG} {q : SE} (M : MM) (a0 : Nat) (x1 : Int32) (k0 : ok g a0 2 0) {Z : (Int32 × MM)} (h : f_X2_toldName M a0 x1 = some Z) : Met l yX2_toldName wsX2_toldName ({ frames := 5, cells := 0, slots := 0, locals := 111 }) (va_Pc [.ref (ad a0), .int x1] (Wd D ad cy A g q M)) (va_Qi (fun r u => r = Z.1 ∧ u = Z.2) (Wd D ad cy A g q) A) 0 0 A := by
  refine Met.ofW (cc := cX2_toldName) (maxL := 3) (ret := (some .int)) (by decide) rfl ?_
  intro p e s m args below meth c s₁ B hml hv
  obtain ⟨rfl, hP, hK, hD, hT, hG⟩ := hv
  have hx := B.exec
  have hb := B.bytes
  have hr := B.returns
  have hts := atoms_spec (ws := wsX2_toldName) B.pre
  have hown : s.vm.findClass RX2 = some m.cls := findClass_of_methodNamed B.named
  have hlocks := B.notSynchronized
  have in2 : ∀ w ∈ u_ws RX2 TX2 7, w ∈ wsX2_toldName := fun w h => List.mem_cons_of_mem _ (List.mem_append_left _ (List.mem_append_right _ h))
  have hS : va_S A s.heap s.heap [] := va_S.rf
  have hl := lv_entry ([.ref (ad a0), .int x1]) (n := 3) (Nat.le_of_ble_eq_true rfl)
  rw [lg_entry_eq]
  generalize (lg_sl ([.ref (ad a0), .int x1]) ++ List.replicate (3 - (lg_sl ([.ref (ad a0), .int x1])).length) Slot.unset).toArray = ls at hl ⊢
  have hl : lv_has ls 3 [(0, .ref (ad a0)), (1, .int x1)] := hl
  unfold f_X2_toldName at h
  refine lv_aload_n hx hb dX2_toldName_0 rfl (lv_at hl 0 rfl) ?_
  rcases hN1 : gR M a0 0 with _ | b1
  · exact absurd (oc_n hN1 h) (by simp)
  replace h := oc_s hN1 h
  have kb1 := hT.f k0 (k := 0) (t := 7) (n := 0) rfl hN1
  refine r_get (T := TX2) (v := .ref (ad b1)) hx hb hts in2 hown hK hP k0 (by decide) rfl 0 (by decide) (hts (.fieldLink RX2 22 "StoneWalk$Reader" "tape" "LStoneWalk$Tape;") (List.mem_of_getElem? (i := 1) (by decide +kernel))) rfl (t := 2) rfl (by show va_rf _ = _; rw [hN1]; rfl) dX2_toldName_1 ?_
  obtain ⟨z2, h2, h⟩ := ob_some h
  refine k_z (va_runV (As := []) (rest := []) ⟨hx, hb, hml, hown, hts⟩ (c_X7_isWord (l := l) M b1 kb1 h2) (cwV 0 hts gX2_toldName_X7_isWord rfl rfl rfl hdV_X7_isWord ⟨Nat.le_of_ble_eq_true rfl, Nat.le_of_ble_eq_true rfl⟩) (pV (T := TX7) hP hK hD hT hG hS kb1 (by decide) rfl) rfl rfl hl.1 rfl (lv_room (Nat.le_of_ble_eq_true rfl)) dX2_toldName_4 ⟨Nat.zero_le _, Nat.zero_le _⟩) hS (fun H locs hz2 hP hD hT hS => ?_)
  refine lv_if_eq (tgt := 24) hx hb dX2_toldName_7 rfl (fun c3 => ?_) (fun c3 => ?_)
  · replace h := ite_t c3 h
    refine lv_aload_n hx hb dX2_toldName_24 rfl (lv_at hl 0 rfl) ?_
    refine lv_iconst (v := 1) hx hb dX2_toldName_25 rfl ?_
    obtain ⟨z4, h4, h⟩ := ob_some h
    refine k_v (va_runV (As := [.int 1]) (rest := []) ⟨hx, hb, hml, hown, hts⟩ (c_X2_fail (l := l) M a0 1 k0 h4) (cwV 1 hts gX2_toldName_X2_fail rfl rfl rfl hdV_X2_fail ⟨Nat.le_of_ble_eq_true rfl, Nat.le_of_ble_eq_true rfl⟩) (pV (T := TX2) hP hK hD hT hG hS k0 (by decide) rfl) rfl rfl hl.1 rfl (lv_room (Nat.le_of_ble_eq_true rfl)) dX2_toldName_26 ⟨Nat.zero_le _, Nat.zero_le _⟩) hS (fun H locs hP hD hT hS => ?_)
    refine lv_iconst (v := (-1)) hx hb dX2_toldName_29 rfl ?_
    have hZ := Option.some.inj h
    have hZ1 := congrArg Prod.fst hZ
    have hZ2 := congrArg Prod.snd hZ
    exact r_iret hx hb hr hlocks hP hK hD hT hG hS hZ1 hZ2 dX2_toldName_30
  · replace h := ite_f c3 h
    refine lv_aload_n hx hb dX2_toldName_10 rfl (lv_at hl 0 rfl) ?_
    rcases hN5 : gR M a0 0 with _ | b5
    · exact absurd (oc_n hN5 h) (by simp)
    replace h := oc_s hN5 h
    have kb5 := hT.f k0 (k := 0) (t := 7) (n := 0) rfl hN5
    refine r_get (T := TX2) (v := .ref (ad b5)) hx hb hts in2 hown hK hP k0 (by decide) rfl 0 (by decide) (hts (.fieldLink RX2 22 "StoneWalk$Reader" "tape" "LStoneWalk$Tape;") (List.mem_of_getElem? (i := 1) (by decide +kernel))) rfl (t := 2) rfl (by show va_rf _ = _; rw [hN5]; rfl) dX2_toldName_11 ?_
    refine r_ldcSw (tx := "way road statue trial land fields houses story teller try up down stranger") (i := 29) hx hb hG hown (by decide +kernel) dX2_toldName_14 ?_
    obtain ⟨z6, h6, h⟩ := ob_some h
    refine k_i (va_runV (As := [.ref (q.2.1 29)]) (rest := []) ⟨hx, hb, hml, hown, hts⟩ (c_X7_among (l := l) M b5 29 kb5 (by decide) h6) (cwV 1 hts gX2_toldName_X7_among rfl rfl rfl hdV_X7_among ⟨Nat.le_of_ble_eq_true rfl, Nat.le_of_ble_eq_true rfl⟩) (pV (T := TX7) hP hK hD hT hG hS kb5 (by decide) rfl) rfl rfl hl.1 rfl (lv_room (Nat.le_of_ble_eq_true rfl)) dX2_toldName_17 ⟨Nat.zero_le _, Nat.zero_le _⟩) hS (fun H locs hP hD hT hS => ?_)
    refine lv_iconst (v := (-1)) hx hb dX2_toldName_20 rfl ?_
    refine lv_icmp_eq (tgt := 31) hx hb dX2_toldName_21 rfl (fun c7 => ?_) (fun c7 => ?_)
    · replace h := ite_t c7 h
      refine lv_aload_n hx hb dX2_toldName_31 rfl (lv_at hl 0 rfl) ?_
      obtain ⟨z8, h8, h⟩ := ob_some h
      refine k_i (va_runV (As := []) (rest := []) ⟨hx, hb, hml, hown, hts⟩ (c_X2_findName (l := l) M a0 k0 h8) (cwV 0 hts gX2_toldName_X2_findName rfl rfl rfl hdV_X2_findName ⟨Nat.le_of_ble_eq_true rfl, Nat.le_of_ble_eq_true rfl⟩) (pV (T := TX2) hP hK hD hT hG hS k0 (by decide) rfl) rfl rfl hl.1 rfl (lv_room (Nat.le_of_ble_eq_true rfl)) dX2_toldName_32 ⟨Nat.zero_le _, Nat.zero_le _⟩) hS (fun H locs hP hD hT hS => ?_)
      refine lv_istore_n (lv' := [(2, .int z8), (0, .ref (ad a0)), (1, .int x1)]) hx hb dX2_toldName_35 rfl hl (by decide) rfl (fun ls hl => ?_)
      refine lv_iload_n hx hb dX2_toldName_36 rfl (lv_at hl 0 rfl) ?_
      refine lv_iconst (v := (-1)) hx hb dX2_toldName_37 rfl ?_
      refine lv_icmp_eq (tgt := 53) hx hb dX2_toldName_38 rfl (fun c9 => ?_) (fun c9 => ?_)
      · replace h := ite_t c9 h
        refine lv_aload_n hx hb dX2_toldName_53 rfl (lv_at hl 1 rfl) ?_
        refine lv_iconst (v := 2) hx hb dX2_toldName_54 rfl ?_
        obtain ⟨z10, h10, h⟩ := ob_some h
        refine k_v (va_runV (As := [.int 2]) (rest := []) ⟨hx, hb, hml, hown, hts⟩ (c_X2_fail (l := l) M a0 2 k0 h10) (cwV 1 hts gX2_toldName_X2_fail rfl rfl rfl hdV_X2_fail ⟨Nat.le_of_ble_eq_true rfl, Nat.le_of_ble_eq_true rfl⟩) (pV (T := TX2) hP hK hD hT hG hS k0 (by decide) rfl) rfl rfl hl.1 rfl (lv_room (Nat.le_of_ble_eq_true rfl)) dX2_toldName_55 ⟨Nat.zero_le _, Nat.zero_le _⟩) hS (fun H locs hP hD hT hS => ?_)
        refine lv_iconst (v := (-1)) hx hb dX2_toldName_58 rfl ?_
        have hZ := Option.some.inj h
        have hZ1 := congrArg Prod.fst hZ
        have hZ2 := congrArg Prod.snd hZ
        exact r_iret hx hb hr hlocks hP hK hD hT hG hS hZ1 hZ2 dX2_toldName_59
      · replace h := ite_f c9 h
        refine lv_aload_n hx hb dX2_toldName_41 rfl (lv_at hl 1 rfl) ?_
        rcases hN11 : gR M a0 2 with _ | b11
        · exact absurd (oc_n hN11 h) (by simp)
        replace h := oc_s hN11 h
        have kb11 := hT.f k0 (k := 2) (t := 15) (n := 35) rfl hN11
        refine r_get (T := TX2) (v := .ref (ad b11)) hx hb hts in2 hown hK hP k0 (by decide) rfl 2 (by decide) (hts (.fieldLink RX2 15 "StoneWalk$Reader" "nameSorts" "[I") (List.mem_of_getElem? (i := 2) (by decide +kernel))) rfl (t := 2) rfl (by show va_rf _ = _; rw [hN11]; rfl) dX2_toldName_42 ?_
        refine lv_iload_n hx hb dX2_toldName_45 rfl (lv_at hl 0 rfl) ?_
        obtain ⟨z12, h12, h⟩ := ob_some h
        refine k_i (va_runSN (As := [.ref (ad b11), .int z8]) (rest := []) ⟨hx, hb, hml, hown, hts⟩ (c_X11_entry (l := l) M b11 35 z8 kb11 h12) ⟨va_cnB 2 hts gX2_toldName_X11_entry_n349 rfl rfl rfl (hG.2.1 _ (List.mem_of_getElem? (i := 12) rfl)) (hts (.initialized RX11) (List.mem_of_getElem? (i := 82) (by decide +kernel))) hdS_X11_entry ⟨Nat.le_of_ble_eq_true rfl, Nat.le_of_ble_eq_true rfl⟩, (hts (.static yX11_entry) (List.mem_of_getElem? (i := 81) (by decide +kernel))), trivial⟩ (pS hP hK hD hT hG hS) rfl rfl hl.1 rfl (lv_room (Nat.le_of_ble_eq_true rfl)) dX2_toldName_46 ⟨Nat.zero_le _, Nat.zero_le _⟩) hS (fun H locs hP hD hT hS => ?_)
        refine lv_iload_n hx hb dX2_toldName_49 rfl (lv_at hl 2 rfl) ?_
        refine lv_icmp_eq (tgt := 60) hx hb dX2_toldName_50 rfl (fun c13 => ?_) (fun c13 => ?_)
        · replace h := ite_t c13 h
          refine lv_aload_n hx hb dX2_toldName_60 rfl (lv_at hl 1 rfl) ?_
          rcases hN14 : gR M a0 3 with _ | b14
          · exact absurd (oc_n hN14 h) (by simp)
          replace h := oc_s hN14 h
          have kb14 := hT.f k0 (k := 3) (t := 15) (n := 35) rfl hN14
          refine r_get (T := TX2) (v := .ref (ad b14)) hx hb hts in2 hown hK hP k0 (by decide) rfl 3 (by decide) (hts (.fieldLink RX2 19 "StoneWalk$Reader" "nameNumbers" "[I") (List.mem_of_getElem? (i := 3) (by decide +kernel))) rfl (t := 2) rfl (by show va_rf _ = _; rw [hN14]; rfl) dX2_toldName_61 ?_
          refine lv_iload_n hx hb dX2_toldName_64 rfl (lv_at hl 0 rfl) ?_
          obtain ⟨z15, h15, h⟩ := ob_some h
          refine k_i (va_runSN (As := [.ref (ad b14), .int z8]) (rest := []) ⟨hx, hb, hml, hown, hts⟩ (c_X11_entry (l := l) M b14 35 z8 kb14 h15) ⟨va_cnB 2 hts gX2_toldName_X11_entry_n349 rfl rfl rfl (hG.2.1 _ (List.mem_of_getElem? (i := 12) rfl)) (hts (.initialized RX11) (List.mem_of_getElem? (i := 82) (by decide +kernel))) hdS_X11_entry ⟨Nat.le_of_ble_eq_true rfl, Nat.le_of_ble_eq_true rfl⟩, (hts (.static yX11_entry) (List.mem_of_getElem? (i := 81) (by decide +kernel))), trivial⟩ (pS hP hK hD hT hG hS) rfl rfl hl.1 rfl (lv_room (Nat.le_of_ble_eq_true rfl)) dX2_toldName_65 ⟨Nat.zero_le _, Nat.zero_le _⟩) hS (fun H locs hP hD hT hS => ?_)
          have hZ := Option.some.inj h
          have hZ1 := congrArg Prod.fst hZ
          have hZ2 := congrArg Prod.snd hZ
          exact r_iret hx hb hr hlocks hP hK hD hT hG hS hZ1 hZ2 dX2_toldName_68
        · replace h := ite_f c13 h
          refine lv_aload_n hx hb dX2_toldName_53 rfl (lv_at hl 1 rfl) ?_
          refine lv_iconst (v := 2) hx hb dX2_toldName_54 rfl ?_
          obtain ⟨z16, h16, h⟩ := ob_some h
          refine k_v (va_runV (As := [.int 2]) (rest := []) ⟨hx, hb, hml, hown, hts⟩ (c_X2_fail (l := l) M a0 2 k0 h16) (cwV 1 hts gX2_toldName_X2_fail rfl rfl rfl hdV_X2_fail ⟨Nat.le_of_ble_eq_true rfl, Nat.le_of_ble_eq_true rfl⟩) (pV (T := TX2) hP hK hD hT hG hS k0 (by decide) rfl) rfl rfl hl.1 rfl (lv_room (Nat.le_of_ble_eq_true rfl)) dX2_toldName_55 ⟨Nat.zero_le _, Nat.zero_le _⟩) hS (fun H locs hP hD hT hS => ?_)
          refine lv_iconst (v := (-1)) hx hb dX2_toldName_58 rfl ?_
          have hZ := Option.some.inj h
          have hZ1 := congrArg Prod.fst hZ
          have hZ2 := congrArg Prod.snd hZ
          exact r_iret hx hb hr hlocks hP hK hD hT hG hS hZ1 hZ2 dX2_toldName_59
    · replace h := ite_f c7 h
      refine lv_aload_n hx hb dX2_toldName_24 rfl (lv_at hl 0 rfl) ?_
      refine lv_iconst (v := 1) hx hb dX2_toldName_25 rfl ?_
      obtain ⟨z17, h17, h⟩ := ob_some h
      refine k_v (va_runV (As := [.int 1]) (rest := []) ⟨hx, hb, hml, hown, hts⟩ (c_X2_fail (l := l) M a0 1 k0 h17) (cwV 1 hts gX2_toldName_X2_fail rfl rfl rfl hdV_X2_fail ⟨Nat.le_of_ble_eq_true rfl, Nat.le_of_ble_eq_true rfl⟩) (pV (T := TX2) hP hK hD hT hG hS k0 (by decide) rfl) rfl rfl hl.1 rfl (lv_room (Nat.le_of_ble_eq_true rfl)) dX2_toldName_26 ⟨Nat.zero_le _, Nat.zero_le _⟩) hS (fun H locs hP hD hT hS => ?_)
      refine lv_iconst (v := (-1)) hx hb dX2_toldName_29 rfl ?_
      have hZ := Option.some.inj h
      have hZ1 := congrArg Prod.fst hZ
      have hZ2 := congrArg Prod.snd hZ
      exact r_iret hx hb hr hlocks hP hK hD hT hG hS hZ1 hZ2 dX2_toldName_30
set_option maxHeartbeats 4000000 in
set_option maxRecDepth 100000 in
theorem c_X2_readLying {l : Launch} {D : va_G} {ad : Nat → Nat} {cy : Nat → ClassId} {A : Nat → Prop} {g : CG} {q : SE} (M : MM) (a0 : Nat) (a1 : Nat) (a2 : Nat) (k0 : ok g a0 2 0) (k1 : ok g a1 0 0) (k2 : ok g a2 5 0) {Z : MM} (h : f_X2_readLying M a0 a1 a2 = some Z) : Met l yX2_readLying wsX2_readLying ({ frames := 6, cells := 0, slots := 0, locals := 133 }) (va_Pc [.ref (ad a0), .ref (ad a1), .ref (ad a2)] (Wd D ad cy A g q M)) (va_Qv (fun u => u = Z) (Wd D ad cy A g q) A) 0 0 A := by
  refine Met.ofW (cc := cX2_readLying) (maxL := 4) (ret := none) (by decide) rfl ?_
  intro p e s m args below meth c s₁ B hml hv
  obtain ⟨rfl, hP, hK, hD, hT, hG⟩ := hv
  have hx := B.exec
  have hb := B.bytes
  have hr := B.returns
  have hts := atoms_spec (ws := wsX2_readLying) B.pre
  have hown : s.vm.findClass RX2 = some m.cls := findClass_of_methodNamed B.named
  have hlocks := B.notSynchronized
  have in2 : ∀ w ∈ u_ws RX2 TX2 7, w ∈ wsX2_readLying := fun w h => List.mem_cons_of_mem _ (List.mem_append_left _ (List.mem_append_left _ (List.mem_append_left _ (List.mem_append_right _ h))))
  have in3 : ∀ w ∈ u_ws RX3 TX3 3, w ∈ wsX2_readLying := fun w h => List.mem_cons_of_mem _ (List.mem_append_left _ (List.mem_append_left _ (List.mem_append_right _ h)))
  have in5 : ∀ w ∈ u_ws RX5 TX5 8, w ∈ wsX2_readLying := fun w h => List.mem_cons_of_mem _ (List.mem_append_left _ (List.mem_append_left _ (List.mem_append_left _ (List.mem_append_left _ (List.mem_append_right _ h)))))
  have hS : va_S A s.heap s.heap [] := va_S.rf
  have hl := lv_entry ([.ref (ad a0), .ref (ad a1), .ref (ad a2)]) (n := 4) (Nat.le_of_ble_eq_true rfl)
  rw [lg_entry_eq]
  generalize (lg_sl ([.ref (ad a0), .ref (ad a1), .ref (ad a2)]) ++ List.replicate (4 - (lg_sl ([.ref (ad a0), .ref (ad a1), .ref (ad a2)])).length) Slot.unset).toArray = ls at hl ⊢
  have hl : lv_has ls 4 [(0, .ref (ad a0)), (1, .ref (ad a1)), (2, .ref (ad a2))] := hl
  unfold f_X2_readLying at h
  refine lv_aload_n hx hb dX2_readLying_0 rfl (lv_at hl 2 rfl) ?_
  refine lv_aload_n hx hb dX2_readLying_1 rfl (lv_at hl 0 rfl) ?_
  refine r_ldcS (tx := "face back side") (i := 12) hx hb hG hown (by decide +kernel) dX2_readLying_2 ?_
  obtain ⟨z1, h1, h⟩ := ob_some h
  refine k_i (va_runV (As := [.ref (q.2.1 12)]) (rest := [.ref (ad a2)]) ⟨hx, hb, hml, hown, hts⟩ (c_X2_choice (l := l) M a0 12 k0 (by decide) h1) (cwV 1 hts gX2_readLying_X2_choice rfl rfl rfl hdV_X2_choice ⟨Nat.le_of_ble_eq_true rfl, Nat.le_of_ble_eq_true rfl⟩) (pV (T := TX2) hP hK hD hT hG hS k0 (by decide) rfl) rfl rfl hl.1 rfl (lv_room (Nat.le_of_ble_eq_true rfl)) dX2_readLying_4 ⟨Nat.zero_le _, Nat.zero_le _⟩) hS (fun H locs hP hD hT hS => ?_)
  refine r_putI (T := TX5) (ty := .int) (v := z1.1) hx hb hts in5 tyX5 tyX5_ok nmX5 hown hK hP hD hT hS k2 (by decide) rfl 4 (by decide) (hts (.fieldLink RX2 208 "StoneWalk$Stone" "lie" "I") (List.mem_of_getElem? (i := 1) (by decide +kernel))) rfl rfl (tyX5_ok 4 (by decide)) rfl rfl rfl dX2_readLying_7 (fun H locs hP hD hT hS => ?_)
  refine lv_aload_n hx hb dX2_readLying_10 rfl (lv_at hl 0 rfl) ?_
  refine r_ldcS (tx := "on") (i := 13) hx hb hG hown (by decide +kernel) dX2_readLying_11 ?_
  obtain ⟨z2, h2, h⟩ := ob_some h
  refine k_i (va_runV (As := [.ref (q.2.1 13)]) (rest := []) ⟨hx, hb, hml, hown, hts⟩ (c_X2_choice (l := l) (pI z1.2 a2 4 z1.1) a0 13 k0 (by decide) h2) (cwV 1 hts gX2_readLying_X2_choice rfl rfl rfl hdV_X2_choice ⟨Nat.le_of_ble_eq_true rfl, Nat.le_of_ble_eq_true rfl⟩) (pV (T := TX2) hP hK hD hT hG hS k0 (by decide) rfl) rfl rfl hl.1 rfl (lv_room (Nat.le_of_ble_eq_true rfl)) dX2_readLying_13 ⟨Nat.zero_le _, Nat.zero_le _⟩) hS (fun H locs hP hD hT hS => ?_)
  refine lv_pop hx hb dX2_readLying_16 rfl ?_
  refine lv_aload_n hx hb dX2_readLying_17 rfl (lv_at hl 2 rfl) ?_
  refine lv_aload_n hx hb dX2_readLying_18 rfl (lv_at hl 0 rfl) ?_
  refine lv_iconst (v := 1) hx hb dX2_readLying_19 rfl ?_
  obtain ⟨z3, h3, h⟩ := ob_some h
  refine k_i (va_runV (As := [.int 1]) (rest := [.ref (ad a2)]) ⟨hx, hb, hml, hown, hts⟩ (c_X2_toldName (l := l) z2.2 a0 1 k0 h3) (cwV 1 hts gX2_readLying_X2_toldName rfl rfl rfl hdV_X2_toldName ⟨Nat.le_of_ble_eq_true rfl, Nat.le_of_ble_eq_true rfl⟩) (pV (T := TX2) hP hK hD hT hG hS k0 (by decide) rfl) rfl rfl hl.1 rfl (lv_room (Nat.le_of_ble_eq_true rfl)) dX2_readLying_20 ⟨Nat.zero_le _, Nat.zero_le _⟩) hS (fun H locs hP hD hT hS => ?_)
  refine r_putI (T := TX5) (ty := .int) (v := z3.1) hx hb hts in5 tyX5 tyX5_ok nmX5 hown hK hP hD hT hS k2 (by decide) rfl 5 (by decide) (hts (.fieldLink RX2 211 "StoneWalk$Stone" "road" "I") (List.mem_of_getElem? (i := 2) (by decide +kernel))) rfl rfl (tyX5_ok 5 (by decide)) rfl rfl rfl dX2_readLying_23 (fun H locs hP hD hT hS => ?_)
  refine lv_aload_n hx hb dX2_readLying_26 rfl (lv_at hl 0 rfl) ?_
  rcases hN4 : gR (pI z3.2 a2 5 z3.1) a0 0 with _ | b4
  · exact absurd (oc_n hN4 h) (by simp)
  replace h := oc_s hN4 h
  have kb4 := hT.f k0 (k := 0) (t := 7) (n := 0) rfl hN4
  refine r_get (T := TX2) (v := .ref (ad b4)) hx hb hts in2 hown hK hP k0 (by decide) rfl 0 (by decide) (hts (.fieldLink RX2 22 "StoneWalk$Reader" "tape" "LStoneWalk$Tape;") (List.mem_of_getElem? (i := 3) (by decide +kernel))) rfl (t := 2) rfl (by show va_rf _ = _; rw [hN4]; rfl) dX2_readLying_27 ?_
  obtain ⟨z5, h5, h⟩ := ob_some h
  refine k_v (va_runV (As := []) (rest := []) ⟨hx, hb, hml, hown, hts⟩ (c_X7_advance (l := l) (pI z3.2 a2 5 z3.1) b4 kb4 h5) (cwV 0 hts gX2_readLying_X7_advance rfl rfl rfl hdV_X7_advance ⟨Nat.le_of_ble_eq_true rfl, Nat.le_of_ble_eq_true rfl⟩) (pV (T := TX7) hP hK hD hT hG hS kb4 (by decide) rfl) rfl rfl hl.1 rfl (lv_room (Nat.le_of_ble_eq_true rfl)) dX2_readLying_30 ⟨Nat.zero_le _, Nat.zero_le _⟩) hS (fun H locs hP hD hT hS => ?_)
  refine lv_aload_n hx hb dX2_readLying_33 rfl (lv_at hl 0 rfl) ?_
  refine r_ldcS (tx := "at") (i := 14) hx hb hG hown (by decide +kernel) dX2_readLying_34 ?_
  obtain ⟨z6, h6, h⟩ := ob_some h
  refine k_i (va_runV (As := [.ref (q.2.1 14)]) (rest := []) ⟨hx, hb, hml, hown, hts⟩ (c_X2_choice (l := l) z5 a0 14 k0 (by decide) h6) (cwV 1 hts gX2_readLying_X2_choice rfl rfl rfl hdV_X2_choice ⟨Nat.le_of_ble_eq_true rfl, Nat.le_of_ble_eq_true rfl⟩) (pV (T := TX2) hP hK hD hT hG hS k0 (by decide) rfl) rfl rfl hl.1 rfl (lv_room (Nat.le_of_ble_eq_true rfl)) dX2_readLying_36 ⟨Nat.zero_le _, Nat.zero_le _⟩) hS (fun H locs hP hD hT hS => ?_)
  refine lv_pop hx hb dX2_readLying_39 rfl ?_
  refine lv_aload_n hx hb dX2_readLying_40 rfl (lv_at hl 1 rfl) ?_
  refine lv_aload_n hx hb dX2_readLying_41 rfl (lv_at hl 2 rfl) ?_
  refine r_get (T := TX5) (v := .int (gI z6.2 a2 5)) hx hb hts in5 hown hK hP k2 (by decide) rfl 5 (by decide) (hts (.fieldLink RX2 211 "StoneWalk$Stone" "road" "I") (List.mem_of_getElem? (i := 2) (by decide +kernel))) rfl (t := 0) rfl rfl dX2_readLying_42 ?_
  obtain ⟨z7, h7, h⟩ := ob_some h
  refine k_q (va_runV (As := [.int (gI z6.2 a2 5)]) (rest := []) ⟨hx, hb, hml, hown, hts⟩ (c_X0_roadAt (l := l) z6.2 a1 (gI z6.2 a2 5) k1 h7) (cwV 1 hts gX2_readLying_X0_roadAt rfl rfl rfl hdV_X0_roadAt ⟨Nat.le_of_ble_eq_true rfl, Nat.le_of_ble_eq_true rfl⟩) (pV (T := TX0) hP hK hD hT hG hS k1 (by decide) rfl) rfl rfl hl.1 rfl (lv_room (Nat.le_of_ble_eq_true rfl)) dX2_readLying_45 ⟨Nat.zero_le _, Nat.zero_le _⟩) hS (fun H locs hq7 hP hD hT hS => ?_)
  rcases hN7 : z7 with _ | b7
  · replace h := oc_n hN7 h
    show W _ _ _ _ _ _ _ _ _ _ _ _ _ _ _ (F0 _ _ _ (.null :: []))
    refine lv_astore_nN (lv' := [(3, .null), (0, .ref (ad a0)), (1, .ref (ad a1)), (2, .ref (ad a2))]) hx hb dX2_readLying_48 rfl hl (by decide) rfl (fun ls hl => ?_)
    refine lv_aload_nN hx hb dX2_readLying_49 rfl (lv_at hl 0 rfl) ?_
    refine lv_ifnullN (tgt := 80) hx hb dX2_readLying_50 rfl ?_
    exact r_vret hx hb hr hlocks hP hK hD hT hG hS (Option.some.inj h) dX2_readLying_80
  · replace h := oc_s hN7 h
    have kb7 := hq7 _ hN7
    show W _ _ _ _ _ _ _ _ _ _ _ _ _ _ _ (F0 _ _ _ (.ref (ad b7) :: []))
    refine lv_astore_n (lv' := [(3, .ref (ad b7)), (0, .ref (ad a0)), (1, .ref (ad a1)), (2, .ref (ad a2))]) hx hb dX2_readLying_48 rfl hl (by decide) rfl (fun ls hl => ?_)
    refine lv_aload_n hx hb dX2_readLying_49 rfl (lv_at hl 0 rfl) ?_
    refine lv_ifnull hx hb dX2_readLying_50 ?_
    refine lv_aload_n hx hb dX2_readLying_53 rfl (lv_at hl 3 rfl) ?_
    refine lv_aload_n hx hb dX2_readLying_54 rfl (lv_at hl 1 rfl) ?_
    refine lv_iconst (v := 0) hx hb dX2_readLying_55 rfl ?_
    refine lv_aload_n hx hb dX2_readLying_56 rfl (lv_at hl 0 rfl) ?_
    refine r_get (T := TX3) (v := .int (gI z6.2 b7 1)) hx hb hts in3 hown hK hP kb7 (by decide) rfl 1 (by decide) (hts (.fieldLink RX2 171 "StoneWalk$Road" "held" "I") (List.mem_of_getElem? (i := 4) (by decide +kernel))) rfl (t := 0) rfl rfl dX2_readLying_57 ?_
    refine lv_iconst (v := 1) hx hb dX2_readLying_60 rfl ?_
    refine lv_isub hx hb dX2_readLying_61 ?_
    obtain ⟨z8, h8, h⟩ := ob_some h
    refine k_i (va_runV (As := [.int 0, .int ((gI z6.2 b7 1) - 1)]) (rest := [.ref (ad a2)]) ⟨hx, hb, hml, hown, hts⟩ (c_X2_whole (l := l) z6.2 a0 0 ((gI z6.2 b7 1) - 1) k0 h8) (cwV 2 hts gX2_readLying_X2_whole rfl rfl rfl hdV_X2_whole ⟨Nat.le_of_ble_eq_true rfl, Nat.le_of_ble_eq_true rfl⟩) (pV (T := TX2) hP hK hD hT hG hS k0 (by decide) rfl) rfl rfl hl.1 rfl (lv_room (Nat.le_of_ble_eq_true rfl)) dX2_readLying_62 ⟨Nat.zero_le _, Nat.zero_le _⟩) hS (fun H locs hP hD hT hS => ?_)
    refine r_putI (T := TX5) (ty := .int) (v := z8.1) hx hb hts in5 tyX5 tyX5_ok nmX5 hown hK hP hD hT hS k2 (by decide) rfl 6 (by decide) (hts (.fieldLink RX2 214 "StoneWalk$Stone" "place" "I") (List.mem_of_getElem? (i := 5) (by decide +kernel))) rfl rfl (tyX5_ok 6 (by decide)) rfl rfl rfl dX2_readLying_65 (fun H locs hP hD hT hS => ?_)
    refine lv_aload_n hx hb dX2_readLying_68 rfl (lv_at hl 3 rfl) ?_
    refine lv_aload_n hx hb dX2_readLying_69 rfl (lv_at hl 0 rfl) ?_
    refine lv_aload_n hx hb dX2_readLying_70 rfl (lv_at hl 3 rfl) ?_
    refine r_get (T := TX5) (v := .int (gI (pI z8.2 a2 6 z8.1) a2 6)) hx hb hts in5 hown hK hP k2 (by decide) rfl 6 (by decide) (hts (.fieldLink RX2 214 "StoneWalk$Stone" "place" "I") (List.mem_of_getElem? (i := 5) (by decide +kernel))) rfl (t := 0) rfl rfl dX2_readLying_71 ?_
    obtain ⟨z9, h9, h⟩ := ob_some h
    refine k_i (va_runV (As := [.int (gI (pI z8.2 a2 6 z8.1) a2 6)]) (rest := [.ref (ad a2)]) ⟨hx, hb, hml, hown, hts⟩ (c_X3_slopeAt (l := l) (pI z8.2 a2 6 z8.1) b7 (gI (pI z8.2 a2 6 z8.1) a2 6) kb7 h9) (cwV 1 hts gX2_readLying_X3_slopeAt rfl rfl rfl hdV_X3_slopeAt ⟨Nat.le_of_ble_eq_true rfl, Nat.le_of_ble_eq_true rfl⟩) (pV (T := TX3) hP hK hD hT hG hS kb7 (by decide) rfl) rfl rfl hl.1 rfl (lv_room (Nat.le_of_ble_eq_true rfl)) dX2_readLying_74 ⟨Nat.zero_le _, Nat.zero_le _⟩) hS (fun H locs hP hD hT hS => ?_)
    refine r_putI (T := TX5) (ty := .int) (v := z9) hx hb hts in5 tyX5 tyX5_ok nmX5 hown hK hP hD hT hS k2 (by decide) rfl 7 (by decide) (hts (.fieldLink RX2 243 "StoneWalk$Stone" "slope" "I") (List.mem_of_getElem? (i := 6) (by decide +kernel))) rfl rfl (tyX5_ok 7 (by decide)) rfl rfl rfl dX2_readLying_77 (fun H locs hP hD hT hS => ?_)
    exact r_vret hx hb hr hlocks hP hK hD hT hG hS (Option.some.inj h) dX2_readLying_80
set_option maxHeartbeats 4000000 in
set_option maxRecDepth 100000 in
theorem c_X2_readSort {l : Launch} {D : va_G} {ad : Nat → Nat} {cy : Nat → ClassId} {A : Nat → Prop} {g : CG} {q : SE} (M : MM) (a0 : Nat) (a1 : Nat) (r2 : Option Nat) (k0 : ok g a0 2 0) (k1 : ok g a1 0 0) (k2 : ∀ b, r2 = some b → ok g b 5 0) {Z : MM} (h : f_X2_readSort M a0 a1 r2 = some Z) : Met l yX2_readSort wsX2_readSort ({ frames := 7, cells := 0, slots := 0, locals := 156 }) (va_Pc [.ref (ad a0), .ref (ad a1), va_rf (r2.map ad)] (Wd D ad cy A g q M)) (va_Qv (fun u => u = Z) (Wd D ad cy A g q) A) 0 0 A := by
  refine Met.ofW (cc := cX2_readSort) (maxL := 3) (ret := none) (by decide) rfl ?_
  intro p e s m args below meth c s₁ B hml hv
  obtain ⟨rfl, hP, hK, hD, hT, hG⟩ := hv
  have hx := B.exec
  have hb := B.bytes
  have hr := B.returns
  have hts := atoms_spec (ws := wsX2_readSort) B.pre
  have hown : s.vm.findClass RX2 = some m.cls := findClass_of_methodNamed B.named
  have hlocks := B.notSynchronized
  have in0 : ∀ w ∈ u_ws RX0 TX0 17, w ∈ wsX2_readSort := fun w h => List.mem_cons_of_mem _ (List.mem_append_left _ (List.mem_append_left _ (List.mem_append_left _ (List.mem_append_right _ h))))
  have in2 : ∀ w ∈ u_ws RX2 TX2 7, w ∈ wsX2_readSort := fun w h => List.mem_cons_of_mem _ (List.mem_append_left _ (List.mem_append_left _ (List.mem_append_right _ h)))
  have in5 : ∀ w ∈ u_ws RX5 TX5 8, w ∈ wsX2_readSort := fun w h => List.mem_cons_of_mem _ (List.mem_append_left _ (List.mem_append_left _ (List.mem_append_left _ (List.mem_append_left _ (List.mem_append_right _ h)))))
  have hS : va_S A s.heap s.heap [] := va_S.rf
  unfold f_X2_readSort at h
  rcases r2 with _ | b2
  · skip
    have hl := lv_entry ([.ref (ad a0), .ref (ad a1), va_rf ((none : Option Nat).map ad)]) (n := 3) (Nat.le_of_ble_eq_true rfl)
    rw [lg_entry_eq]
    generalize (lg_sl ([.ref (ad a0), .ref (ad a1), va_rf ((none : Option Nat).map ad)]) ++ List.replicate (3 - (lg_sl ([.ref (ad a0), .ref (ad a1), va_rf ((none : Option Nat).map ad)])).length) Slot.unset).toArray = ls at hl ⊢
    have hl : lv_has ls 3 [(0, .ref (ad a0)), (1, .ref (ad a1)), (2, .null)] := hl
    replace h := oc_n rfl h
    refine lv_aload_nN hx hb dX2_readSort_0 rfl (lv_at hl 2 rfl) ?_
    refine lv_ifnonnullN hx hb dX2_readSort_1 ?_
    exact r_vret hx hb hr hlocks hP hK hD hT hG hS (Option.some.inj h) dX2_readSort_4
  · skip
    have hl := lv_entry ([.ref (ad a0), .ref (ad a1), va_rf ((some b2).map ad)]) (n := 3) (Nat.le_of_ble_eq_true rfl)
    rw [lg_entry_eq]
    generalize (lg_sl ([.ref (ad a0), .ref (ad a1), va_rf ((some b2).map ad)]) ++ List.replicate (3 - (lg_sl ([.ref (ad a0), .ref (ad a1), va_rf ((some b2).map ad)])).length) Slot.unset).toArray = ls at hl ⊢
    have hl : lv_has ls 3 [(0, .ref (ad a0)), (1, .ref (ad a1)), (2, .ref (ad b2))] := hl
    replace h := oc_s rfl h
    have kb2 := k2 _ rfl
    refine lv_aload_n hx hb dX2_readSort_0 rfl (lv_at hl 2 rfl) ?_
    refine lv_ifnonnull (tgt := 5) hx hb dX2_readSort_1 rfl ?_
    refine lv_aload_n hx hb dX2_readSort_5 rfl (lv_at hl 2 rfl) ?_
    refine lv_bipush (v := (-2)) hx hb dX2_readSort_6 rfl ?_
    refine r_putI (T := TX5) (ty := .int) (v := (-2)) hx hb hts in5 tyX5 tyX5_ok nmX5 hown hK hP hD hT hS kb2 (by decide) rfl 4 (by decide) (hts (.fieldLink RX2 208 "StoneWalk$Stone" "lie" "I") (List.mem_of_getElem? (i := 1) (by decide +kernel))) rfl rfl (tyX5_ok 4 (by decide)) rfl rfl rfl dX2_readSort_8 (fun H locs hP hD hT hS => ?_)
    refine lv_aload_n hx hb dX2_readSort_11 rfl (lv_at hl 2 rfl) ?_
    refine lv_bipush (v := (-2)) hx hb dX2_readSort_12 rfl ?_
    refine r_putI (T := TX5) (ty := .int) (v := (-2)) hx hb hts in5 tyX5 tyX5_ok nmX5 hown hK hP hD hT hS kb2 (by decide) rfl 5 (by decide) (hts (.fieldLink RX2 211 "StoneWalk$Stone" "road" "I") (List.mem_of_getElem? (i := 2) (by decide +kernel))) rfl rfl (tyX5_ok 5 (by decide)) rfl rfl rfl dX2_readSort_14 (fun H locs hP hD hT hS => ?_)
    refine lv_aload_n hx hb dX2_readSort_17 rfl (lv_at hl 2 rfl) ?_
    refine lv_bipush (v := (-2)) hx hb dX2_readSort_18 rfl ?_
    refine r_putI (T := TX5) (ty := .int) (v := (-2)) hx hb hts in5 tyX5 tyX5_ok nmX5 hown hK hP hD hT hS kb2 (by decide) rfl 6 (by decide) (hts (.fieldLink RX2 214 "StoneWalk$Stone" "place" "I") (List.mem_of_getElem? (i := 3) (by decide +kernel))) rfl rfl (tyX5_ok 6 (by decide)) rfl rfl rfl dX2_readSort_20 (fun H locs hP hD hT hS => ?_)
    refine lv_aload_n hx hb dX2_readSort_23 rfl (lv_at hl 1 rfl) ?_
    refine r_get (T := TX0) (v := .int (gI (pI (pI (pI M b2 4 (-2)) b2 5 (-2)) b2 6 (-2)) a1 8)) hx hb hts in0 hown hK hP k1 (by decide) rfl 8 (by decide) (hts (.fieldLink RX2 215 "StoneWalk$Island" "lying" "I") (List.mem_of_getElem? (i := 4) (by decide +kernel))) rfl (t := 0) rfl rfl dX2_readSort_24 ?_
    refine lv_bipush (v := 8) hx hb dX2_readSort_27 rfl ?_
    refine lv_icmp_ne (tgt := 50) hx hb dX2_readSort_29 rfl (fun c1 => ?_) (fun c1 => ?_)
    · replace h := ite_f c1 h
      refine lv_aload_n hx hb dX2_readSort_50 rfl (lv_at hl 2 rfl) ?_
      refine lv_aload_n hx hb dX2_readSort_51 rfl (lv_at hl 0 rfl) ?_
      refine r_ldcS (tx := "cut large buried stood tried lies") (i := 11) hx hb hG hown (by decide +kernel) dX2_readSort_52 ?_
      obtain ⟨z2, h2, h⟩ := ob_some h
      refine k_i (va_runV (As := [.ref (q.2.1 11)]) (rest := [.ref (ad b2)]) ⟨hx, hb, hml, hown, hts⟩ (c_X2_choice (l := l) (pI (pI (pI M b2 4 (-2)) b2 5 (-2)) b2 6 (-2)) a0 11 k0 (by decide) h2) (cwV 1 hts gX2_readSort_X2_choice rfl rfl rfl hdV_X2_choice ⟨Nat.le_of_ble_eq_true rfl, Nat.le_of_ble_eq_true rfl⟩) (pV (T := TX2) hP hK hD hT hG hS k0 (by decide) rfl) rfl rfl hl.1 rfl (lv_room (Nat.le_of_ble_eq_true rfl)) dX2_readSort_54 ⟨Nat.zero_le _, Nat.zero_le _⟩) hS (fun H locs hP hD hT hS => ?_)
      refine r_putI (T := TX5) (ty := .int) (v := z2.1) hx hb hts in5 tyX5 tyX5_ok nmX5 hown hK hP hD hT hS kb2 (by decide) rfl 3 (by decide) (hts (.fieldLink RX2 222 "StoneWalk$Stone" "sort" "I") (List.mem_of_getElem? (i := 6) (by decide +kernel))) rfl rfl (tyX5_ok 3 (by decide)) rfl rfl rfl dX2_readSort_57 (fun H locs hP hD hT hS => ?_)
      refine lv_aload_n hx hb dX2_readSort_60 rfl (lv_at hl 2 rfl) ?_
      obtain ⟨z3, h3, h⟩ := ob_some h
      refine k_z (va_runV (As := []) (rest := []) ⟨hx, hb, hml, hown, hts⟩ (c_X5_isLying (l := l) (pI z2.2 b2 3 z2.1) b2 kb2 h3) (cwV 0 hts gX2_readSort_X5_isLying rfl rfl rfl hdV_X5_isLying ⟨Nat.le_of_ble_eq_true rfl, Nat.le_of_ble_eq_true rfl⟩) (pV (T := TX5) hP hK hD hT hG hS kb2 (by decide) rfl) rfl rfl hl.1 rfl (lv_room (Nat.le_of_ble_eq_true rfl)) dX2_readSort_61 ⟨Nat.zero_le _, Nat.zero_le _⟩) hS (fun H locs hz3 hP hD hT hS => ?_)
      refine lv_if_eq (tgt := 83) hx hb dX2_readSort_64 rfl (fun c4 => ?_) (fun c4 => ?_)
      · replace h := ite_t c4 h
        exact r_vret hx hb hr hlocks hP hK hD hT hG hS (Option.some.inj h) dX2_readSort_83
      · replace h := ite_f c4 h
        refine lv_aload_n hx hb dX2_readSort_67 rfl (lv_at hl 1 rfl) ?_
        refine lv_dup hx hb dX2_readSort_68 rfl ?_
        refine r_get (T := TX0) (v := .int (gI (pI z2.2 b2 3 z2.1) a1 8)) hx hb hts in0 hown hK hP k1 (by decide) rfl 8 (by decide) (hts (.fieldLink RX2 215 "StoneWalk$Island" "lying" "I") (List.mem_of_getElem? (i := 4) (by decide +kernel))) rfl (t := 0) rfl rfl dX2_readSort_69 ?_
        refine lv_iconst (v := 1) hx hb dX2_readSort_72 rfl ?_
        refine lv_iadd hx hb dX2_readSort_73 ?_
        refine r_putI (T := TX0) (ty := .int) (v := (gI (pI z2.2 b2 3 z2.1) a1 8) + 1) hx hb hts in0 tyX0 tyX0_ok nmX0 hown hK hP hD hT hS k1 (by decide) rfl 8 (by decide) (hts (.fieldLink RX2 215 "StoneWalk$Island" "lying" "I") (List.mem_of_getElem? (i := 4) (by decide +kernel))) rfl rfl (tyX0_ok 8 (by decide)) rfl rfl rfl dX2_readSort_74 (fun H locs hP hD hT hS => ?_)
        refine lv_aload_n hx hb dX2_readSort_77 rfl (lv_at hl 0 rfl) ?_
        refine lv_aload_n hx hb dX2_readSort_78 rfl (lv_at hl 1 rfl) ?_
        refine lv_aload_n hx hb dX2_readSort_79 rfl (lv_at hl 2 rfl) ?_
        obtain ⟨z5, h5, h⟩ := ob_some h
        refine k_v (va_runV (As := [.ref (ad a1), .ref (ad b2)]) (rest := []) ⟨hx, hb, hml, hown, hts⟩ (c_X2_readLying (l := l) (pI (pI z2.2 b2 3 z2.1) a1 8 ((gI (pI z2.2 b2 3 z2.1) a1 8) + 1)) a0 a1 b2 k0 k1 kb2 h5) (cwV 2 hts gX2_readSort_X2_readLying rfl rfl rfl hdV_X2_readLying ⟨Nat.le_of_ble_eq_true rfl, Nat.le_of_ble_eq_true rfl⟩) (pV (T := TX2) hP hK hD hT hG hS k0 (by decide) rfl) rfl rfl hl.1 rfl (lv_room (Nat.le_of_ble_eq_true rfl)) dX2_readSort_80 ⟨Nat.zero_le _, Nat.zero_le _⟩) hS (fun H locs hP hD hT hS => ?_)
        exact r_vret hx hb hr hlocks hP hK hD hT hG hS (Option.some.inj h) dX2_readSort_83
    · replace h := ite_t c1 h
      refine lv_aload_n hx hb dX2_readSort_32 rfl (lv_at hl 0 rfl) ?_
      rcases hN6 : gR (pI (pI (pI M b2 4 (-2)) b2 5 (-2)) b2 6 (-2)) a0 0 with _ | b6
      · exact absurd (oc_n hN6 h) (by simp)
      replace h := oc_s hN6 h
      have kb6 := hT.f k0 (k := 0) (t := 7) (n := 0) rfl hN6
      refine r_get (T := TX2) (v := .ref (ad b6)) hx hb hts in2 hown hK hP k0 (by decide) rfl 0 (by decide) (hts (.fieldLink RX2 22 "StoneWalk$Reader" "tape" "LStoneWalk$Tape;") (List.mem_of_getElem? (i := 5) (by decide +kernel))) rfl (t := 2) rfl (by show va_rf _ = _; rw [hN6]; rfl) dX2_readSort_33 ?_
      refine r_ldcS (tx := "lies") (i := 10) hx hb hG hown (by decide +kernel) dX2_readSort_36 ?_
      obtain ⟨z7, h7, h⟩ := ob_some h
      refine k_i (va_runV (As := [.ref (q.2.1 10)]) (rest := []) ⟨hx, hb, hml, hown, hts⟩ (c_X7_among (l := l) (pI (pI (pI M b2 4 (-2)) b2 5 (-2)) b2 6 (-2)) b6 10 kb6 (by decide) h7) (cwV 1 hts gX2_readSort_X7_among rfl rfl rfl hdV_X7_among ⟨Nat.le_of_ble_eq_true rfl, Nat.le_of_ble_eq_true rfl⟩) (pV (T := TX7) hP hK hD hT hG hS kb6 (by decide) rfl) rfl rfl hl.1 rfl (lv_room (Nat.le_of_ble_eq_true rfl)) dX2_readSort_38 ⟨Nat.zero_le _, Nat.zero_le _⟩) hS (fun H locs hP hD hT hS => ?_)
      refine lv_iconst (v := (-1)) hx hb dX2_readSort_41 rfl ?_
      refine lv_icmp_eq (tgt := 50) hx hb dX2_readSort_42 rfl (fun c8 => ?_) (fun c8 => ?_)
      · replace h := ite_t c8 h
        refine lv_aload_n hx hb dX2_readSort_50 rfl (lv_at hl 2 rfl) ?_
        refine lv_aload_n hx hb dX2_readSort_51 rfl (lv_at hl 0 rfl) ?_
        refine r_ldcS (tx := "cut large buried stood tried lies") (i := 11) hx hb hG hown (by decide +kernel) dX2_readSort_52 ?_
        obtain ⟨z9, h9, h⟩ := ob_some h
        refine k_i (va_runV (As := [.ref (q.2.1 11)]) (rest := [.ref (ad b2)]) ⟨hx, hb, hml, hown, hts⟩ (c_X2_choice (l := l) (pI (pI (pI M b2 4 (-2)) b2 5 (-2)) b2 6 (-2)) a0 11 k0 (by decide) h9) (cwV 1 hts gX2_readSort_X2_choice rfl rfl rfl hdV_X2_choice ⟨Nat.le_of_ble_eq_true rfl, Nat.le_of_ble_eq_true rfl⟩) (pV (T := TX2) hP hK hD hT hG hS k0 (by decide) rfl) rfl rfl hl.1 rfl (lv_room (Nat.le_of_ble_eq_true rfl)) dX2_readSort_54 ⟨Nat.zero_le _, Nat.zero_le _⟩) hS (fun H locs hP hD hT hS => ?_)
        refine r_putI (T := TX5) (ty := .int) (v := z9.1) hx hb hts in5 tyX5 tyX5_ok nmX5 hown hK hP hD hT hS kb2 (by decide) rfl 3 (by decide) (hts (.fieldLink RX2 222 "StoneWalk$Stone" "sort" "I") (List.mem_of_getElem? (i := 6) (by decide +kernel))) rfl rfl (tyX5_ok 3 (by decide)) rfl rfl rfl dX2_readSort_57 (fun H locs hP hD hT hS => ?_)
        refine lv_aload_n hx hb dX2_readSort_60 rfl (lv_at hl 2 rfl) ?_
        obtain ⟨z10, h10, h⟩ := ob_some h
        refine k_z (va_runV (As := []) (rest := []) ⟨hx, hb, hml, hown, hts⟩ (c_X5_isLying (l := l) (pI z9.2 b2 3 z9.1) b2 kb2 h10) (cwV 0 hts gX2_readSort_X5_isLying rfl rfl rfl hdV_X5_isLying ⟨Nat.le_of_ble_eq_true rfl, Nat.le_of_ble_eq_true rfl⟩) (pV (T := TX5) hP hK hD hT hG hS kb2 (by decide) rfl) rfl rfl hl.1 rfl (lv_room (Nat.le_of_ble_eq_true rfl)) dX2_readSort_61 ⟨Nat.zero_le _, Nat.zero_le _⟩) hS (fun H locs hz10 hP hD hT hS => ?_)
        refine lv_if_eq (tgt := 83) hx hb dX2_readSort_64 rfl (fun c11 => ?_) (fun c11 => ?_)
        · replace h := ite_t c11 h
          exact r_vret hx hb hr hlocks hP hK hD hT hG hS (Option.some.inj h) dX2_readSort_83
        · replace h := ite_f c11 h
          refine lv_aload_n hx hb dX2_readSort_67 rfl (lv_at hl 1 rfl) ?_
          refine lv_dup hx hb dX2_readSort_68 rfl ?_
          refine r_get (T := TX0) (v := .int (gI (pI z9.2 b2 3 z9.1) a1 8)) hx hb hts in0 hown hK hP k1 (by decide) rfl 8 (by decide) (hts (.fieldLink RX2 215 "StoneWalk$Island" "lying" "I") (List.mem_of_getElem? (i := 4) (by decide +kernel))) rfl (t := 0) rfl rfl dX2_readSort_69 ?_
          refine lv_iconst (v := 1) hx hb dX2_readSort_72 rfl ?_
          refine lv_iadd hx hb dX2_readSort_73 ?_
          refine r_putI (T := TX0) (ty := .int) (v := (gI (pI z9.2 b2 3 z9.1) a1 8) + 1) hx hb hts in0 tyX0 tyX0_ok nmX0 hown hK hP hD hT hS k1 (by decide) rfl 8 (by decide) (hts (.fieldLink RX2 215 "StoneWalk$Island" "lying" "I") (List.mem_of_getElem? (i := 4) (by decide +kernel))) rfl rfl (tyX0_ok 8 (by decide)) rfl rfl rfl dX2_readSort_74 (fun H locs hP hD hT hS => ?_)
          refine lv_aload_n hx hb dX2_readSort_77 rfl (lv_at hl 0 rfl) ?_
          refine lv_aload_n hx hb dX2_readSort_78 rfl (lv_at hl 1 rfl) ?_
          refine lv_aload_n hx hb dX2_readSort_79 rfl (lv_at hl 2 rfl) ?_
          obtain ⟨z12, h12, h⟩ := ob_some h
          refine k_v (va_runV (As := [.ref (ad a1), .ref (ad b2)]) (rest := []) ⟨hx, hb, hml, hown, hts⟩ (c_X2_readLying (l := l) (pI (pI z9.2 b2 3 z9.1) a1 8 ((gI (pI z9.2 b2 3 z9.1) a1 8) + 1)) a0 a1 b2 k0 k1 kb2 h12) (cwV 2 hts gX2_readSort_X2_readLying rfl rfl rfl hdV_X2_readLying ⟨Nat.le_of_ble_eq_true rfl, Nat.le_of_ble_eq_true rfl⟩) (pV (T := TX2) hP hK hD hT hG hS k0 (by decide) rfl) rfl rfl hl.1 rfl (lv_room (Nat.le_of_ble_eq_true rfl)) dX2_readSort_80 ⟨Nat.zero_le _, Nat.zero_le _⟩) hS (fun H locs hP hD hT hS => ?_)
          exact r_vret hx hb hr hlocks hP hK hD hT hG hS (Option.some.inj h) dX2_readSort_83
      · replace h := ite_f c8 h
        refine lv_aload_n hx hb dX2_readSort_45 rfl (lv_at hl 0 rfl) ?_
        refine lv_iconst (v := 5) hx hb dX2_readSort_46 rfl ?_
        obtain ⟨z13, h13, h⟩ := ob_some h
        refine k_v (va_runV (As := [.int 5]) (rest := []) ⟨hx, hb, hml, hown, hts⟩ (c_X2_fail (l := l) (pI (pI (pI M b2 4 (-2)) b2 5 (-2)) b2 6 (-2)) a0 5 k0 h13) (cwV 1 hts gX2_readSort_X2_fail rfl rfl rfl hdV_X2_fail ⟨Nat.le_of_ble_eq_true rfl, Nat.le_of_ble_eq_true rfl⟩) (pV (T := TX2) hP hK hD hT hG hS k0 (by decide) rfl) rfl rfl hl.1 rfl (lv_room (Nat.le_of_ble_eq_true rfl)) dX2_readSort_47 ⟨Nat.zero_le _, Nat.zero_le _⟩) hS (fun H locs hP hD hT hS => ?_)
        refine lv_aload_n hx hb dX2_readSort_50 rfl (lv_at hl 2 rfl) ?_
        refine lv_aload_n hx hb dX2_readSort_51 rfl (lv_at hl 0 rfl) ?_
        refine r_ldcS (tx := "cut large buried stood tried lies") (i := 11) hx hb hG hown (by decide +kernel) dX2_readSort_52 ?_
        obtain ⟨z14, h14, h⟩ := ob_some h
        refine k_i (va_runV (As := [.ref (q.2.1 11)]) (rest := [.ref (ad b2)]) ⟨hx, hb, hml, hown, hts⟩ (c_X2_choice (l := l) z13 a0 11 k0 (by decide) h14) (cwV 1 hts gX2_readSort_X2_choice rfl rfl rfl hdV_X2_choice ⟨Nat.le_of_ble_eq_true rfl, Nat.le_of_ble_eq_true rfl⟩) (pV (T := TX2) hP hK hD hT hG hS k0 (by decide) rfl) rfl rfl hl.1 rfl (lv_room (Nat.le_of_ble_eq_true rfl)) dX2_readSort_54 ⟨Nat.zero_le _, Nat.zero_le _⟩) hS (fun H locs hP hD hT hS => ?_)
        refine r_putI (T := TX5) (ty := .int) (v := z14.1) hx hb hts in5 tyX5 tyX5_ok nmX5 hown hK hP hD hT hS kb2 (by decide) rfl 3 (by decide) (hts (.fieldLink RX2 222 "StoneWalk$Stone" "sort" "I") (List.mem_of_getElem? (i := 6) (by decide +kernel))) rfl rfl (tyX5_ok 3 (by decide)) rfl rfl rfl dX2_readSort_57 (fun H locs hP hD hT hS => ?_)
        refine lv_aload_n hx hb dX2_readSort_60 rfl (lv_at hl 2 rfl) ?_
        obtain ⟨z15, h15, h⟩ := ob_some h
        refine k_z (va_runV (As := []) (rest := []) ⟨hx, hb, hml, hown, hts⟩ (c_X5_isLying (l := l) (pI z14.2 b2 3 z14.1) b2 kb2 h15) (cwV 0 hts gX2_readSort_X5_isLying rfl rfl rfl hdV_X5_isLying ⟨Nat.le_of_ble_eq_true rfl, Nat.le_of_ble_eq_true rfl⟩) (pV (T := TX5) hP hK hD hT hG hS kb2 (by decide) rfl) rfl rfl hl.1 rfl (lv_room (Nat.le_of_ble_eq_true rfl)) dX2_readSort_61 ⟨Nat.zero_le _, Nat.zero_le _⟩) hS (fun H locs hz15 hP hD hT hS => ?_)
        refine lv_if_eq (tgt := 83) hx hb dX2_readSort_64 rfl (fun c16 => ?_) (fun c16 => ?_)
        · replace h := ite_t c16 h
          exact r_vret hx hb hr hlocks hP hK hD hT hG hS (Option.some.inj h) dX2_readSort_83
        · replace h := ite_f c16 h
          refine lv_aload_n hx hb dX2_readSort_67 rfl (lv_at hl 1 rfl) ?_
          refine lv_dup hx hb dX2_readSort_68 rfl ?_
          refine r_get (T := TX0) (v := .int (gI (pI z14.2 b2 3 z14.1) a1 8)) hx hb hts in0 hown hK hP k1 (by decide) rfl 8 (by decide) (hts (.fieldLink RX2 215 "StoneWalk$Island" "lying" "I") (List.mem_of_getElem? (i := 4) (by decide +kernel))) rfl (t := 0) rfl rfl dX2_readSort_69 ?_
          refine lv_iconst (v := 1) hx hb dX2_readSort_72 rfl ?_
          refine lv_iadd hx hb dX2_readSort_73 ?_
          refine r_putI (T := TX0) (ty := .int) (v := (gI (pI z14.2 b2 3 z14.1) a1 8) + 1) hx hb hts in0 tyX0 tyX0_ok nmX0 hown hK hP hD hT hS k1 (by decide) rfl 8 (by decide) (hts (.fieldLink RX2 215 "StoneWalk$Island" "lying" "I") (List.mem_of_getElem? (i := 4) (by decide +kernel))) rfl rfl (tyX0_ok 8 (by decide)) rfl rfl rfl dX2_readSort_74 (fun H locs hP hD hT hS => ?_)
          refine lv_aload_n hx hb dX2_readSort_77 rfl (lv_at hl 0 rfl) ?_
          refine lv_aload_n hx hb dX2_readSort_78 rfl (lv_at hl 1 rfl) ?_
          refine lv_aload_n hx hb dX2_readSort_79 rfl (lv_at hl 2 rfl) ?_
          obtain ⟨z17, h17, h⟩ := ob_some h
          refine k_v (va_runV (As := [.ref (ad a1), .ref (ad b2)]) (rest := []) ⟨hx, hb, hml, hown, hts⟩ (c_X2_readLying (l := l) (pI (pI z14.2 b2 3 z14.1) a1 8 ((gI (pI z14.2 b2 3 z14.1) a1 8) + 1)) a0 a1 b2 k0 k1 kb2 h17) (cwV 2 hts gX2_readSort_X2_readLying rfl rfl rfl hdV_X2_readLying ⟨Nat.le_of_ble_eq_true rfl, Nat.le_of_ble_eq_true rfl⟩) (pV (T := TX2) hP hK hD hT hG hS k0 (by decide) rfl) rfl rfl hl.1 rfl (lv_room (Nat.le_of_ble_eq_true rfl)) dX2_readSort_80 ⟨Nat.zero_le _, Nat.zero_le _⟩) hS (fun H locs hP hD hT hS => ?_)
          exact r_vret hx hb hr hlocks hP hK hD hT hG hS (Option.some.inj h) dX2_readSort_83
set_option maxHeartbeats 4000000 in
set_option maxRecDepth 100000 in
theorem c_X2_readTrial {l : Launch} {D : va_G} {ad : Nat → Nat} {cy : Nat → ClassId} {A : Nat → Prop} {g : CG} {q : SE} (M : MM) (a0 : Nat) (r1 : Option Nat) (k0 : ok g a0 2 0) (k1 : ∀ b, r1 = some b → ok g b 9 0) {Z : MM} (h : f_X2_readTrial M a0 r1 = some Z) : Met l yX2_readTrial wsX2_readTrial ({ frames := 6, cells := 0, slots := 0, locals := 134 }) (va_Pc [.ref (ad a0), va_rf (r1.map ad)] (Wd D ad cy A g q M)) (va_Qv (fun u => u = Z) (Wd D ad cy A g q) A) 0 0 A := by
  refine Met.ofW (cc := cX2_readTrial) (maxL := 2) (ret := none) (by decide) rfl ?_
  intro p e s m args below meth c s₁ B hml hv
  obtain ⟨rfl, hP, hK, hD, hT, hG⟩ := hv
  have hx := B.exec
  have hb := B.bytes
  have hr := B.returns
  have hts := atoms_spec (ws := wsX2_readTrial) B.pre
  have hown : s.vm.findClass RX2 = some m.cls := findClass_of_methodNamed B.named
  have hlocks := B.notSynchronized
  have in2 : ∀ w ∈ u_ws RX2 TX2 7, w ∈ wsX2_readTrial := fun w h => List.mem_cons_of_mem _ (List.mem_append_left _ (List.mem_append_right _ h))
  have in9 : ∀ w ∈ u_ws RX9 TX9 5, w ∈ wsX2_readTrial := fun w h => List.mem_cons_of_mem _ (List.mem_append_left _ (List.mem_append_left _ (List.mem_append_right _ h)))
  have hS : va_S A s.heap s.heap [] := va_S.rf
  unfold f_X2_readTrial at h
  rcases r1 with _ | b1
  · skip
    have hl := lv_entry ([.ref (ad a0), va_rf ((none : Option Nat).map ad)]) (n := 2) (Nat.le_of_ble_eq_true rfl)
    rw [lg_entry_eq]
    generalize (lg_sl ([.ref (ad a0), va_rf ((none : Option Nat).map ad)]) ++ List.replicate (2 - (lg_sl ([.ref (ad a0), va_rf ((none : Option Nat).map ad)])).length) Slot.unset).toArray = ls at hl ⊢
    have hl : lv_has ls 2 [(0, .ref (ad a0)), (1, .null)] := hl
    replace h := oc_n rfl h
    refine lv_aload_nN hx hb dX2_readTrial_0 rfl (lv_at hl 1 rfl) ?_
    refine lv_ifnonnullN hx hb dX2_readTrial_1 ?_
    exact r_vret hx hb hr hlocks hP hK hD hT hG hS (Option.some.inj h) dX2_readTrial_4
  · skip
    have hl := lv_entry ([.ref (ad a0), va_rf ((some b1).map ad)]) (n := 2) (Nat.le_of_ble_eq_true rfl)
    rw [lg_entry_eq]
    generalize (lg_sl ([.ref (ad a0), va_rf ((some b1).map ad)]) ++ List.replicate (2 - (lg_sl ([.ref (ad a0), va_rf ((some b1).map ad)])).length) Slot.unset).toArray = ls at hl ⊢
    have hl : lv_has ls 2 [(0, .ref (ad a0)), (1, .ref (ad b1))] := hl
    replace h := oc_s rfl h
    have kb1 := k1 _ rfl
    refine lv_aload_n hx hb dX2_readTrial_0 rfl (lv_at hl 1 rfl) ?_
    refine lv_ifnonnull (tgt := 5) hx hb dX2_readTrial_1 rfl ?_
    refine lv_aload_n hx hb dX2_readTrial_5 rfl (lv_at hl 0 rfl) ?_
    refine r_ldcS (tx := "of") (i := 15) hx hb hG hown (by decide +kernel) dX2_readTrial_6 ?_
    obtain ⟨z1, h1, h⟩ := ob_some h
    refine k_i (va_runV (As := [.ref (q.2.1 15)]) (rest := []) ⟨hx, hb, hml, hown, hts⟩ (c_X2_choice (l := l) M a0 15 k0 (by decide) h1) (cwV 1 hts gX2_readTrial_X2_choice rfl rfl rfl hdV_X2_choice ⟨Nat.le_of_ble_eq_true rfl, Nat.le_of_ble_eq_true rfl⟩) (pV (T := TX2) hP hK hD hT hG hS k0 (by decide) rfl) rfl rfl hl.1 rfl (lv_room (Nat.le_of_ble_eq_true rfl)) dX2_readTrial_8 ⟨Nat.zero_le _, Nat.zero_le _⟩) hS (fun H locs hP hD hT hS => ?_)
    refine lv_pop hx hb dX2_readTrial_11 rfl ?_
    refine lv_aload_n hx hb dX2_readTrial_12 rfl (lv_at hl 1 rfl) ?_
    refine lv_aload_n hx hb dX2_readTrial_13 rfl (lv_at hl 0 rfl) ?_
    refine lv_iconst (v := 0) hx hb dX2_readTrial_14 rfl ?_
    obtain ⟨z2, h2, h⟩ := ob_some h
    refine k_i (va_runV (As := [.int 0]) (rest := [.ref (ad b1)]) ⟨hx, hb, hml, hown, hts⟩ (c_X2_toldName (l := l) z1.2 a0 0 k0 h2) (cwV 1 hts gX2_readTrial_X2_toldName rfl rfl rfl hdV_X2_toldName ⟨Nat.le_of_ble_eq_true rfl, Nat.le_of_ble_eq_true rfl⟩) (pV (T := TX2) hP hK hD hT hG hS k0 (by decide) rfl) rfl rfl hl.1 rfl (lv_room (Nat.le_of_ble_eq_true rfl)) dX2_readTrial_15 ⟨Nat.zero_le _, Nat.zero_le _⟩) hS (fun H locs hP hD hT hS => ?_)
    refine r_putI (T := TX9) (ty := .int) (v := z2.1) hx hb hts in9 tyX9 tyX9_ok nmX9 hown hK hP hD hT hS kb1 (by decide) rfl 0 (by decide) (hts (.fieldLink RX2 248 "StoneWalk$Trial" "way" "I") (List.mem_of_getElem? (i := 1) (by decide +kernel))) rfl rfl (tyX9_ok 0 (by decide)) rfl rfl rfl dX2_readTrial_18 (fun H locs hP hD hT hS => ?_)
    refine lv_aload_n hx hb dX2_readTrial_21 rfl (lv_at hl 0 rfl) ?_
    rcases hN3 : gR (pI z2.2 b1 0 z2.1) a0 0 with _ | b3
    · exact absurd (oc_n hN3 h) (by simp)
    replace h := oc_s hN3 h
    have kb3 := hT.f k0 (k := 0) (t := 7) (n := 0) rfl hN3
    refine r_get (T := TX2) (v := .ref (ad b3)) hx hb hts in2 hown hK hP k0 (by decide) rfl 0 (by decide) (hts (.fieldLink RX2 22 "StoneWalk$Reader" "tape" "LStoneWalk$Tape;") (List.mem_of_getElem? (i := 2) (by decide +kernel))) rfl (t := 2) rfl (by show va_rf _ = _; rw [hN3]; rfl) dX2_readTrial_22 ?_
    obtain ⟨z4, h4, h⟩ := ob_some h
    refine k_v (va_runV (As := []) (rest := []) ⟨hx, hb, hml, hown, hts⟩ (c_X7_advance (l := l) (pI z2.2 b1 0 z2.1) b3 kb3 h4) (cwV 0 hts gX2_readTrial_X7_advance rfl rfl rfl hdV_X7_advance ⟨Nat.le_of_ble_eq_true rfl, Nat.le_of_ble_eq_true rfl⟩) (pV (T := TX7) hP hK hD hT hG hS kb3 (by decide) rfl) rfl rfl hl.1 rfl (lv_room (Nat.le_of_ble_eq_true rfl)) dX2_readTrial_25 ⟨Nat.zero_le _, Nat.zero_le _⟩) hS (fun H locs hP hD hT hS => ?_)
    refine lv_aload_n hx hb dX2_readTrial_28 rfl (lv_at hl 1 rfl) ?_
    refine lv_aload_n hx hb dX2_readTrial_29 rfl (lv_at hl 0 rfl) ?_
    refine r_ldcS (tx := "tons") (i := 7) hx hb hG hown (by decide +kernel) dX2_readTrial_30 ?_
    refine lv_iconst (v := 1) hx hb dX2_readTrial_32 rfl ?_
    refine lv_bipush (v := 99) hx hb dX2_readTrial_33 rfl ?_
    obtain ⟨z5, h5, h⟩ := ob_some h
    refine k_i (va_runV (As := [.ref (q.2.1 7), .int 1, .int 99]) (rest := [.ref (ad b1)]) ⟨hx, hb, hml, hown, hts⟩ (c_X2_measure (l := l) z4 a0 7 1 99 k0 (by decide) h5) (cwV 3 hts gX2_readTrial_X2_measure rfl rfl rfl hdV_X2_measure ⟨Nat.le_of_ble_eq_true rfl, Nat.le_of_ble_eq_true rfl⟩) (pV (T := TX2) hP hK hD hT hG hS k0 (by decide) rfl) rfl rfl hl.1 rfl (lv_room (Nat.le_of_ble_eq_true rfl)) dX2_readTrial_35 ⟨Nat.zero_le _, Nat.zero_le _⟩) hS (fun H locs hP hD hT hS => ?_)
    refine r_putI (T := TX9) (ty := .int) (v := z5.1) hx hb hts in9 tyX9 tyX9_ok nmX9 hown hK hP hD hT hS kb1 (by decide) rfl 1 (by decide) (hts (.fieldLink RX2 253 "StoneWalk$Trial" "tons" "I") (List.mem_of_getElem? (i := 3) (by decide +kernel))) rfl rfl (tyX9_ok 1 (by decide)) rfl rfl rfl dX2_readTrial_38 (fun H locs hP hD hT hS => ?_)
    refine lv_aload_n hx hb dX2_readTrial_41 rfl (lv_at hl 1 rfl) ?_
    refine lv_aload_n hx hb dX2_readTrial_42 rfl (lv_at hl 0 rfl) ?_
    refine r_ldcS (tx := "people") (i := 16) hx hb hG hown (by decide +kernel) dX2_readTrial_43 ?_
    refine lv_iconst (v := 1) hx hb dX2_readTrial_45 rfl ?_
    refine lv_sipush (v := 200) hx hb dX2_readTrial_46 rfl ?_
    obtain ⟨z6, h6, h⟩ := ob_some h
    refine k_i (va_runV (As := [.ref (q.2.1 16), .int 1, .int 200]) (rest := [.ref (ad b1)]) ⟨hx, hb, hml, hown, hts⟩ (c_X2_measure (l := l) (pI z5.2 b1 1 z5.1) a0 16 1 200 k0 (by decide) h6) (cwV 3 hts gX2_readTrial_X2_measure rfl rfl rfl hdV_X2_measure ⟨Nat.le_of_ble_eq_true rfl, Nat.le_of_ble_eq_true rfl⟩) (pV (T := TX2) hP hK hD hT hG hS k0 (by decide) rfl) rfl rfl hl.1 rfl (lv_room (Nat.le_of_ble_eq_true rfl)) dX2_readTrial_49 ⟨Nat.zero_le _, Nat.zero_le _⟩) hS (fun H locs hP hD hT hS => ?_)
    refine r_putI (T := TX9) (ty := .int) (v := z6.1) hx hb hts in9 tyX9 tyX9_ok nmX9 hown hK hP hD hT hS kb1 (by decide) rfl 2 (by decide) (hts (.fieldLink RX2 256 "StoneWalk$Trial" "people" "I") (List.mem_of_getElem? (i := 4) (by decide +kernel))) rfl rfl (tyX9_ok 2 (by decide)) rfl rfl rfl dX2_readTrial_52 (fun H locs hP hD hT hS => ?_)
    refine lv_aload_n hx hb dX2_readTrial_55 rfl (lv_at hl 1 rfl) ?_
    refine lv_aload_n hx hb dX2_readTrial_56 rfl (lv_at hl 0 rfl) ?_
    refine r_ldcSw (tx := "yards") (i := 17) hx hb hG hown (by decide +kernel) dX2_readTrial_57 ?_
    refine lv_iconst (v := 1) hx hb dX2_readTrial_60 rfl ?_
    refine lv_sipush (v := 999) hx hb dX2_readTrial_61 rfl ?_
    obtain ⟨z7, h7, h⟩ := ob_some h
    refine k_i (va_runV (As := [.ref (q.2.1 17), .int 1, .int 999]) (rest := [.ref (ad b1)]) ⟨hx, hb, hml, hown, hts⟩ (c_X2_measure (l := l) (pI z6.2 b1 2 z6.1) a0 17 1 999 k0 (by decide) h7) (cwV 3 hts gX2_readTrial_X2_measure rfl rfl rfl hdV_X2_measure ⟨Nat.le_of_ble_eq_true rfl, Nat.le_of_ble_eq_true rfl⟩) (pV (T := TX2) hP hK hD hT hG hS k0 (by decide) rfl) rfl rfl hl.1 rfl (lv_room (Nat.le_of_ble_eq_true rfl)) dX2_readTrial_64 ⟨Nat.zero_le _, Nat.zero_le _⟩) hS (fun H locs hP hD hT hS => ?_)
    refine r_putI (T := TX9) (ty := .int) (v := z7.1) hx hb hts in9 tyX9 tyX9_ok nmX9 hown hK hP hD hT hS kb1 (by decide) rfl 3 (by decide) (hts (.fieldLink RX2 260 "StoneWalk$Trial" "yards" "I") (List.mem_of_getElem? (i := 5) (by decide +kernel))) rfl rfl (tyX9_ok 3 (by decide)) rfl rfl rfl dX2_readTrial_67 (fun H locs hP hD hT hS => ?_)
    refine lv_aload_n hx hb dX2_readTrial_70 rfl (lv_at hl 1 rfl) ?_
    refine lv_aload_n hx hb dX2_readTrial_71 rfl (lv_at hl 0 rfl) ?_
    refine r_ldcSw (tx := "minutes") (i := 18) hx hb hG hown (by decide +kernel) dX2_readTrial_72 ?_
    refine lv_iconst (v := 1) hx hb dX2_readTrial_75 rfl ?_
    refine lv_sipush (v := 999) hx hb dX2_readTrial_76 rfl ?_
    obtain ⟨z8, h8, h⟩ := ob_some h
    refine k_i (va_runV (As := [.ref (q.2.1 18), .int 1, .int 999]) (rest := [.ref (ad b1)]) ⟨hx, hb, hml, hown, hts⟩ (c_X2_measure (l := l) (pI z7.2 b1 3 z7.1) a0 18 1 999 k0 (by decide) h8) (cwV 3 hts gX2_readTrial_X2_measure rfl rfl rfl hdV_X2_measure ⟨Nat.le_of_ble_eq_true rfl, Nat.le_of_ble_eq_true rfl⟩) (pV (T := TX2) hP hK hD hT hG hS k0 (by decide) rfl) rfl rfl hl.1 rfl (lv_room (Nat.le_of_ble_eq_true rfl)) dX2_readTrial_79 ⟨Nat.zero_le _, Nat.zero_le _⟩) hS (fun H locs hP hD hT hS => ?_)
    refine r_putI (T := TX9) (ty := .int) (v := z8.1) hx hb hts in9 tyX9 tyX9_ok nmX9 hown hK hP hD hT hS kb1 (by decide) rfl 4 (by decide) (hts (.fieldLink RX2 264 "StoneWalk$Trial" "minutes" "I") (List.mem_of_getElem? (i := 6) (by decide +kernel))) rfl rfl (tyX9_ok 4 (by decide)) rfl rfl rfl dX2_readTrial_82 (fun H locs hP hD hT hS => ?_)
    exact r_vret hx hb hr hlocks hP hK hD hT hG hS (Option.some.inj h) dX2_readTrial_85
set_option maxHeartbeats 4000000 in
set_option maxRecDepth 100000 in
theorem c_X2_readStory {l : Launch} {D : va_G} {ad : Nat → Nat} {cy : Nat → ClassId} {A : Nat → Prop} {g : CG} {q : SE} (M : MM) (a0 : Nat) (r1 : Option Nat) (k0 : ok g a0 2 0) (k1 : ∀ b, r1 = some b → ok g b 6 0) {Z : MM} (h : f_X2_readStory M a0 r1 = some Z) : Met l yX2_readStory wsX2_readStory ({ frames := 6, cells := 0, slots := 0, locals := 134 }) (va_Pc [.ref (ad a0), va_rf (r1.map ad)] (Wd D ad cy A g q M)) (va_Qv (fun u => u = Z) (Wd D ad cy A g q) A) 0 0 A := by
  refine Met.ofW (cc := cX2_readStory) (maxL := 2) (ret := none) (by decide) rfl ?_
  intro p e s m args below meth c s₁ B hml hv
  obtain ⟨rfl, hP, hK, hD, hT, hG⟩ := hv
  have hx := B.exec
  have hb := B.bytes
  have hr := B.returns
  have hts := atoms_spec (ws := wsX2_readStory) B.pre
  have hown : s.vm.findClass RX2 = some m.cls := findClass_of_methodNamed B.named
  have hlocks := B.notSynchronized
  have in6 : ∀ w ∈ u_ws RX6 TX6 5, w ∈ wsX2_readStory := fun w h => List.mem_cons_of_mem _ (List.mem_append_left _ (List.mem_append_left _ (List.mem_append_right _ h)))
  have hS : va_S A s.heap s.heap [] := va_S.rf
  unfold f_X2_readStory at h
  rcases r1 with _ | b1
  · skip
    have hl := lv_entry ([.ref (ad a0), va_rf ((none : Option Nat).map ad)]) (n := 2) (Nat.le_of_ble_eq_true rfl)
    rw [lg_entry_eq]
    generalize (lg_sl ([.ref (ad a0), va_rf ((none : Option Nat).map ad)]) ++ List.replicate (2 - (lg_sl ([.ref (ad a0), va_rf ((none : Option Nat).map ad)])).length) Slot.unset).toArray = ls at hl ⊢
    have hl : lv_has ls 2 [(0, .ref (ad a0)), (1, .null)] := hl
    replace h := oc_n rfl h
    refine lv_aload_nN hx hb dX2_readStory_0 rfl (lv_at hl 1 rfl) ?_
    refine lv_ifnonnullN hx hb dX2_readStory_1 ?_
    exact r_vret hx hb hr hlocks hP hK hD hT hG hS (Option.some.inj h) dX2_readStory_4
  · skip
    have hl := lv_entry ([.ref (ad a0), va_rf ((some b1).map ad)]) (n := 2) (Nat.le_of_ble_eq_true rfl)
    rw [lg_entry_eq]
    generalize (lg_sl ([.ref (ad a0), va_rf ((some b1).map ad)]) ++ List.replicate (2 - (lg_sl ([.ref (ad a0), va_rf ((some b1).map ad)])).length) Slot.unset).toArray = ls at hl ⊢
    have hl : lv_has ls 2 [(0, .ref (ad a0)), (1, .ref (ad b1))] := hl
    replace h := oc_s rfl h
    have kb1 := k1 _ rfl
    refine lv_aload_n hx hb dX2_readStory_0 rfl (lv_at hl 1 rfl) ?_
    refine lv_ifnonnull (tgt := 5) hx hb dX2_readStory_1 rfl ?_
    refine lv_aload_n hx hb dX2_readStory_5 rfl (lv_at hl 1 rfl) ?_
    refine lv_aload_n hx hb dX2_readStory_6 rfl (lv_at hl 0 rfl) ?_
    refine r_ldcS (tx := "weighs") (i := 2) hx hb hG hown (by decide +kernel) dX2_readStory_7 ?_
    refine lv_iconst (v := 1) hx hb dX2_readStory_9 rfl ?_
    refine lv_bipush (v := 99) hx hb dX2_readStory_10 rfl ?_
    obtain ⟨z1, h1, h⟩ := ob_some h
    refine k_i (va_runV (As := [.ref (q.2.1 2), .int 1, .int 99]) (rest := [.ref (ad b1)]) ⟨hx, hb, hml, hown, hts⟩ (c_X2_measure (l := l) M a0 2 1 99 k0 (by decide) h1) (cwV 3 hts gX2_readStory_X2_measure rfl rfl rfl hdV_X2_measure ⟨Nat.le_of_ble_eq_true rfl, Nat.le_of_ble_eq_true rfl⟩) (pV (T := TX2) hP hK hD hT hG hS k0 (by decide) rfl) rfl rfl hl.1 rfl (lv_room (Nat.le_of_ble_eq_true rfl)) dX2_readStory_12 ⟨Nat.zero_le _, Nat.zero_le _⟩) hS (fun H locs hP hD hT hS => ?_)
    refine r_putI (T := TX6) (ty := .int) (v := z1.1) hx hb hts in6 tyX6 tyX6_ok nmX6 hown hK hP hD hT hS kb1 (by decide) rfl 0 (by decide) (hts (.fieldLink RX2 266 "StoneWalk$Story" "weighs" "I") (List.mem_of_getElem? (i := 1) (by decide +kernel))) rfl rfl (tyX6_ok 0 (by decide)) rfl rfl rfl dX2_readStory_15 (fun H locs hP hD hT hS => ?_)
    refine lv_aload_n hx hb dX2_readStory_18 rfl (lv_at hl 1 rfl) ?_
    refine lv_aload_n hx hb dX2_readStory_19 rfl (lv_at hl 0 rfl) ?_
    refine r_ldcSw (tx := "felled rats fires") (i := 19) hx hb hG hown (by decide +kernel) dX2_readStory_20 ?_
    obtain ⟨z2, h2, h⟩ := ob_some h
    refine k_i (va_runV (As := [.ref (q.2.1 19)]) (rest := [.ref (ad b1)]) ⟨hx, hb, hml, hown, hts⟩ (c_X2_choice (l := l) (pI z1.2 b1 0 z1.1) a0 19 k0 (by decide) h2) (cwV 1 hts gX2_readStory_X2_choice rfl rfl rfl hdV_X2_choice ⟨Nat.le_of_ble_eq_true rfl, Nat.le_of_ble_eq_true rfl⟩) (pV (T := TX2) hP hK hD hT hG hS k0 (by decide) rfl) rfl rfl hl.1 rfl (lv_room (Nat.le_of_ble_eq_true rfl)) dX2_readStory_23 ⟨Nat.zero_le _, Nat.zero_le _⟩) hS (fun H locs hP hD hT hS => ?_)
    refine r_putI (T := TX6) (ty := .int) (v := z2.1) hx hb hts in6 tyX6 tyX6_ok nmX6 hown hK hP hD hT hS kb1 (by decide) rfl 1 (by decide) (hts (.fieldLink RX2 271 "StoneWalk$Story" "cause" "I") (List.mem_of_getElem? (i := 2) (by decide +kernel))) rfl rfl (tyX6_ok 1 (by decide)) rfl rfl rfl dX2_readStory_26 (fun H locs hP hD hT hS => ?_)
    refine lv_aload_n hx hb dX2_readStory_29 rfl (lv_at hl 1 rfl) ?_
    refine lv_aload_n hx hb dX2_readStory_30 rfl (lv_at hl 0 rfl) ?_
    refine lv_iconst (v := 0) hx hb dX2_readStory_31 rfl ?_
    refine lv_aload_n hx hb dX2_readStory_32 rfl (lv_at hl 1 rfl) ?_
    refine r_get (T := TX6) (v := .int (gI (pI z2.2 b1 1 z2.1) b1 1)) hx hb hts in6 hown hK hP kb1 (by decide) rfl 1 (by decide) (hts (.fieldLink RX2 271 "StoneWalk$Story" "cause" "I") (List.mem_of_getElem? (i := 2) (by decide +kernel))) rfl (t := 0) rfl rfl dX2_readStory_33 ?_
    refine lv_if_ne (tgt := 44) hx hb dX2_readStory_36 rfl (fun c3 => ?_) (fun c3 => ?_)
    · replace h := ite_f c3 h
      refine lv_bipush (v := 100) hx hb dX2_readStory_44 rfl ?_
      obtain ⟨z4, h4, h⟩ := ob_some h
      refine k_i (va_runV (As := [.int 0, .int 100]) (rest := [.ref (ad b1)]) ⟨hx, hb, hml, hown, hts⟩ (c_X2_whole (l := l) (pI z2.2 b1 1 z2.1) a0 0 100 k0 h4) (cwV 2 hts gX2_readStory_X2_whole rfl rfl rfl hdV_X2_whole ⟨Nat.le_of_ble_eq_true rfl, Nat.le_of_ble_eq_true rfl⟩) (pV (T := TX2) hP hK hD hT hG hS k0 (by decide) rfl) rfl rfl hl.1 rfl (lv_room (Nat.le_of_ble_eq_true rfl)) dX2_readStory_46 ⟨Nat.zero_le _, Nat.zero_le _⟩) hS (fun H locs hP hD hT hS => ?_)
      refine r_putI (T := TX6) (ty := .int) (v := z4.1) hx hb hts in6 tyX6 tyX6_ok nmX6 hown hK hP hD hT hS kb1 (by decide) rfl 2 (by decide) (hts (.fieldLink RX2 274 "StoneWalk$Story" "share" "I") (List.mem_of_getElem? (i := 3) (by decide +kernel))) rfl rfl (tyX6_ok 2 (by decide)) rfl rfl rfl dX2_readStory_49 (fun H locs hP hD hT hS => ?_)
      refine lv_aload_n hx hb dX2_readStory_52 rfl (lv_at hl 1 rfl) ?_
      refine r_get (T := TX6) (v := .int (gI (pI z4.2 b1 2 z4.1) b1 1)) hx hb hts in6 hown hK hP kb1 (by decide) rfl 1 (by decide) (hts (.fieldLink RX2 271 "StoneWalk$Story" "cause" "I") (List.mem_of_getElem? (i := 2) (by decide +kernel))) rfl (t := 0) rfl rfl dX2_readStory_53 ?_
      refine lv_iconst (v := 2) hx hb dX2_readStory_56 rfl ?_
      refine lv_icmp_ne (tgt := 74) hx hb dX2_readStory_57 rfl (fun c5 => ?_) (fun c5 => ?_)
      · replace h := ite_f c5 h
        exact r_vret hx hb hr hlocks hP hK hD hT hG hS (Option.some.inj h) dX2_readStory_74
      · replace h := ite_t c5 h
        refine lv_aload_n hx hb dX2_readStory_60 rfl (lv_at hl 1 rfl) ?_
        refine lv_aload_n hx hb dX2_readStory_61 rfl (lv_at hl 0 rfl) ?_
        refine r_ldcSw (tx := "every") (i := 20) hx hb hG hown (by decide +kernel) dX2_readStory_62 ?_
        refine lv_iconst (v := 1) hx hb dX2_readStory_65 rfl ?_
        refine lv_bipush (v := 50) hx hb dX2_readStory_66 rfl ?_
        obtain ⟨z6, h6, h⟩ := ob_some h
        refine k_i (va_runV (As := [.ref (q.2.1 20), .int 1, .int 50]) (rest := [.ref (ad b1)]) ⟨hx, hb, hml, hown, hts⟩ (c_X2_measure (l := l) (pI z4.2 b1 2 z4.1) a0 20 1 50 k0 (by decide) h6) (cwV 3 hts gX2_readStory_X2_measure rfl rfl rfl hdV_X2_measure ⟨Nat.le_of_ble_eq_true rfl, Nat.le_of_ble_eq_true rfl⟩) (pV (T := TX2) hP hK hD hT hG hS k0 (by decide) rfl) rfl rfl hl.1 rfl (lv_room (Nat.le_of_ble_eq_true rfl)) dX2_readStory_68 ⟨Nat.zero_le _, Nat.zero_le _⟩) hS (fun H locs hP hD hT hS => ?_)
        refine r_putI (T := TX6) (ty := .int) (v := z6.1) hx hb hts in6 tyX6 tyX6_ok nmX6 hown hK hP hD hT hS kb1 (by decide) rfl 3 (by decide) (hts (.fieldLink RX2 279 "StoneWalk$Story" "every" "I") (List.mem_of_getElem? (i := 4) (by decide +kernel))) rfl rfl (tyX6_ok 3 (by decide)) rfl rfl rfl dX2_readStory_71 (fun H locs hP hD hT hS => ?_)
        exact r_vret hx hb hr hlocks hP hK hD hT hG hS (Option.some.inj h) dX2_readStory_74
    · replace h := ite_t c3 h
      refine lv_bipush (v := 99) hx hb dX2_readStory_39 rfl ?_
      refine lv_goto (tgt := 46) hx hb dX2_readStory_41 rfl ?_
      obtain ⟨z7, h7, h⟩ := ob_some h
      refine k_i (va_runV (As := [.int 0, .int 99]) (rest := [.ref (ad b1)]) ⟨hx, hb, hml, hown, hts⟩ (c_X2_whole (l := l) (pI z2.2 b1 1 z2.1) a0 0 99 k0 h7) (cwV 2 hts gX2_readStory_X2_whole rfl rfl rfl hdV_X2_whole ⟨Nat.le_of_ble_eq_true rfl, Nat.le_of_ble_eq_true rfl⟩) (pV (T := TX2) hP hK hD hT hG hS k0 (by decide) rfl) rfl rfl hl.1 rfl (lv_room (Nat.le_of_ble_eq_true rfl)) dX2_readStory_46 ⟨Nat.zero_le _, Nat.zero_le _⟩) hS (fun H locs hP hD hT hS => ?_)
      refine r_putI (T := TX6) (ty := .int) (v := z7.1) hx hb hts in6 tyX6 tyX6_ok nmX6 hown hK hP hD hT hS kb1 (by decide) rfl 2 (by decide) (hts (.fieldLink RX2 274 "StoneWalk$Story" "share" "I") (List.mem_of_getElem? (i := 3) (by decide +kernel))) rfl rfl (tyX6_ok 2 (by decide)) rfl rfl rfl dX2_readStory_49 (fun H locs hP hD hT hS => ?_)
      refine lv_aload_n hx hb dX2_readStory_52 rfl (lv_at hl 1 rfl) ?_
      refine r_get (T := TX6) (v := .int (gI (pI z7.2 b1 2 z7.1) b1 1)) hx hb hts in6 hown hK hP kb1 (by decide) rfl 1 (by decide) (hts (.fieldLink RX2 271 "StoneWalk$Story" "cause" "I") (List.mem_of_getElem? (i := 2) (by decide +kernel))) rfl (t := 0) rfl rfl dX2_readStory_53 ?_
      refine lv_iconst (v := 2) hx hb dX2_readStory_56 rfl ?_
      refine lv_icmp_ne (tgt := 74) hx hb dX2_readStory_57 rfl (fun c8 => ?_) (fun c8 => ?_)
      · replace h := ite_f c8 h
        exact r_vret hx hb hr hlocks hP hK hD hT hG hS (Option.some.inj h) dX2_readStory_74
      · replace h := ite_t c8 h
        refine lv_aload_n hx hb dX2_readStory_60 rfl (lv_at hl 1 rfl) ?_
        refine lv_aload_n hx hb dX2_readStory_61 rfl (lv_at hl 0 rfl) ?_
        refine r_ldcSw (tx := "every") (i := 20) hx hb hG hown (by decide +kernel) dX2_readStory_62 ?_
        refine lv_iconst (v := 1) hx hb dX2_readStory_65 rfl ?_
        refine lv_bipush (v := 50) hx hb dX2_readStory_66 rfl ?_
        obtain ⟨z9, h9, h⟩ := ob_some h
        refine k_i (va_runV (As := [.ref (q.2.1 20), .int 1, .int 50]) (rest := [.ref (ad b1)]) ⟨hx, hb, hml, hown, hts⟩ (c_X2_measure (l := l) (pI z7.2 b1 2 z7.1) a0 20 1 50 k0 (by decide) h9) (cwV 3 hts gX2_readStory_X2_measure rfl rfl rfl hdV_X2_measure ⟨Nat.le_of_ble_eq_true rfl, Nat.le_of_ble_eq_true rfl⟩) (pV (T := TX2) hP hK hD hT hG hS k0 (by decide) rfl) rfl rfl hl.1 rfl (lv_room (Nat.le_of_ble_eq_true rfl)) dX2_readStory_68 ⟨Nat.zero_le _, Nat.zero_le _⟩) hS (fun H locs hP hD hT hS => ?_)
        refine r_putI (T := TX6) (ty := .int) (v := z9.1) hx hb hts in6 tyX6 tyX6_ok nmX6 hown hK hP hD hT hS kb1 (by decide) rfl 3 (by decide) (hts (.fieldLink RX2 279 "StoneWalk$Story" "every" "I") (List.mem_of_getElem? (i := 4) (by decide +kernel))) rfl rfl (tyX6_ok 3 (by decide)) rfl rfl rfl dX2_readStory_71 (fun H locs hP hD hT hS => ?_)
        exact r_vret hx hb hr hlocks hP hK hD hT hG hS (Option.some.inj h) dX2_readStory_74
set_option maxHeartbeats 4000000 in
set_option maxRecDepth 100000 in
theorem c_X2_readMeant {l : Launch} {D : va_G} {ad : Nat → Nat} {cy : Nat → ClassId} {A : Nat → Prop} {g : CG} {q : SE} (M : MM) (a0 : Nat) (a1 : Nat) (k0 : ok g a0 2 0) (k1 : ok g a1 8 0) {Z : MM} (h : f_X2_readMeant M a0 a1 = some Z) : Met l yX2_readMeant wsX2_readMeant ({ frames := 6, cells := 0, slots := 0, locals := 133 }) (va_Pc [.ref (ad a0), .ref (ad a1)] (Wd D ad cy A g q M)) (va_Qv (fun u => u = Z) (Wd D ad cy A g q) A) 0 0 A := by
  refine Met.ofW (cc := cX2_readMeant) (maxL := 3) (ret := none) (by decide) rfl ?_
  intro p e s m args below meth c s₁ B hml hv
  obtain ⟨rfl, hP, hK, hD, hT, hG⟩ := hv
  have hx := B.exec
  have hb := B.bytes
  have hr := B.returns
  have hts := atoms_spec (ws := wsX2_readMeant) B.pre
  have hown : s.vm.findClass RX2 = some m.cls := findClass_of_methodNamed B.named
  have hlocks := B.notSynchronized
  have in2 : ∀ w ∈ u_ws RX2 TX2 7, w ∈ wsX2_readMeant := fun w h => List.mem_cons_of_mem _ (List.mem_append_left _ (List.mem_append_left _ (List.mem_append_right _ h)))
  have hS : va_S A s.heap s.heap [] := va_S.rf
  have hl := lv_entry ([.ref (ad a0), .ref (ad a1)]) (n := 3) (Nat.le_of_ble_eq_true rfl)
  rw [lg_entry_eq]
  generalize (lg_sl ([.ref (ad a0), .ref (ad a1)]) ++ List.replicate (3 - (lg_sl ([.ref (ad a0), .ref (ad a1)])).length) Slot.unset).toArray = ls at hl ⊢
  have hl : lv_has ls 3 [(0, .ref (ad a0)), (1, .ref (ad a1))] := hl
  unfold f_X2_readMeant at h
  refine lv_aload_n hx hb dX2_readMeant_0 rfl (lv_at hl 0 rfl) ?_
  refine lv_iconst (v := 0) hx hb dX2_readMeant_1 rfl ?_
  obtain ⟨z1, h1, h⟩ := ob_some h
  refine k_i (va_runV (As := [.int 0]) (rest := []) ⟨hx, hb, hml, hown, hts⟩ (c_X2_toldName (l := l) M a0 0 k0 h1) (cwV 1 hts gX2_readMeant_X2_toldName rfl rfl rfl hdV_X2_toldName ⟨Nat.le_of_ble_eq_true rfl, Nat.le_of_ble_eq_true rfl⟩) (pV (T := TX2) hP hK hD hT hG hS k0 (by decide) rfl) rfl rfl hl.1 rfl (lv_room (Nat.le_of_ble_eq_true rfl)) dX2_readMeant_2 ⟨Nat.zero_le _, Nat.zero_le _⟩) hS (fun H locs hP hD hT hS => ?_)
  refine lv_istore_n (lv' := [(2, .int z1.1), (0, .ref (ad a0)), (1, .ref (ad a1))]) hx hb dX2_readMeant_5 rfl hl (by decide) rfl (fun ls hl => ?_)
  refine lv_aload_n hx hb dX2_readMeant_6 rfl (lv_at hl 2 rfl) ?_
  refine lv_iload_n hx hb dX2_readMeant_7 rfl (lv_at hl 0 rfl) ?_
  obtain ⟨z2, h2, h⟩ := ob_some h
  refine k_z (va_runV (As := [.int z1.1]) (rest := []) ⟨hx, hb, hml, hown, hts⟩ (c_X8_means (l := l) z1.2 a1 z1.1 k1 h2) (cwV 1 hts gX2_readMeant_X8_means rfl rfl rfl hdV_X8_means ⟨Nat.le_of_ble_eq_true rfl, Nat.le_of_ble_eq_true rfl⟩) (pV (T := TX8) hP hK hD hT hG hS k1 (by decide) rfl) rfl rfl hl.1 rfl (lv_room (Nat.le_of_ble_eq_true rfl)) dX2_readMeant_8 ⟨Nat.zero_le _, Nat.zero_le _⟩) hS (fun H locs hz2 hP hD hT hS => ?_)
  refine lv_if_eq (tgt := 19) hx hb dX2_readMeant_11 rfl (fun c3 => ?_) (fun c3 => ?_)
  · replace h := ite_t c3 h
    refine lv_aload_n hx hb dX2_readMeant_19 rfl (lv_at hl 2 rfl) ?_
    refine lv_iload_n hx hb dX2_readMeant_20 rfl (lv_at hl 0 rfl) ?_
    obtain ⟨z4, h4, h⟩ := ob_some h
    refine k_v (va_runV (As := [.int z1.1]) (rest := []) ⟨hx, hb, hml, hown, hts⟩ (c_X8_add (l := l) z1.2 a1 z1.1 k1 h4) (cwV 1 hts gX2_readMeant_X8_add rfl rfl rfl hdV_X8_add ⟨Nat.le_of_ble_eq_true rfl, Nat.le_of_ble_eq_true rfl⟩) (pV (T := TX8) hP hK hD hT hG hS k1 (by decide) rfl) rfl rfl hl.1 rfl (lv_room (Nat.le_of_ble_eq_true rfl)) dX2_readMeant_21 ⟨Nat.zero_le _, Nat.zero_le _⟩) hS (fun H locs hP hD hT hS => ?_)
    refine lv_aload_n hx hb dX2_readMeant_24 rfl (lv_at hl 1 rfl) ?_
    rcases hN5 : gR z4 a0 0 with _ | b5
    · exact absurd (oc_n hN5 h) (by simp)
    replace h := oc_s hN5 h
    have kb5 := hT.f k0 (k := 0) (t := 7) (n := 0) rfl hN5
    refine r_get (T := TX2) (v := .ref (ad b5)) hx hb hts in2 hown hK hP k0 (by decide) rfl 0 (by decide) (hts (.fieldLink RX2 22 "StoneWalk$Reader" "tape" "LStoneWalk$Tape;") (List.mem_of_getElem? (i := 1) (by decide +kernel))) rfl (t := 2) rfl (by show va_rf _ = _; rw [hN5]; rfl) dX2_readMeant_25 ?_
    obtain ⟨z6, h6, h⟩ := ob_some h
    refine k_v (va_runV (As := []) (rest := []) ⟨hx, hb, hml, hown, hts⟩ (c_X7_advance (l := l) z4 b5 kb5 h6) (cwV 0 hts gX2_readMeant_X7_advance rfl rfl rfl hdV_X7_advance ⟨Nat.le_of_ble_eq_true rfl, Nat.le_of_ble_eq_true rfl⟩) (pV (T := TX7) hP hK hD hT hG hS kb5 (by decide) rfl) rfl rfl hl.1 rfl (lv_room (Nat.le_of_ble_eq_true rfl)) dX2_readMeant_28 ⟨Nat.zero_le _, Nat.zero_le _⟩) hS (fun H locs hP hD hT hS => ?_)
    exact r_vret hx hb hr hlocks hP hK hD hT hG hS (Option.some.inj h) dX2_readMeant_31
  · replace h := ite_f c3 h
    refine lv_aload_n hx hb dX2_readMeant_14 rfl (lv_at hl 1 rfl) ?_
    refine lv_iconst (v := 3) hx hb dX2_readMeant_15 rfl ?_
    obtain ⟨z7, h7, h⟩ := ob_some h
    refine k_v (va_runV (As := [.int 3]) (rest := []) ⟨hx, hb, hml, hown, hts⟩ (c_X2_fail (l := l) z1.2 a0 3 k0 h7) (cwV 1 hts gX2_readMeant_X2_fail rfl rfl rfl hdV_X2_fail ⟨Nat.le_of_ble_eq_true rfl, Nat.le_of_ble_eq_true rfl⟩) (pV (T := TX2) hP hK hD hT hG hS k0 (by decide) rfl) rfl rfl hl.1 rfl (lv_room (Nat.le_of_ble_eq_true rfl)) dX2_readMeant_16 ⟨Nat.zero_le _, Nat.zero_le _⟩) hS (fun H locs hP hD hT hS => ?_)
    refine lv_aload_n hx hb dX2_readMeant_19 rfl (lv_at hl 2 rfl) ?_
    refine lv_iload_n hx hb dX2_readMeant_20 rfl (lv_at hl 0 rfl) ?_
    obtain ⟨z8, h8, h⟩ := ob_some h
    refine k_v (va_runV (As := [.int z1.1]) (rest := []) ⟨hx, hb, hml, hown, hts⟩ (c_X8_add (l := l) z7 a1 z1.1 k1 h8) (cwV 1 hts gX2_readMeant_X8_add rfl rfl rfl hdV_X8_add ⟨Nat.le_of_ble_eq_true rfl, Nat.le_of_ble_eq_true rfl⟩) (pV (T := TX8) hP hK hD hT hG hS k1 (by decide) rfl) rfl rfl hl.1 rfl (lv_room (Nat.le_of_ble_eq_true rfl)) dX2_readMeant_21 ⟨Nat.zero_le _, Nat.zero_le _⟩) hS (fun H locs hP hD hT hS => ?_)
    refine lv_aload_n hx hb dX2_readMeant_24 rfl (lv_at hl 1 rfl) ?_
    rcases hN9 : gR z8 a0 0 with _ | b9
    · exact absurd (oc_n hN9 h) (by simp)
    replace h := oc_s hN9 h
    have kb9 := hT.f k0 (k := 0) (t := 7) (n := 0) rfl hN9
    refine r_get (T := TX2) (v := .ref (ad b9)) hx hb hts in2 hown hK hP k0 (by decide) rfl 0 (by decide) (hts (.fieldLink RX2 22 "StoneWalk$Reader" "tape" "LStoneWalk$Tape;") (List.mem_of_getElem? (i := 1) (by decide +kernel))) rfl (t := 2) rfl (by show va_rf _ = _; rw [hN9]; rfl) dX2_readMeant_25 ?_
    obtain ⟨z10, h10, h⟩ := ob_some h
    refine k_v (va_runV (As := []) (rest := []) ⟨hx, hb, hml, hown, hts⟩ (c_X7_advance (l := l) z8 b9 kb9 h10) (cwV 0 hts gX2_readMeant_X7_advance rfl rfl rfl hdV_X7_advance ⟨Nat.le_of_ble_eq_true rfl, Nat.le_of_ble_eq_true rfl⟩) (pV (T := TX7) hP hK hD hT hG hS kb9 (by decide) rfl) rfl rfl hl.1 rfl (lv_room (Nat.le_of_ble_eq_true rfl)) dX2_readMeant_28 ⟨Nat.zero_le _, Nat.zero_le _⟩) hS (fun H locs hP hD hT hS => ?_)
    exact r_vret hx hb hr hlocks hP hK hD hT hG hS (Option.some.inj h) dX2_readMeant_31
set_option maxHeartbeats 4000000 in
set_option maxRecDepth 100000 in
theorem c_X2_readTeller {l : Launch} {D : va_G} {ad : Nat → Nat} {cy : Nat → ClassId} {A : Nat → Prop} {g : CG} {q : SE} (M : MM) (a0 : Nat) (r1 : Option Nat) (k0 : ok g a0 2 0) (k1 : ∀ b, r1 = some b → ok g b 8 0) {Z : MM} (h : f_X2_readTeller M a0 r1 = some Z) : Met l yX2_readTeller wsX2_readTeller ({ frames := 7, cells := 0, slots := 0, locals := 155 }) (va_Pc [.ref (ad a0), va_rf (r1.map ad)] (Wd D ad cy A g q M)) (va_Qv (fun u => u = Z) (Wd D ad cy A g q) A) 0 0 A := by
  refine Met.ofW (cc := cX2_readTeller) (maxL := 4) (ret := none) (by decide) rfl ?_
  intro p e s m args below meth c s₁ B hml hv
  obtain ⟨rfl, hP, hK, hD, hT, hG⟩ := hv
  have hx := B.exec
  have hb := B.bytes
  have hr := B.returns
  have hts := atoms_spec (ws := wsX2_readTeller) B.pre
  have hown : s.vm.findClass RX2 = some m.cls := findClass_of_methodNamed B.named
  have hlocks := B.notSynchronized
  have in2 : ∀ w ∈ u_ws RX2 TX2 7, w ∈ wsX2_readTeller := fun w h => List.mem_cons_of_mem _ (List.mem_append_left _ (List.mem_append_right _ h))
  have in8 : ∀ w ∈ u_ws RX8 TX8 2, w ∈ wsX2_readTeller := fun w h => List.mem_cons_of_mem _ (List.mem_append_left _ (List.mem_append_left _ (List.mem_append_right _ h)))
  have hS : va_S A s.heap s.heap [] := va_S.rf
  unfold f_X2_readTeller at h
  rcases r1 with _ | b1
  · skip
    have hl := lv_entry ([.ref (ad a0), va_rf ((none : Option Nat).map ad)]) (n := 4) (Nat.le_of_ble_eq_true rfl)
    rw [lg_entry_eq]
    generalize (lg_sl ([.ref (ad a0), va_rf ((none : Option Nat).map ad)]) ++ List.replicate (4 - (lg_sl ([.ref (ad a0), va_rf ((none : Option Nat).map ad)])).length) Slot.unset).toArray = ls at hl ⊢
    have hl : lv_has ls 4 [(0, .ref (ad a0)), (1, .null)] := hl
    replace h := oc_n rfl h
    refine lv_aload_nN hx hb dX2_readTeller_0 rfl (lv_at hl 1 rfl) ?_
    refine lv_ifnonnullN hx hb dX2_readTeller_1 ?_
    exact r_vret hx hb hr hlocks hP hK hD hT hG hS (Option.some.inj h) dX2_readTeller_4
  · skip
    have hl := lv_entry ([.ref (ad a0), va_rf ((some b1).map ad)]) (n := 4) (Nat.le_of_ble_eq_true rfl)
    rw [lg_entry_eq]
    generalize (lg_sl ([.ref (ad a0), va_rf ((some b1).map ad)]) ++ List.replicate (4 - (lg_sl ([.ref (ad a0), va_rf ((some b1).map ad)])).length) Slot.unset).toArray = ls at hl ⊢
    have hl : lv_has ls 4 [(0, .ref (ad a0)), (1, .ref (ad b1))] := hl
    replace h := oc_s rfl h
    have kb1 := k1 _ rfl
    refine lv_aload_n hx hb dX2_readTeller_0 rfl (lv_at hl 1 rfl) ?_
    refine lv_ifnonnull (tgt := 5) hx hb dX2_readTeller_1 rfl ?_
    refine lv_aload_n hx hb dX2_readTeller_5 rfl (lv_at hl 0 rfl) ?_
    refine r_ldcSw (tx := "year") (i := 21) hx hb hG hown (by decide +kernel) dX2_readTeller_6 ?_
    refine lv_iconst (v := 0) hx hb dX2_readTeller_9 rfl ?_
    refine lv_sipush (v := 999) hx hb dX2_readTeller_10 rfl ?_
    obtain ⟨z1, h1, h⟩ := ob_some h
    refine k_i (va_runV (As := [.ref (q.2.1 21), .int 0, .int 999]) (rest := []) ⟨hx, hb, hml, hown, hts⟩ (c_X2_measure (l := l) M a0 21 0 999 k0 (by decide) h1) (cwV 3 hts gX2_readTeller_X2_measure rfl rfl rfl hdV_X2_measure ⟨Nat.le_of_ble_eq_true rfl, Nat.le_of_ble_eq_true rfl⟩) (pV (T := TX2) hP hK hD hT hG hS k0 (by decide) rfl) rfl rfl hl.1 rfl (lv_room (Nat.le_of_ble_eq_true rfl)) dX2_readTeller_13 ⟨Nat.zero_le _, Nat.zero_le _⟩) hS (fun H locs hP hD hT hS => ?_)
    refine lv_pop hx hb dX2_readTeller_16 rfl ?_
    refine lv_aload_n hx hb dX2_readTeller_17 rfl (lv_at hl 0 rfl) ?_
    refine r_ldcSw (tx := "means") (i := 22) hx hb hG hown (by decide +kernel) dX2_readTeller_18 ?_
    obtain ⟨z2, h2, h⟩ := ob_some h
    refine k_i (va_runV (As := [.ref (q.2.1 22)]) (rest := []) ⟨hx, hb, hml, hown, hts⟩ (c_X2_choice (l := l) z1.2 a0 22 k0 (by decide) h2) (cwV 1 hts gX2_readTeller_X2_choice rfl rfl rfl hdV_X2_choice ⟨Nat.le_of_ble_eq_true rfl, Nat.le_of_ble_eq_true rfl⟩) (pV (T := TX2) hP hK hD hT hG hS k0 (by decide) rfl) rfl rfl hl.1 rfl (lv_room (Nat.le_of_ble_eq_true rfl)) dX2_readTeller_21 ⟨Nat.zero_le _, Nat.zero_le _⟩) hS (fun H locs hP hD hT hS => ?_)
    refine lv_pop hx hb dX2_readTeller_24 rfl ?_
    refine lv_aload_n hx hb dX2_readTeller_25 rfl (lv_at hl 1 rfl) ?_
    refine lv_iconst (v := 0) hx hb dX2_readTeller_26 rfl ?_
    refine r_putI (T := TX8) (ty := .int) (v := 0) hx hb hts in8 tyX8 tyX8_ok nmX8 hown hK hP hD hT hS kb1 (by decide) rfl 1 (by decide) (hts (.fieldLink RX2 285 "StoneWalk$Teller" "ways" "I") (List.mem_of_getElem? (i := 1) (by decide +kernel))) rfl rfl (tyX8_ok 1 (by decide)) rfl rfl rfl dX2_readTeller_27 (fun H locs hP hD hT hS => ?_)
    refine lv_iconst (v := 1) hx hb dX2_readTeller_30 rfl ?_
    refine lv_istore_n (lv' := [(2, .int 1), (0, .ref (ad a0)), (1, .ref (ad b1))]) hx hb dX2_readTeller_31 rfl hl (by decide) rfl (fun ls hl => ?_)
    refine lv_iconst (v := 0) hx hb dX2_readTeller_32 rfl ?_
    refine lv_istore_n (lv' := [(3, .int 0), (2, .int 1), (0, .ref (ad a0)), (1, .ref (ad b1))]) hx hb dX2_readTeller_33 rfl hl (by decide) rfl (fun ls hl => ?_)
    have L3 : ∀ n3 : Nat, ∀ (M3 : MM) (y3_0 : Nat) (y3_1 : Nat) (y3_2 : Int32) (y3_3 : Int32) (ky3_0 : ok g y3_0 2 0) (ky3_1 : ok g y3_1 8 0) (H : Heap) (locs : List Loc), f_X2_readTeller_L34 n3 M3 y3_0 y3_1 y3_2 y3_3 = some Z → va_P D vwCl (wd ad cy g M3) H → va_D A (wd ad cy g M3) → WT g M3 → va_S A s.heap H locs → ∀ (ls : Array Slot), lv_has ls 4 [(0, .ref (ad y3_0)), (1, .ref (ad y3_1)), (2, .int y3_2), (3, .int y3_3)] → W p l e ((headSpec wsX2_readTeller ({ frames := 7, cells := 0, slots := 0, locals := 155 })).room) s m (([.ref (ad a0), va_rf ((some b1).map ad)] : List Value).toArray) below meth c H locs 0 0 (MQ below (va_Qv (fun u => u = Z) (Wd D ad cy A g q) A) ([.ref (ad a0), va_rf ((some b1).map ad)] : List Value).toArray s 0 0 A) (F0 m 34 ls []) := by
      intro n3
      induction n3 with
      | zero => intro M3 y3_0 y3_1 y3_2 y3_3 ky3_0 ky3_1 H locs h; exact absurd h (by simp [f_X2_readTeller_L34])
      | succ n3 ih3 =>
        intro M3 y3_0 y3_1 y3_2 y3_3 ky3_0 ky3_1 H locs h hP hD hT hS ls hl
        rw [f_X2_readTeller_L34] at h
        refine lv_iload_n hx hb dX2_readTeller_34 rfl (lv_at hl 3 rfl) ?_
        refine lv_iconst (v := 4) hx hb dX2_readTeller_35 rfl ?_
        refine lv_icmp_gt (tgt := 61) hx hb dX2_readTeller_36 rfl (fun c4 => ?_) (fun c4 => ?_)
        · replace h := ite_t c4 h
          refine lv_aload_n hx hb dX2_readTeller_61 rfl (lv_at hl 1 rfl) ?_
          refine lv_aload_n hx hb dX2_readTeller_62 rfl (lv_at hl 0 rfl) ?_
          rcases hN5 : gR M3 y3_0 0 with _ | b5
          · exact absurd (oc_n hN5 h) (by simp)
          replace h := oc_s hN5 h
          have kb5 := hT.f ky3_0 (k := 0) (t := 7) (n := 0) rfl hN5
          refine r_get (T := TX2) (v := .ref (ad b5)) hx hb hts in2 hown hK hP ky3_0 (by decide) rfl 0 (by decide) (hts (.fieldLink RX2 22 "StoneWalk$Reader" "tape" "LStoneWalk$Tape;") (List.mem_of_getElem? (i := 2) (by decide +kernel))) rfl (t := 2) rfl (by show va_rf _ = _; rw [hN5]; rfl) dX2_readTeller_63 ?_
          refine r_ldcSw (tx := "stranger") (i := 23) hx hb hG hown (by decide +kernel) dX2_readTeller_66 ?_
          obtain ⟨z6, h6, h⟩ := ob_some h
          refine k_i (va_runV (As := [.ref (q.2.1 23)]) (rest := [.ref (ad y3_1)]) ⟨hx, hb, hml, hown, hts⟩ (c_X7_among (l := l) M3 b5 23 kb5 (by decide) h6) (cwV 1 hts gX2_readTeller_X7_among rfl rfl rfl hdV_X7_among ⟨Nat.le_of_ble_eq_true rfl, Nat.le_of_ble_eq_true rfl⟩) (pV (T := TX7) hP hK hD hT hG hS kb5 (by decide) rfl) rfl rfl hl.1 rfl (lv_room (Nat.le_of_ble_eq_true rfl)) dX2_readTeller_69 ⟨Nat.zero_le _, Nat.zero_le _⟩) hS (fun H locs hP hD hT hS => ?_)
          refine lv_iconst (v := (-1)) hx hb dX2_readTeller_72 rfl ?_
          refine lv_icmp_eq (tgt := 80) hx hb dX2_readTeller_73 rfl (fun c7 => ?_) (fun c7 => ?_)
          · replace h := ite_t c7 h
            refine lv_iconst (v := 0) hx hb dX2_readTeller_80 rfl ?_
            refine r_putI (T := TX8) (ty := .boolean) (v := 0) hx hb hts in8 tyX8 tyX8_ok nmX8 hown hK hP hD hT hS ky3_1 (by decide) rfl 0 (by decide) (hts (.fieldLink RX2 295 "StoneWalk$Teller" "stranger" "Z") (List.mem_of_getElem? (i := 3) (by decide +kernel))) rfl rfl (tyX8_ok 0 (by decide)) (zb_n zb_0) rfl rfl dX2_readTeller_81 (fun H locs hP hD hT hS => ?_)
            refine lv_aload_n hx hb dX2_readTeller_84 rfl (lv_at hl 1 rfl) ?_
            refine r_get (T := TX8) (v := .int (gI (pI M3 y3_1 0 0) y3_1 0)) hx hb hts in8 hown hK hP ky3_1 (by decide) rfl 0 (by decide) (hts (.fieldLink RX2 295 "StoneWalk$Teller" "stranger" "Z") (List.mem_of_getElem? (i := 3) (by decide +kernel))) rfl (t := 0) rfl rfl dX2_readTeller_85 ?_
            refine lv_if_eq (tgt := 98) hx hb dX2_readTeller_88 rfl (fun c8 => ?_) (fun c8 => ?_)
            · replace h := ite_t c8 h
              exact r_vret hx hb hr hlocks hP hK hD hT hG hS (Option.some.inj h) dX2_readTeller_98
            · replace h := ite_f c8 h
              refine lv_aload_n hx hb dX2_readTeller_91 rfl (lv_at hl 0 rfl) ?_
              rcases hN9 : gR (pI M3 y3_1 0 0) y3_0 0 with _ | b9
              · exact absurd (oc_n hN9 h) (by simp)
              replace h := oc_s hN9 h
              have kb9 := hT.f ky3_0 (k := 0) (t := 7) (n := 0) rfl hN9
              refine r_get (T := TX2) (v := .ref (ad b9)) hx hb hts in2 hown hK hP ky3_0 (by decide) rfl 0 (by decide) (hts (.fieldLink RX2 22 "StoneWalk$Reader" "tape" "LStoneWalk$Tape;") (List.mem_of_getElem? (i := 2) (by decide +kernel))) rfl (t := 2) rfl (by show va_rf _ = _; rw [hN9]; rfl) dX2_readTeller_92 ?_
              obtain ⟨z10, h10, h⟩ := ob_some h
              refine k_v (va_runV (As := []) (rest := []) ⟨hx, hb, hml, hown, hts⟩ (c_X7_advance (l := l) (pI M3 y3_1 0 0) b9 kb9 h10) (cwV 0 hts gX2_readTeller_X7_advance rfl rfl rfl hdV_X7_advance ⟨Nat.le_of_ble_eq_true rfl, Nat.le_of_ble_eq_true rfl⟩) (pV (T := TX7) hP hK hD hT hG hS kb9 (by decide) rfl) rfl rfl hl.1 rfl (lv_room (Nat.le_of_ble_eq_true rfl)) dX2_readTeller_95 ⟨Nat.zero_le _, Nat.zero_le _⟩) hS (fun H locs hP hD hT hS => ?_)
              exact r_vret hx hb hr hlocks hP hK hD hT hG hS (Option.some.inj h) dX2_readTeller_98
          · replace h := ite_f c7 h
            refine lv_iconst (v := 1) hx hb dX2_readTeller_76 rfl ?_
            refine lv_goto (tgt := 81) hx hb dX2_readTeller_77 rfl ?_
            refine r_putI (T := TX8) (ty := .boolean) (v := 1) hx hb hts in8 tyX8 tyX8_ok nmX8 hown hK hP hD hT hS ky3_1 (by decide) rfl 0 (by decide) (hts (.fieldLink RX2 295 "StoneWalk$Teller" "stranger" "Z") (List.mem_of_getElem? (i := 3) (by decide +kernel))) rfl rfl (tyX8_ok 0 (by decide)) (zb_n zb_1) rfl rfl dX2_readTeller_81 (fun H locs hP hD hT hS => ?_)
            refine lv_aload_n hx hb dX2_readTeller_84 rfl (lv_at hl 1 rfl) ?_
            refine r_get (T := TX8) (v := .int (gI (pI M3 y3_1 0 1) y3_1 0)) hx hb hts in8 hown hK hP ky3_1 (by decide) rfl 0 (by decide) (hts (.fieldLink RX2 295 "StoneWalk$Teller" "stranger" "Z") (List.mem_of_getElem? (i := 3) (by decide +kernel))) rfl (t := 0) rfl rfl dX2_readTeller_85 ?_
            refine lv_if_eq (tgt := 98) hx hb dX2_readTeller_88 rfl (fun c11 => ?_) (fun c11 => ?_)
            · replace h := ite_t c11 h
              exact r_vret hx hb hr hlocks hP hK hD hT hG hS (Option.some.inj h) dX2_readTeller_98
            · replace h := ite_f c11 h
              refine lv_aload_n hx hb dX2_readTeller_91 rfl (lv_at hl 0 rfl) ?_
              rcases hN12 : gR (pI M3 y3_1 0 1) y3_0 0 with _ | b12
              · exact absurd (oc_n hN12 h) (by simp)
              replace h := oc_s hN12 h
              have kb12 := hT.f ky3_0 (k := 0) (t := 7) (n := 0) rfl hN12
              refine r_get (T := TX2) (v := .ref (ad b12)) hx hb hts in2 hown hK hP ky3_0 (by decide) rfl 0 (by decide) (hts (.fieldLink RX2 22 "StoneWalk$Reader" "tape" "LStoneWalk$Tape;") (List.mem_of_getElem? (i := 2) (by decide +kernel))) rfl (t := 2) rfl (by show va_rf _ = _; rw [hN12]; rfl) dX2_readTeller_92 ?_
              obtain ⟨z13, h13, h⟩ := ob_some h
              refine k_v (va_runV (As := []) (rest := []) ⟨hx, hb, hml, hown, hts⟩ (c_X7_advance (l := l) (pI M3 y3_1 0 1) b12 kb12 h13) (cwV 0 hts gX2_readTeller_X7_advance rfl rfl rfl hdV_X7_advance ⟨Nat.le_of_ble_eq_true rfl, Nat.le_of_ble_eq_true rfl⟩) (pV (T := TX7) hP hK hD hT hG hS kb12 (by decide) rfl) rfl rfl hl.1 rfl (lv_room (Nat.le_of_ble_eq_true rfl)) dX2_readTeller_95 ⟨Nat.zero_le _, Nat.zero_le _⟩) hS (fun H locs hP hD hT hS => ?_)
              exact r_vret hx hb hr hlocks hP hK hD hT hG hS (Option.some.inj h) dX2_readTeller_98
        · replace h := ite_f c4 h
          refine lv_iload_n hx hb dX2_readTeller_39 rfl (lv_at hl 2 rfl) ?_
          refine lv_if_eq (tgt := 61) hx hb dX2_readTeller_40 rfl (fun c14 => ?_) (fun c14 => ?_)
          · replace h := ite_t c14 h
            refine lv_aload_n hx hb dX2_readTeller_61 rfl (lv_at hl 1 rfl) ?_
            refine lv_aload_n hx hb dX2_readTeller_62 rfl (lv_at hl 0 rfl) ?_
            rcases hN15 : gR M3 y3_0 0 with _ | b15
            · exact absurd (oc_n hN15 h) (by simp)
            replace h := oc_s hN15 h
            have kb15 := hT.f ky3_0 (k := 0) (t := 7) (n := 0) rfl hN15
            refine r_get (T := TX2) (v := .ref (ad b15)) hx hb hts in2 hown hK hP ky3_0 (by decide) rfl 0 (by decide) (hts (.fieldLink RX2 22 "StoneWalk$Reader" "tape" "LStoneWalk$Tape;") (List.mem_of_getElem? (i := 2) (by decide +kernel))) rfl (t := 2) rfl (by show va_rf _ = _; rw [hN15]; rfl) dX2_readTeller_63 ?_
            refine r_ldcSw (tx := "stranger") (i := 23) hx hb hG hown (by decide +kernel) dX2_readTeller_66 ?_
            obtain ⟨z16, h16, h⟩ := ob_some h
            refine k_i (va_runV (As := [.ref (q.2.1 23)]) (rest := [.ref (ad y3_1)]) ⟨hx, hb, hml, hown, hts⟩ (c_X7_among (l := l) M3 b15 23 kb15 (by decide) h16) (cwV 1 hts gX2_readTeller_X7_among rfl rfl rfl hdV_X7_among ⟨Nat.le_of_ble_eq_true rfl, Nat.le_of_ble_eq_true rfl⟩) (pV (T := TX7) hP hK hD hT hG hS kb15 (by decide) rfl) rfl rfl hl.1 rfl (lv_room (Nat.le_of_ble_eq_true rfl)) dX2_readTeller_69 ⟨Nat.zero_le _, Nat.zero_le _⟩) hS (fun H locs hP hD hT hS => ?_)
            refine lv_iconst (v := (-1)) hx hb dX2_readTeller_72 rfl ?_
            refine lv_icmp_eq (tgt := 80) hx hb dX2_readTeller_73 rfl (fun c17 => ?_) (fun c17 => ?_)
            · replace h := ite_t c17 h
              refine lv_iconst (v := 0) hx hb dX2_readTeller_80 rfl ?_
              refine r_putI (T := TX8) (ty := .boolean) (v := 0) hx hb hts in8 tyX8 tyX8_ok nmX8 hown hK hP hD hT hS ky3_1 (by decide) rfl 0 (by decide) (hts (.fieldLink RX2 295 "StoneWalk$Teller" "stranger" "Z") (List.mem_of_getElem? (i := 3) (by decide +kernel))) rfl rfl (tyX8_ok 0 (by decide)) (zb_n zb_0) rfl rfl dX2_readTeller_81 (fun H locs hP hD hT hS => ?_)
              refine lv_aload_n hx hb dX2_readTeller_84 rfl (lv_at hl 1 rfl) ?_
              refine r_get (T := TX8) (v := .int (gI (pI M3 y3_1 0 0) y3_1 0)) hx hb hts in8 hown hK hP ky3_1 (by decide) rfl 0 (by decide) (hts (.fieldLink RX2 295 "StoneWalk$Teller" "stranger" "Z") (List.mem_of_getElem? (i := 3) (by decide +kernel))) rfl (t := 0) rfl rfl dX2_readTeller_85 ?_
              refine lv_if_eq (tgt := 98) hx hb dX2_readTeller_88 rfl (fun c18 => ?_) (fun c18 => ?_)
              · replace h := ite_t c18 h
                exact r_vret hx hb hr hlocks hP hK hD hT hG hS (Option.some.inj h) dX2_readTeller_98
              · replace h := ite_f c18 h
                refine lv_aload_n hx hb dX2_readTeller_91 rfl (lv_at hl 0 rfl) ?_
                rcases hN19 : gR (pI M3 y3_1 0 0) y3_0 0 with _ | b19
                · exact absurd (oc_n hN19 h) (by simp)
                replace h := oc_s hN19 h
                have kb19 := hT.f ky3_0 (k := 0) (t := 7) (n := 0) rfl hN19
                refine r_get (T := TX2) (v := .ref (ad b19)) hx hb hts in2 hown hK hP ky3_0 (by decide) rfl 0 (by decide) (hts (.fieldLink RX2 22 "StoneWalk$Reader" "tape" "LStoneWalk$Tape;") (List.mem_of_getElem? (i := 2) (by decide +kernel))) rfl (t := 2) rfl (by show va_rf _ = _; rw [hN19]; rfl) dX2_readTeller_92 ?_
                obtain ⟨z20, h20, h⟩ := ob_some h
                refine k_v (va_runV (As := []) (rest := []) ⟨hx, hb, hml, hown, hts⟩ (c_X7_advance (l := l) (pI M3 y3_1 0 0) b19 kb19 h20) (cwV 0 hts gX2_readTeller_X7_advance rfl rfl rfl hdV_X7_advance ⟨Nat.le_of_ble_eq_true rfl, Nat.le_of_ble_eq_true rfl⟩) (pV (T := TX7) hP hK hD hT hG hS kb19 (by decide) rfl) rfl rfl hl.1 rfl (lv_room (Nat.le_of_ble_eq_true rfl)) dX2_readTeller_95 ⟨Nat.zero_le _, Nat.zero_le _⟩) hS (fun H locs hP hD hT hS => ?_)
                exact r_vret hx hb hr hlocks hP hK hD hT hG hS (Option.some.inj h) dX2_readTeller_98
            · replace h := ite_f c17 h
              refine lv_iconst (v := 1) hx hb dX2_readTeller_76 rfl ?_
              refine lv_goto (tgt := 81) hx hb dX2_readTeller_77 rfl ?_
              refine r_putI (T := TX8) (ty := .boolean) (v := 1) hx hb hts in8 tyX8 tyX8_ok nmX8 hown hK hP hD hT hS ky3_1 (by decide) rfl 0 (by decide) (hts (.fieldLink RX2 295 "StoneWalk$Teller" "stranger" "Z") (List.mem_of_getElem? (i := 3) (by decide +kernel))) rfl rfl (tyX8_ok 0 (by decide)) (zb_n zb_1) rfl rfl dX2_readTeller_81 (fun H locs hP hD hT hS => ?_)
              refine lv_aload_n hx hb dX2_readTeller_84 rfl (lv_at hl 1 rfl) ?_
              refine r_get (T := TX8) (v := .int (gI (pI M3 y3_1 0 1) y3_1 0)) hx hb hts in8 hown hK hP ky3_1 (by decide) rfl 0 (by decide) (hts (.fieldLink RX2 295 "StoneWalk$Teller" "stranger" "Z") (List.mem_of_getElem? (i := 3) (by decide +kernel))) rfl (t := 0) rfl rfl dX2_readTeller_85 ?_
              refine lv_if_eq (tgt := 98) hx hb dX2_readTeller_88 rfl (fun c21 => ?_) (fun c21 => ?_)
              · replace h := ite_t c21 h
                exact r_vret hx hb hr hlocks hP hK hD hT hG hS (Option.some.inj h) dX2_readTeller_98
              · replace h := ite_f c21 h
                refine lv_aload_n hx hb dX2_readTeller_91 rfl (lv_at hl 0 rfl) ?_
                rcases hN22 : gR (pI M3 y3_1 0 1) y3_0 0 with _ | b22
                · exact absurd (oc_n hN22 h) (by simp)
                replace h := oc_s hN22 h
                have kb22 := hT.f ky3_0 (k := 0) (t := 7) (n := 0) rfl hN22
                refine r_get (T := TX2) (v := .ref (ad b22)) hx hb hts in2 hown hK hP ky3_0 (by decide) rfl 0 (by decide) (hts (.fieldLink RX2 22 "StoneWalk$Reader" "tape" "LStoneWalk$Tape;") (List.mem_of_getElem? (i := 2) (by decide +kernel))) rfl (t := 2) rfl (by show va_rf _ = _; rw [hN22]; rfl) dX2_readTeller_92 ?_
                obtain ⟨z23, h23, h⟩ := ob_some h
                refine k_v (va_runV (As := []) (rest := []) ⟨hx, hb, hml, hown, hts⟩ (c_X7_advance (l := l) (pI M3 y3_1 0 1) b22 kb22 h23) (cwV 0 hts gX2_readTeller_X7_advance rfl rfl rfl hdV_X7_advance ⟨Nat.le_of_ble_eq_true rfl, Nat.le_of_ble_eq_true rfl⟩) (pV (T := TX7) hP hK hD hT hG hS kb22 (by decide) rfl) rfl rfl hl.1 rfl (lv_room (Nat.le_of_ble_eq_true rfl)) dX2_readTeller_95 ⟨Nat.zero_le _, Nat.zero_le _⟩) hS (fun H locs hP hD hT hS => ?_)
                exact r_vret hx hb hr hlocks hP hK hD hT hG hS (Option.some.inj h) dX2_readTeller_98
          · replace h := ite_f c14 h
            refine lv_aload_n hx hb dX2_readTeller_43 rfl (lv_at hl 0 rfl) ?_
            refine lv_aload_n hx hb dX2_readTeller_44 rfl (lv_at hl 1 rfl) ?_
            obtain ⟨z24, h24, h⟩ := ob_some h
            refine k_v (va_runV (As := [.ref (ad y3_1)]) (rest := []) ⟨hx, hb, hml, hown, hts⟩ (c_X2_readMeant (l := l) M3 y3_0 y3_1 ky3_0 ky3_1 h24) (cwV 1 hts gX2_readTeller_X2_readMeant rfl rfl rfl hdV_X2_readMeant ⟨Nat.le_of_ble_eq_true rfl, Nat.le_of_ble_eq_true rfl⟩) (pV (T := TX2) hP hK hD hT hG hS ky3_0 (by decide) rfl) rfl rfl hl.1 rfl (lv_room (Nat.le_of_ble_eq_true rfl)) dX2_readTeller_45 ⟨Nat.zero_le _, Nat.zero_le _⟩) hS (fun H locs hP hD hT hS => ?_)
            refine lv_aload_n hx hb dX2_readTeller_48 rfl (lv_at hl 0 rfl) ?_
            refine lv_bipush (v := 44) hx hb dX2_readTeller_49 rfl ?_
            obtain ⟨z25, h25, h⟩ := ob_some h
            refine k_z (va_runV (As := [.int 44]) (rest := []) ⟨hx, hb, hml, hown, hts⟩ (c_X2_passes (l := l) z24 y3_0 44 ky3_0 h25) (cwV 1 hts gX2_readTeller_X2_passes rfl rfl rfl hdV_X2_passes ⟨Nat.le_of_ble_eq_true rfl, Nat.le_of_ble_eq_true rfl⟩) (pV (T := TX2) hP hK hD hT hG hS ky3_0 (by decide) rfl) rfl rfl hl.1 rfl (lv_room (Nat.le_of_ble_eq_true rfl)) dX2_readTeller_51 ⟨Nat.zero_le _, Nat.zero_le _⟩) hS (fun H locs hz25 hP hD hT hS => ?_)
            refine lv_istore_n (lv' := [(2, .int z25.1), (0, .ref (ad y3_0)), (1, .ref (ad y3_1)), (3, .int y3_3)]) hx hb dX2_readTeller_54 rfl hl (by decide) rfl (fun ls hl => ?_)
            refine lv_iinc (v := y3_3 + 1) (lv' := [(3, .int (y3_3 + 1)), (2, .int z25.1), (0, .ref (ad y3_0)), (1, .ref (ad y3_1))]) hx hb dX2_readTeller_55 hl (k := 3) rfl rfl (by decide) rfl (fun ls hl => ?_)
            refine lv_goto (tgt := 34) hx hb dX2_readTeller_58 rfl ?_
            exact ih3 z25.2 y3_0 y3_1 z25.1 (y3_3 + 1) ky3_0 ky3_1 _ _ h hP hD hT hS ls (lv_sub hl [2, 3, 1, 0] rfl)
    exact L3 FU (pI z2.2 b1 1 0) a0 b1 1 0 k0 kb1 _ _ h hP hD hT hS ls (lv_sub hl [2, 3, 1, 0] rfl)
set_option maxHeartbeats 4000000 in
set_option maxRecDepth 100000 in
theorem c_X2_readGround {l : Launch} {D : va_G} {ad : Nat → Nat} {cy : Nat → ClassId} {A : Nat → Prop} {g : CG} {q : SE} (M : MM) (a0 : Nat) (r1 : Option Nat) (k0 : ok g a0 2 0) (k1 : ∀ b, r1 = some b → ok g b 5 0) {Z : MM} (h : f_X2_readGround M a0 r1 = some Z) : Met l yX2_readGround wsX2_readGround ({ frames := 7, cells := 0, slots := 0, locals := 155 }) (va_Pc [.ref (ad a0), va_rf (r1.map ad)] (Wd D ad cy A g q M)) (va_Qv (fun u => u = Z) (Wd D ad cy A g q) A) 0 0 A := by
  refine Met.ofW (cc := cX2_readGround) (maxL := 2) (ret := none) (by decide) rfl ?_
  intro p e s m args below meth c s₁ B hml hv
  obtain ⟨rfl, hP, hK, hD, hT, hG⟩ := hv
  have hx := B.exec
  have hb := B.bytes
  have hr := B.returns
  have hts := atoms_spec (ws := wsX2_readGround) B.pre
  have hown : s.vm.findClass RX2 = some m.cls := findClass_of_methodNamed B.named
  have hlocks := B.notSynchronized
  have in5 : ∀ w ∈ u_ws RX5 TX5 8, w ∈ wsX2_readGround := fun w h => List.mem_cons_of_mem _ (List.mem_append_left _ (List.mem_append_left _ (List.mem_append_right _ h)))
  have hS : va_S A s.heap s.heap [] := va_S.rf
  unfold f_X2_readGround at h
  rcases r1 with _ | b1
  · skip
    have hl := lv_entry ([.ref (ad a0), va_rf ((none : Option Nat).map ad)]) (n := 2) (Nat.le_of_ble_eq_true rfl)
    rw [lg_entry_eq]
    generalize (lg_sl ([.ref (ad a0), va_rf ((none : Option Nat).map ad)]) ++ List.replicate (2 - (lg_sl ([.ref (ad a0), va_rf ((none : Option Nat).map ad)])).length) Slot.unset).toArray = ls at hl ⊢
    have hl : lv_has ls 2 [(0, .ref (ad a0)), (1, .null)] := hl
    replace h := oc_n rfl h
    refine lv_aload_nN hx hb dX2_readGround_0 rfl (lv_at hl 1 rfl) ?_
    refine lv_ifnonnullN hx hb dX2_readGround_1 ?_
    exact r_vret hx hb hr hlocks hP hK hD hT hG hS (Option.some.inj h) dX2_readGround_4
  · skip
    have hl := lv_entry ([.ref (ad a0), va_rf ((some b1).map ad)]) (n := 2) (Nat.le_of_ble_eq_true rfl)
    rw [lg_entry_eq]
    generalize (lg_sl ([.ref (ad a0), va_rf ((some b1).map ad)]) ++ List.replicate (2 - (lg_sl ([.ref (ad a0), va_rf ((some b1).map ad)])).length) Slot.unset).toArray = ls at hl ⊢
    have hl : lv_has ls 2 [(0, .ref (ad a0)), (1, .ref (ad b1))] := hl
    replace h := oc_s rfl h
    have kb1 := k1 _ rfl
    refine lv_aload_n hx hb dX2_readGround_0 rfl (lv_at hl 1 rfl) ?_
    refine lv_ifnonnull (tgt := 5) hx hb dX2_readGround_1 rfl ?_
    refine lv_aload_n hx hb dX2_readGround_5 rfl (lv_at hl 1 rfl) ?_
    refine lv_aload_n hx hb dX2_readGround_6 rfl (lv_at hl 0 rfl) ?_
    obtain ⟨z1, h1, h⟩ := ob_some h
    refine k_i (va_runV (As := []) (rest := [.ref (ad b1)]) ⟨hx, hb, hml, hown, hts⟩ (c_X2_readSlope (l := l) M a0 k0 h1) (cwV 0 hts gX2_readGround_X2_readSlope rfl rfl rfl hdV_X2_readSlope ⟨Nat.le_of_ble_eq_true rfl, Nat.le_of_ble_eq_true rfl⟩) (pV (T := TX2) hP hK hD hT hG hS k0 (by decide) rfl) rfl rfl hl.1 rfl (lv_room (Nat.le_of_ble_eq_true rfl)) dX2_readGround_7 ⟨Nat.zero_le _, Nat.zero_le _⟩) hS (fun H locs hP hD hT hS => ?_)
    refine r_putI (T := TX5) (ty := .int) (v := z1.1) hx hb hts in5 tyX5 tyX5_ok nmX5 hown hK hP hD hT hS kb1 (by decide) rfl 7 (by decide) (hts (.fieldLink RX2 243 "StoneWalk$Stone" "slope" "I") (List.mem_of_getElem? (i := 1) (by decide +kernel))) rfl rfl (tyX5_ok 7 (by decide)) rfl rfl rfl dX2_readGround_10 (fun H locs hP hD hT hS => ?_)
    exact r_vret hx hb hr hlocks hP hK hD hT hG hS (Option.some.inj h) dX2_readGround_13
set_option maxHeartbeats 4000000 in
set_option maxRecDepth 100000 in
theorem c_X2_readLand {l : Launch} {D : va_G} {ad : Nat → Nat} {cy : Nat → ClassId} {A : Nat → Prop} {g : CG} {q : SE} (M : MM) (a0 : Nat) (a1 : Nat) (k0 : ok g a0 2 0) (k1 : ok g a1 0 0) {Z : MM} (h : f_X2_readLand M a0 a1 = some Z) : Met l yX2_readLand wsX2_readLand ({ frames := 6, cells := 0, slots := 0, locals := 134 }) (va_Pc [.ref (ad a0), .ref (ad a1)] (Wd D ad cy A g q M)) (va_Qv (fun u => u = Z) (Wd D ad cy A g q) A) 0 0 A := by
  refine Met.ofW (cc := cX2_readLand) (maxL := 2) (ret := none) (by decide) rfl ?_
  intro p e s m args below meth c s₁ B hml hv
  obtain ⟨rfl, hP, hK, hD, hT, hG⟩ := hv
  have hx := B.exec
  have hb := B.bytes
  have hr := B.returns
  have hts := atoms_spec (ws := wsX2_readLand) B.pre
  have hown : s.vm.findClass RX2 = some m.cls := findClass_of_methodNamed B.named
  have hlocks := B.notSynchronized
  have in0 : ∀ w ∈ u_ws RX0 TX0 17, w ∈ wsX2_readLand := fun w h => List.mem_cons_of_mem _ (List.mem_append_left _ (List.mem_append_left _ (List.mem_append_right _ h)))
  have hS : va_S A s.heap s.heap [] := va_S.rf
  have hl := lv_entry ([.ref (ad a0), .ref (ad a1)]) (n := 2) (Nat.le_of_ble_eq_true rfl)
  rw [lg_entry_eq]
  generalize (lg_sl ([.ref (ad a0), .ref (ad a1)]) ++ List.replicate (2 - (lg_sl ([.ref (ad a0), .ref (ad a1)])).length) Slot.unset).toArray = ls at hl ⊢
  have hl : lv_has ls 2 [(0, .ref (ad a0)), (1, .ref (ad a1))] := hl
  unfold f_X2_readLand at h
  refine lv_aload_n hx hb dX2_readLand_0 rfl (lv_at hl 1 rfl) ?_
  refine lv_aload_n hx hb dX2_readLand_1 rfl (lv_at hl 0 rfl) ?_
  refine r_ldcSw (tx := "trees") (i := 24) hx hb hG hown (by decide +kernel) dX2_readLand_2 ?_
  refine lv_iconst (v := 0) hx hb dX2_readLand_5 rfl ?_
  refine lv_sipush (v := 999) hx hb dX2_readLand_6 rfl ?_
  obtain ⟨z1, h1, h⟩ := ob_some h
  refine k_i (va_runV (As := [.ref (q.2.1 24), .int 0, .int 999]) (rest := [.ref (ad a1)]) ⟨hx, hb, hml, hown, hts⟩ (c_X2_measure (l := l) M a0 24 0 999 k0 (by decide) h1) (cwV 3 hts gX2_readLand_X2_measure rfl rfl rfl hdV_X2_measure ⟨Nat.le_of_ble_eq_true rfl, Nat.le_of_ble_eq_true rfl⟩) (pV (T := TX2) hP hK hD hT hG hS k0 (by decide) rfl) rfl rfl hl.1 rfl (lv_room (Nat.le_of_ble_eq_true rfl)) dX2_readLand_9 ⟨Nat.zero_le _, Nat.zero_le _⟩) hS (fun H locs hP hD hT hS => ?_)
  refine r_putI (T := TX0) (ty := .int) (v := z1.1) hx hb hts in0 tyX0 tyX0_ok nmX0 hown hK hP hD hT hS k1 (by decide) rfl 9 (by decide) (hts (.fieldLink RX2 304 "StoneWalk$Island" "trees" "I") (List.mem_of_getElem? (i := 1) (by decide +kernel))) rfl rfl (tyX0_ok 9 (by decide)) rfl rfl rfl dX2_readLand_12 (fun H locs hP hD hT hS => ?_)
  refine lv_aload_n hx hb dX2_readLand_15 rfl (lv_at hl 1 rfl) ?_
  refine lv_aload_n hx hb dX2_readLand_16 rfl (lv_at hl 0 rfl) ?_
  refine r_ldcSw (tx := "grows") (i := 25) hx hb hG hown (by decide +kernel) dX2_readLand_17 ?_
  refine lv_iconst (v := 0) hx hb dX2_readLand_20 rfl ?_
  refine lv_bipush (v := 50) hx hb dX2_readLand_21 rfl ?_
  obtain ⟨z2, h2, h⟩ := ob_some h
  refine k_i (va_runV (As := [.ref (q.2.1 25), .int 0, .int 50]) (rest := [.ref (ad a1)]) ⟨hx, hb, hml, hown, hts⟩ (c_X2_measure (l := l) (pI z1.2 a1 9 z1.1) a0 25 0 50 k0 (by decide) h2) (cwV 3 hts gX2_readLand_X2_measure rfl rfl rfl hdV_X2_measure ⟨Nat.le_of_ble_eq_true rfl, Nat.le_of_ble_eq_true rfl⟩) (pV (T := TX2) hP hK hD hT hG hS k0 (by decide) rfl) rfl rfl hl.1 rfl (lv_room (Nat.le_of_ble_eq_true rfl)) dX2_readLand_23 ⟨Nat.zero_le _, Nat.zero_le _⟩) hS (fun H locs hP hD hT hS => ?_)
  refine r_putI (T := TX0) (ty := .int) (v := z2.1) hx hb hts in0 tyX0 tyX0_ok nmX0 hown hK hP hD hT hS k1 (by decide) rfl 10 (by decide) (hts (.fieldLink RX2 308 "StoneWalk$Island" "grows" "I") (List.mem_of_getElem? (i := 2) (by decide +kernel))) rfl rfl (tyX0_ok 10 (by decide)) rfl rfl rfl dX2_readLand_26 (fun H locs hP hD hT hS => ?_)
  refine lv_aload_n hx hb dX2_readLand_29 rfl (lv_at hl 1 rfl) ?_
  refine lv_aload_n hx hb dX2_readLand_30 rfl (lv_at hl 0 rfl) ?_
  refine r_ldcS (tx := "people") (i := 16) hx hb hG hown (by decide +kernel) dX2_readLand_31 ?_
  refine lv_iconst (v := 0) hx hb dX2_readLand_33 rfl ?_
  refine lv_sipush (v := 999) hx hb dX2_readLand_34 rfl ?_
  obtain ⟨z3, h3, h⟩ := ob_some h
  refine k_i (va_runV (As := [.ref (q.2.1 16), .int 0, .int 999]) (rest := [.ref (ad a1)]) ⟨hx, hb, hml, hown, hts⟩ (c_X2_measure (l := l) (pI z2.2 a1 10 z2.1) a0 16 0 999 k0 (by decide) h3) (cwV 3 hts gX2_readLand_X2_measure rfl rfl rfl hdV_X2_measure ⟨Nat.le_of_ble_eq_true rfl, Nat.le_of_ble_eq_true rfl⟩) (pV (T := TX2) hP hK hD hT hG hS k0 (by decide) rfl) rfl rfl hl.1 rfl (lv_room (Nat.le_of_ble_eq_true rfl)) dX2_readLand_37 ⟨Nat.zero_le _, Nat.zero_le _⟩) hS (fun H locs hP hD hT hS => ?_)
  refine r_putI (T := TX0) (ty := .int) (v := z3.1) hx hb hts in0 tyX0 tyX0_ok nmX0 hown hK hP hD hT hS k1 (by decide) rfl 11 (by decide) (hts (.fieldLink RX2 310 "StoneWalk$Island" "people" "I") (List.mem_of_getElem? (i := 3) (by decide +kernel))) rfl rfl (tyX0_ok 11 (by decide)) rfl rfl rfl dX2_readLand_40 (fun H locs hP hD hT hS => ?_)
  exact r_vret hx hb hr hlocks hP hK hD hT hG hS (Option.some.inj h) dX2_readLand_43
set_option maxHeartbeats 4000000 in
set_option maxRecDepth 100000 in
theorem c_X2_readFields {l : Launch} {D : va_G} {ad : Nat → Nat} {cy : Nat → ClassId} {A : Nat → Prop} {g : CG} {q : SE} (M : MM) (a0 : Nat) (a1 : Nat) (k0 : ok g a0 2 0) (k1 : ok g a1 0 0) {Z : MM} (h : f_X2_readFields M a0 a1 = some Z) : Met l yX2_readFields wsX2_readFields ({ frames := 6, cells := 0, slots := 0, locals := 134 }) (va_Pc [.ref (ad a0), .ref (ad a1)] (Wd D ad cy A g q M)) (va_Qv (fun u => u = Z) (Wd D ad cy A g q) A) 0 0 A := by
  refine Met.ofW (cc := cX2_readFields) (maxL := 2) (ret := none) (by decide) rfl ?_
  intro p e s m args below meth c s₁ B hml hv
  obtain ⟨rfl, hP, hK, hD, hT, hG⟩ := hv
  have hx := B.exec
  have hb := B.bytes
  have hr := B.returns
  have hts := atoms_spec (ws := wsX2_readFields) B.pre
  have hown : s.vm.findClass RX2 = some m.cls := findClass_of_methodNamed B.named
  have hlocks := B.notSynchronized
  have in0 : ∀ w ∈ u_ws RX0 TX0 17, w ∈ wsX2_readFields := fun w h => List.mem_cons_of_mem _ (List.mem_append_left _ (List.mem_append_left _ (List.mem_append_right _ h)))
  have hS : va_S A s.heap s.heap [] := va_S.rf
  have hl := lv_entry ([.ref (ad a0), .ref (ad a1)]) (n := 2) (Nat.le_of_ble_eq_true rfl)
  rw [lg_entry_eq]
  generalize (lg_sl ([.ref (ad a0), .ref (ad a1)]) ++ List.replicate (2 - (lg_sl ([.ref (ad a0), .ref (ad a1)])).length) Slot.unset).toArray = ls at hl ⊢
  have hl : lv_has ls 2 [(0, .ref (ad a0)), (1, .ref (ad a1))] := hl
  unfold f_X2_readFields at h
  refine lv_aload_n hx hb dX2_readFields_0 rfl (lv_at hl 1 rfl) ?_
  refine lv_aload_n hx hb dX2_readFields_1 rfl (lv_at hl 0 rfl) ?_
  refine lv_iconst (v := 0) hx hb dX2_readFields_2 rfl ?_
  refine lv_sipush (v := 999) hx hb dX2_readFields_3 rfl ?_
  obtain ⟨z1, h1, h⟩ := ob_some h
  refine k_i (va_runV (As := [.int 0, .int 999]) (rest := [.ref (ad a1)]) ⟨hx, hb, hml, hown, hts⟩ (c_X2_whole (l := l) M a0 0 999 k0 h1) (cwV 2 hts gX2_readFields_X2_whole rfl rfl rfl hdV_X2_whole ⟨Nat.le_of_ble_eq_true rfl, Nat.le_of_ble_eq_true rfl⟩) (pV (T := TX2) hP hK hD hT hG hS k0 (by decide) rfl) rfl rfl hl.1 rfl (lv_room (Nat.le_of_ble_eq_true rfl)) dX2_readFields_6 ⟨Nat.zero_le _, Nat.zero_le _⟩) hS (fun H locs hP hD hT hS => ?_)
  refine r_putI (T := TX0) (ty := .int) (v := z1.1) hx hb hts in0 tyX0 tyX0_ok nmX0 hown hK hP hD hT hS k1 (by decide) rfl 12 (by decide) (hts (.fieldLink RX2 311 "StoneWalk$Island" "fields" "I") (List.mem_of_getElem? (i := 1) (by decide +kernel))) rfl rfl (tyX0_ok 12 (by decide)) rfl rfl rfl dX2_readFields_9 (fun H locs hP hD hT hS => ?_)
  refine lv_aload_n hx hb dX2_readFields_12 rfl (lv_at hl 1 rfl) ?_
  refine lv_aload_n hx hb dX2_readFields_13 rfl (lv_at hl 0 rfl) ?_
  refine r_ldcSw (tx := "feeds") (i := 26) hx hb hG hown (by decide +kernel) dX2_readFields_14 ?_
  refine lv_iconst (v := 0) hx hb dX2_readFields_17 rfl ?_
  refine lv_bipush (v := 99) hx hb dX2_readFields_18 rfl ?_
  obtain ⟨z2, h2, h⟩ := ob_some h
  refine k_i (va_runV (As := [.ref (q.2.1 26), .int 0, .int 99]) (rest := [.ref (ad a1)]) ⟨hx, hb, hml, hown, hts⟩ (c_X2_measure (l := l) (pI z1.2 a1 12 z1.1) a0 26 0 99 k0 (by decide) h2) (cwV 3 hts gX2_readFields_X2_measure rfl rfl rfl hdV_X2_measure ⟨Nat.le_of_ble_eq_true rfl, Nat.le_of_ble_eq_true rfl⟩) (pV (T := TX2) hP hK hD hT hG hS k0 (by decide) rfl) rfl rfl hl.1 rfl (lv_room (Nat.le_of_ble_eq_true rfl)) dX2_readFields_20 ⟨Nat.zero_le _, Nat.zero_le _⟩) hS (fun H locs hP hD hT hS => ?_)
  refine r_putI (T := TX0) (ty := .int) (v := z2.1) hx hb hts in0 tyX0 tyX0_ok nmX0 hown hK hP hD hT hS k1 (by decide) rfl 13 (by decide) (hts (.fieldLink RX2 316 "StoneWalk$Island" "feeds" "I") (List.mem_of_getElem? (i := 2) (by decide +kernel))) rfl rfl (tyX0_ok 13 (by decide)) rfl rfl rfl dX2_readFields_23 (fun H locs hP hD hT hS => ?_)
  exact r_vret hx hb hr hlocks hP hK hD hT hG hS (Option.some.inj h) dX2_readFields_26
set_option maxHeartbeats 4000000 in
set_option maxRecDepth 100000 in
theorem c_X2_readHouses {l : Launch} {D : va_G} {ad : Nat → Nat} {cy : Nat → ClassId} {A : Nat → Prop} {g : CG} {q : SE} (M : MM) (a0 : Nat) (a1 : Nat) (k0 : ok g a0 2 0) (k1 : ok g a1 0 0) {Z : MM} (h : f_X2_readHouses M a0 a1 = some Z) : Met l yX2_readHouses wsX2_readHouses ({ frames := 6, cells := 0, slots := 0, locals := 134 }) (va_Pc [.ref (ad a0), .ref (ad a1)] (Wd D ad cy A g q M)) (va_Qv (fun u => u = Z) (Wd D ad cy A g q) A) 0 0 A := by
  refine Met.ofW (cc := cX2_readHouses) (maxL := 2) (ret := none) (by decide) rfl ?_
  intro p e s m args below meth c s₁ B hml hv
  obtain ⟨rfl, hP, hK, hD, hT, hG⟩ := hv
  have hx := B.exec
  have hb := B.bytes
  have hr := B.returns
  have hts := atoms_spec (ws := wsX2_readHouses) B.pre
  have hown : s.vm.findClass RX2 = some m.cls := findClass_of_methodNamed B.named
  have hlocks := B.notSynchronized
  have in0 : ∀ w ∈ u_ws RX0 TX0 17, w ∈ wsX2_readHouses := fun w h => List.mem_cons_of_mem _ (List.mem_append_left _ (List.mem_append_left _ (List.mem_append_right _ h)))
  have hS : va_S A s.heap s.heap [] := va_S.rf
  have hl := lv_entry ([.ref (ad a0), .ref (ad a1)]) (n := 2) (Nat.le_of_ble_eq_true rfl)
  rw [lg_entry_eq]
  generalize (lg_sl ([.ref (ad a0), .ref (ad a1)]) ++ List.replicate (2 - (lg_sl ([.ref (ad a0), .ref (ad a1)])).length) Slot.unset).toArray = ls at hl ⊢
  have hl : lv_has ls 2 [(0, .ref (ad a0)), (1, .ref (ad a1))] := hl
  unfold f_X2_readHouses at h
  refine lv_aload_n hx hb dX2_readHouses_0 rfl (lv_at hl 1 rfl) ?_
  refine lv_aload_n hx hb dX2_readHouses_1 rfl (lv_at hl 0 rfl) ?_
  refine lv_iconst (v := 0) hx hb dX2_readHouses_2 rfl ?_
  refine lv_sipush (v := 999) hx hb dX2_readHouses_3 rfl ?_
  obtain ⟨z1, h1, h⟩ := ob_some h
  refine k_i (va_runV (As := [.int 0, .int 999]) (rest := [.ref (ad a1)]) ⟨hx, hb, hml, hown, hts⟩ (c_X2_whole (l := l) M a0 0 999 k0 h1) (cwV 2 hts gX2_readHouses_X2_whole rfl rfl rfl hdV_X2_whole ⟨Nat.le_of_ble_eq_true rfl, Nat.le_of_ble_eq_true rfl⟩) (pV (T := TX2) hP hK hD hT hG hS k0 (by decide) rfl) rfl rfl hl.1 rfl (lv_room (Nat.le_of_ble_eq_true rfl)) dX2_readHouses_6 ⟨Nat.zero_le _, Nat.zero_le _⟩) hS (fun H locs hP hD hT hS => ?_)
  refine r_putI (T := TX0) (ty := .int) (v := z1.1) hx hb hts in0 tyX0 tyX0_ok nmX0 hown hK hP hD hT hS k1 (by decide) rfl 14 (by decide) (hts (.fieldLink RX2 318 "StoneWalk$Island" "houses" "I") (List.mem_of_getElem? (i := 1) (by decide +kernel))) rfl rfl (tyX0_ok 14 (by decide)) rfl rfl rfl dX2_readHouses_9 (fun H locs hP hD hT hS => ?_)
  refine lv_aload_n hx hb dX2_readHouses_12 rfl (lv_at hl 1 rfl) ?_
  refine lv_aload_n hx hb dX2_readHouses_13 rfl (lv_at hl 0 rfl) ?_
  refine r_ldcSw (tx := "holds") (i := 27) hx hb hG hown (by decide +kernel) dX2_readHouses_14 ?_
  refine lv_iconst (v := 0) hx hb dX2_readHouses_17 rfl ?_
  refine lv_bipush (v := 20) hx hb dX2_readHouses_18 rfl ?_
  obtain ⟨z2, h2, h⟩ := ob_some h
  refine k_i (va_runV (As := [.ref (q.2.1 27), .int 0, .int 20]) (rest := [.ref (ad a1)]) ⟨hx, hb, hml, hown, hts⟩ (c_X2_measure (l := l) (pI z1.2 a1 14 z1.1) a0 27 0 20 k0 (by decide) h2) (cwV 3 hts gX2_readHouses_X2_measure rfl rfl rfl hdV_X2_measure ⟨Nat.le_of_ble_eq_true rfl, Nat.le_of_ble_eq_true rfl⟩) (pV (T := TX2) hP hK hD hT hG hS k0 (by decide) rfl) rfl rfl hl.1 rfl (lv_room (Nat.le_of_ble_eq_true rfl)) dX2_readHouses_20 ⟨Nat.zero_le _, Nat.zero_le _⟩) hS (fun H locs hP hD hT hS => ?_)
  refine r_putI (T := TX0) (ty := .int) (v := z2.1) hx hb hts in0 tyX0 tyX0_ok nmX0 hown hK hP hD hT hS k1 (by decide) rfl 15 (by decide) (hts (.fieldLink RX2 323 "StoneWalk$Island" "holdsLeast" "I") (List.mem_of_getElem? (i := 2) (by decide +kernel))) rfl rfl (tyX0_ok 15 (by decide)) rfl rfl rfl dX2_readHouses_23 (fun H locs hP hD hT hS => ?_)
  refine lv_aload_n hx hb dX2_readHouses_26 rfl (lv_at hl 1 rfl) ?_
  refine lv_aload_n hx hb dX2_readHouses_27 rfl (lv_at hl 0 rfl) ?_
  refine r_ldcSw (tx := "to") (i := 28) hx hb hG hown (by decide +kernel) dX2_readHouses_28 ?_
  refine lv_aload_n hx hb dX2_readHouses_31 rfl (lv_at hl 1 rfl) ?_
  refine r_get (T := TX0) (v := .int (gI (pI z2.2 a1 15 z2.1) a1 15)) hx hb hts in0 hown hK hP k1 (by decide) rfl 15 (by decide) (hts (.fieldLink RX2 323 "StoneWalk$Island" "holdsLeast" "I") (List.mem_of_getElem? (i := 2) (by decide +kernel))) rfl (t := 0) rfl rfl dX2_readHouses_32 ?_
  refine lv_bipush (v := 40) hx hb dX2_readHouses_35 rfl ?_
  obtain ⟨z3, h3, h⟩ := ob_some h
  refine k_i (va_runV (As := [.ref (q.2.1 28), .int (gI (pI z2.2 a1 15 z2.1) a1 15), .int 40]) (rest := [.ref (ad a1)]) ⟨hx, hb, hml, hown, hts⟩ (c_X2_measure (l := l) (pI z2.2 a1 15 z2.1) a0 28 (gI (pI z2.2 a1 15 z2.1) a1 15) 40 k0 (by decide) h3) (cwV 3 hts gX2_readHouses_X2_measure rfl rfl rfl hdV_X2_measure ⟨Nat.le_of_ble_eq_true rfl, Nat.le_of_ble_eq_true rfl⟩) (pV (T := TX2) hP hK hD hT hG hS k0 (by decide) rfl) rfl rfl hl.1 rfl (lv_room (Nat.le_of_ble_eq_true rfl)) dX2_readHouses_37 ⟨Nat.zero_le _, Nat.zero_le _⟩) hS (fun H locs hP hD hT hS => ?_)
  refine r_putI (T := TX0) (ty := .int) (v := z3.1) hx hb hts in0 tyX0 tyX0_ok nmX0 hown hK hP hD hT hS k1 (by decide) rfl 16 (by decide) (hts (.fieldLink RX2 328 "StoneWalk$Island" "holdsMost" "I") (List.mem_of_getElem? (i := 3) (by decide +kernel))) rfl rfl (tyX0_ok 16 (by decide)) rfl rfl rfl dX2_readHouses_40 (fun H locs hP hD hT hS => ?_)
  exact r_vret hx hb hr hlocks hP hK hD hT hG hS (Option.some.inj h) dX2_readHouses_43
set_option maxHeartbeats 4000000 in
set_option maxRecDepth 100000 in
theorem c_X2_readLine {l : Launch} {D : va_G} {ad : Nat → Nat} {cy : Nat → ClassId} {A : Nat → Prop} {g : CG} {q : SE} (M : MM) (a0 : Nat) (a1 : Nat) (k0 : ok g a0 2 0) (k1 : ok g a1 0 0) {Z : MM} (h : f_X2_readLine M a0 a1 = some Z) : Met l yX2_readLine wsX2_readLine ({ frames := 8, cells := 0, slots := 0, locals := 178 }) (va_Pc [.ref (ad a0), .ref (ad a1)] (Wd D ad cy A g q M)) (va_Qv (fun u => u = Z) (Wd D ad cy A g q) A) 0 0 A := by
  refine Met.ofW (cc := cX2_readLine) (maxL := 4) (ret := none) (by decide) rfl ?_
  intro p e s m args below meth c s₁ B hml hv
  obtain ⟨rfl, hP, hK, hD, hT, hG⟩ := hv
  have hx := B.exec
  have hb := B.bytes
  have hr := B.returns
  have hts := atoms_spec (ws := wsX2_readLine) B.pre
  have hown : s.vm.findClass RX2 = some m.cls := findClass_of_methodNamed B.named
  have hlocks := B.notSynchronized
  have in2 : ∀ w ∈ u_ws RX2 TX2 7, w ∈ wsX2_readLine := fun w h => List.mem_cons_of_mem _ (List.mem_append_left _ (List.mem_append_left _ (List.mem_append_left _ (List.mem_append_left _ (List.mem_append_left _ (List.mem_append_left _ (List.mem_append_left _ (List.mem_append_left _ (List.mem_append_right _ h)))))))))
  have hS : va_S A s.heap s.heap [] := va_S.rf
  have hl := lv_entry ([.ref (ad a0), .ref (ad a1)]) (n := 4) (Nat.le_of_ble_eq_true rfl)
  rw [lg_entry_eq]
  generalize (lg_sl ([.ref (ad a0), .ref (ad a1)]) ++ List.replicate (4 - (lg_sl ([.ref (ad a0), .ref (ad a1)])).length) Slot.unset).toArray = ls at hl ⊢
  have hl : lv_has ls 4 [(0, .ref (ad a0)), (1, .ref (ad a1))] := hl
  unfold f_X2_readLine at h
  refine lv_aload_n hx hb dX2_readLine_0 rfl (lv_at hl 0 rfl) ?_
  rcases hN1 : gR M a0 0 with _ | b1
  · exact absurd (oc_n hN1 h) (by simp)
  replace h := oc_s hN1 h
  have kb1 := hT.f k0 (k := 0) (t := 7) (n := 0) rfl hN1
  refine r_get (T := TX2) (v := .ref (ad b1)) hx hb hts in2 hown hK hP k0 (by decide) rfl 0 (by decide) (hts (.fieldLink RX2 22 "StoneWalk$Reader" "tape" "LStoneWalk$Tape;") (List.mem_of_getElem? (i := 1) (by decide +kernel))) rfl (t := 2) rfl (by show va_rf _ = _; rw [hN1]; rfl) dX2_readLine_1 ?_
  refine r_ldcS (tx := "way road statue trial story teller try land fields houses") (i := 0) hx hb hG hown (by decide +kernel) dX2_readLine_4 ?_
  obtain ⟨z2, h2, h⟩ := ob_some h
  refine k_i (va_runV (As := [.ref (q.2.1 0)]) (rest := []) ⟨hx, hb, hml, hown, hts⟩ (c_X7_among (l := l) M b1 0 kb1 (by decide) h2) (cwV 1 hts gX2_readLine_X7_among rfl rfl rfl hdV_X7_among ⟨Nat.le_of_ble_eq_true rfl, Nat.le_of_ble_eq_true rfl⟩) (pV (T := TX7) hP hK hD hT hG hS kb1 (by decide) rfl) rfl rfl hl.1 rfl (lv_room (Nat.le_of_ble_eq_true rfl)) dX2_readLine_6 ⟨Nat.zero_le _, Nat.zero_le _⟩) hS (fun H locs hP hD hT hS => ?_)
  refine lv_istore_n (lv' := [(2, .int z2), (0, .ref (ad a0)), (1, .ref (ad a1))]) hx hb dX2_readLine_9 rfl hl (by decide) rfl (fun ls hl => ?_)
  refine lv_iload_n hx hb dX2_readLine_10 rfl (lv_at hl 0 rfl) ?_
  refine lv_iconst (v := (-1)) hx hb dX2_readLine_11 rfl ?_
  refine lv_icmp_ne (tgt := 21) hx hb dX2_readLine_12 rfl (fun c3 => ?_) (fun c3 => ?_)
  · replace h := ite_f c3 h
    refine lv_aload_n hx hb dX2_readLine_21 rfl (lv_at hl 2 rfl) ?_
    refine lv_iload_n hx hb dX2_readLine_22 rfl (lv_at hl 0 rfl) ?_
    obtain ⟨z4, h4, h⟩ := ob_some h
    refine k_i (va_runV (As := [.int z2]) (rest := []) ⟨hx, hb, hml, hown, hts⟩ (c_X0_add (l := l) M a1 z2 k1 h4) (cwV 1 hts gX2_readLine_X0_add rfl rfl rfl hdV_X0_add ⟨Nat.le_of_ble_eq_true rfl, Nat.le_of_ble_eq_true rfl⟩) (pV (T := TX0) hP hK hD hT hG hS k1 (by decide) rfl) rfl rfl hl.1 rfl (lv_room (Nat.le_of_ble_eq_true rfl)) dX2_readLine_23 ⟨Nat.zero_le _, Nat.zero_le _⟩) hS (fun H locs hP hD hT hS => ?_)
    refine lv_istore_n (lv' := [(3, .int z4.1), (2, .int z2), (0, .ref (ad a0)), (1, .ref (ad a1))]) hx hb dX2_readLine_26 rfl hl (by decide) rfl (fun ls hl => ?_)
    refine lv_iload_n hx hb dX2_readLine_27 rfl (lv_at hl 0 rfl) ?_
    refine lv_iconst (v := (-1)) hx hb dX2_readLine_28 rfl ?_
    refine lv_icmp_ne (tgt := 48) hx hb dX2_readLine_29 rfl (fun c5 => ?_) (fun c5 => ?_)
    · replace h := ite_f c5 h
      refine lv_aload_n hx hb dX2_readLine_48 rfl (lv_at hl 2 rfl) ?_
      rcases hN6 : gR z4.2 a0 0 with _ | b6
      · exact absurd (oc_n hN6 h) (by simp)
      replace h := oc_s hN6 h
      have kb6 := hT.f k0 (k := 0) (t := 7) (n := 0) rfl hN6
      refine r_get (T := TX2) (v := .ref (ad b6)) hx hb hts in2 hown hK hP k0 (by decide) rfl 0 (by decide) (hts (.fieldLink RX2 22 "StoneWalk$Reader" "tape" "LStoneWalk$Tape;") (List.mem_of_getElem? (i := 1) (by decide +kernel))) rfl (t := 2) rfl (by show va_rf _ = _; rw [hN6]; rfl) dX2_readLine_49 ?_
      obtain ⟨z7, h7, h⟩ := ob_some h
      refine k_v (va_runV (As := []) (rest := []) ⟨hx, hb, hml, hown, hts⟩ (c_X7_advance (l := l) z4.2 b6 kb6 h7) (cwV 0 hts gX2_readLine_X7_advance rfl rfl rfl hdV_X7_advance ⟨Nat.le_of_ble_eq_true rfl, Nat.le_of_ble_eq_true rfl⟩) (pV (T := TX7) hP hK hD hT hG hS kb6 (by decide) rfl) rfl rfl hl.1 rfl (lv_room (Nat.le_of_ble_eq_true rfl)) dX2_readLine_52 ⟨Nat.zero_le _, Nat.zero_le _⟩) hS (fun H locs hP hD hT hS => ?_)
      refine lv_iload_n hx hb dX2_readLine_55 rfl (lv_at hl 1 rfl) ?_
      refine lv_bipush (v := 7) hx hb dX2_readLine_56 rfl ?_
      refine lv_icmp_ge (tgt := 67) hx hb dX2_readLine_58 rfl (fun c8 => ?_) (fun c8 => ?_)
      · replace h := ite_t c8 h
        refine lv_iload_n hx hb dX2_readLine_67 rfl (lv_at hl 1 rfl) ?_
        by_cases c9_0 : z2 = 0
        · replace h := ite_t c9_0 h
          refine lv_tableIn (tgt := 120) (off := 52) hx hb dX2_readLine_68 (by rw [c9_0]; decide) (by rw [c9_0]; decide) (by rw [c9_0]; decide) rfl ?_
          refine lv_aload_n hx hb dX2_readLine_120 rfl (lv_at hl 2 rfl) ?_
          refine lv_aload_n hx hb dX2_readLine_121 rfl (lv_at hl 3 rfl) ?_
          refine lv_iload_n hx hb dX2_readLine_122 rfl (lv_at hl 0 rfl) ?_
          obtain ⟨z10, h10, h⟩ := ob_some h
          refine k_q (va_runV (As := [.int z4.1]) (rest := [.ref (ad a0)]) ⟨hx, hb, hml, hown, hts⟩ (c_X0_wayAt (l := l) z7 a1 z4.1 k1 h10) (cwV 1 hts gX2_readLine_X0_wayAt rfl rfl rfl hdV_X0_wayAt ⟨Nat.le_of_ble_eq_true rfl, Nat.le_of_ble_eq_true rfl⟩) (pV (T := TX0) hP hK hD hT hG hS k1 (by decide) rfl) rfl rfl hl.1 rfl (lv_room (Nat.le_of_ble_eq_true rfl)) dX2_readLine_123 ⟨Nat.zero_le _, Nat.zero_le _⟩) hS (fun H locs hq10 hP hD hT hS => ?_)
          rcases hN10 : z10 with _ | b10
          · replace h := oc_n hN10 h
            show W _ _ _ _ _ _ _ _ _ _ _ _ _ _ _ (F0 _ _ _ (.null :: [.ref (ad a0)]))
            obtain ⟨z11, h11, h⟩ := ob_some h
            refine k_v (va_runV (As := [.null]) (rest := []) ⟨hx, hb, hml, hown, hts⟩ (c_X2_readWay (l := l) z7 a0 none k0 (fun b hb => nomatch hb) h11) (cwV 1 hts gX2_readLine_X2_readWay rfl rfl rfl hdV_X2_readWay ⟨Nat.le_of_ble_eq_true rfl, Nat.le_of_ble_eq_true rfl⟩) (pV (T := TX2) hP hK hD hT hG hS k0 (by decide) rfl) rfl rfl hl.1 rfl (lv_room (Nat.le_of_ble_eq_true rfl)) dX2_readLine_126 ⟨Nat.zero_le _, Nat.zero_le _⟩) hS (fun H locs hP hD hT hS => ?_)
            refine lv_goto (tgt := 244) hx hb dX2_readLine_129 rfl ?_
            exact r_vret hx hb hr hlocks hP hK hD hT hG hS (Option.some.inj h) dX2_readLine_244
          · replace h := oc_s hN10 h
            have kb10 := hq10 _ hN10
            show W _ _ _ _ _ _ _ _ _ _ _ _ _ _ _ (F0 _ _ _ (.ref (ad b10) :: [.ref (ad a0)]))
            obtain ⟨z12, h12, h⟩ := ob_some h
            refine k_v (va_runV (As := [.ref (ad b10)]) (rest := []) ⟨hx, hb, hml, hown, hts⟩ (c_X2_readWay (l := l) z7 a0 (some b10) k0 (fun b hb => by cases hb; exact kb10) h12) (cwV 1 hts gX2_readLine_X2_readWay rfl rfl rfl hdV_X2_readWay ⟨Nat.le_of_ble_eq_true rfl, Nat.le_of_ble_eq_true rfl⟩) (pV (T := TX2) hP hK hD hT hG hS k0 (by decide) rfl) rfl rfl hl.1 rfl (lv_room (Nat.le_of_ble_eq_true rfl)) dX2_readLine_126 ⟨Nat.zero_le _, Nat.zero_le _⟩) hS (fun H locs hP hD hT hS => ?_)
            refine lv_goto (tgt := 244) hx hb dX2_readLine_129 rfl ?_
            exact r_vret hx hb hr hlocks hP hK hD hT hG hS (Option.some.inj h) dX2_readLine_244
        · replace h := ite_f c9_0 h
          by_cases c9_1 : z2 = 1
          · replace h := ite_t c9_1 h
            refine lv_tableIn (tgt := 132) (off := 64) hx hb dX2_readLine_68 (by rw [c9_1]; decide) (by rw [c9_1]; decide) (by rw [c9_1]; decide) rfl ?_
            refine lv_aload_n hx hb dX2_readLine_132 rfl (lv_at hl 2 rfl) ?_
            refine lv_aload_n hx hb dX2_readLine_133 rfl (lv_at hl 3 rfl) ?_
            refine lv_iload_n hx hb dX2_readLine_134 rfl (lv_at hl 0 rfl) ?_
            obtain ⟨z13, h13, h⟩ := ob_some h
            refine k_q (va_runV (As := [.int z4.1]) (rest := [.ref (ad a0)]) ⟨hx, hb, hml, hown, hts⟩ (c_X0_roadAt (l := l) z7 a1 z4.1 k1 h13) (cwV 1 hts gX2_readLine_X0_roadAt rfl rfl rfl hdV_X0_roadAt ⟨Nat.le_of_ble_eq_true rfl, Nat.le_of_ble_eq_true rfl⟩) (pV (T := TX0) hP hK hD hT hG hS k1 (by decide) rfl) rfl rfl hl.1 rfl (lv_room (Nat.le_of_ble_eq_true rfl)) dX2_readLine_135 ⟨Nat.zero_le _, Nat.zero_le _⟩) hS (fun H locs hq13 hP hD hT hS => ?_)
            rcases hN13 : z13 with _ | b13
            · replace h := oc_n hN13 h
              show W _ _ _ _ _ _ _ _ _ _ _ _ _ _ _ (F0 _ _ _ (.null :: [.ref (ad a0)]))
              obtain ⟨z14, h14, h⟩ := ob_some h
              refine k_v (va_runV (As := [.null]) (rest := []) ⟨hx, hb, hml, hown, hts⟩ (c_X2_readRoad (l := l) z7 a0 none k0 (fun b hb => nomatch hb) h14) (cwV 1 hts gX2_readLine_X2_readRoad rfl rfl rfl hdV_X2_readRoad ⟨Nat.le_of_ble_eq_true rfl, Nat.le_of_ble_eq_true rfl⟩) (pV (T := TX2) hP hK hD hT hG hS k0 (by decide) rfl) rfl rfl hl.1 rfl (lv_room (Nat.le_of_ble_eq_true rfl)) dX2_readLine_138 ⟨Nat.zero_le _, Nat.zero_le _⟩) hS (fun H locs hP hD hT hS => ?_)
              refine lv_goto (tgt := 244) hx hb dX2_readLine_141 rfl ?_
              exact r_vret hx hb hr hlocks hP hK hD hT hG hS (Option.some.inj h) dX2_readLine_244
            · replace h := oc_s hN13 h
              have kb13 := hq13 _ hN13
              show W _ _ _ _ _ _ _ _ _ _ _ _ _ _ _ (F0 _ _ _ (.ref (ad b13) :: [.ref (ad a0)]))
              obtain ⟨z15, h15, h⟩ := ob_some h
              refine k_v (va_runV (As := [.ref (ad b13)]) (rest := []) ⟨hx, hb, hml, hown, hts⟩ (c_X2_readRoad (l := l) z7 a0 (some b13) k0 (fun b hb => by cases hb; exact kb13) h15) (cwV 1 hts gX2_readLine_X2_readRoad rfl rfl rfl hdV_X2_readRoad ⟨Nat.le_of_ble_eq_true rfl, Nat.le_of_ble_eq_true rfl⟩) (pV (T := TX2) hP hK hD hT hG hS k0 (by decide) rfl) rfl rfl hl.1 rfl (lv_room (Nat.le_of_ble_eq_true rfl)) dX2_readLine_138 ⟨Nat.zero_le _, Nat.zero_le _⟩) hS (fun H locs hP hD hT hS => ?_)
              refine lv_goto (tgt := 244) hx hb dX2_readLine_141 rfl ?_
              exact r_vret hx hb hr hlocks hP hK hD hT hG hS (Option.some.inj h) dX2_readLine_244
          · replace h := ite_f c9_1 h
            by_cases c9_2 : z2 = 2
            · replace h := ite_t c9_2 h
              refine lv_tableIn (tgt := 144) (off := 76) hx hb dX2_readLine_68 (by rw [c9_2]; decide) (by rw [c9_2]; decide) (by rw [c9_2]; decide) rfl ?_
              refine lv_aload_n hx hb dX2_readLine_144 rfl (lv_at hl 2 rfl) ?_
              refine lv_aload_n hx hb dX2_readLine_145 rfl (lv_at hl 3 rfl) ?_
              refine lv_iload_n hx hb dX2_readLine_146 rfl (lv_at hl 0 rfl) ?_
              obtain ⟨z16, h16, h⟩ := ob_some h
              refine k_q (va_runV (As := [.int z4.1]) (rest := [.ref (ad a0)]) ⟨hx, hb, hml, hown, hts⟩ (c_X0_statueAt (l := l) z7 a1 z4.1 k1 h16) (cwV 1 hts gX2_readLine_X0_statueAt rfl rfl rfl hdV_X0_statueAt ⟨Nat.le_of_ble_eq_true rfl, Nat.le_of_ble_eq_true rfl⟩) (pV (T := TX0) hP hK hD hT hG hS k1 (by decide) rfl) rfl rfl hl.1 rfl (lv_room (Nat.le_of_ble_eq_true rfl)) dX2_readLine_147 ⟨Nat.zero_le _, Nat.zero_le _⟩) hS (fun H locs hq16 hP hD hT hS => ?_)
              rcases hN16 : z16 with _ | b16
              · replace h := oc_n hN16 h
                show W _ _ _ _ _ _ _ _ _ _ _ _ _ _ _ (F0 _ _ _ (.null :: [.ref (ad a0)]))
                obtain ⟨z17, h17, h⟩ := ob_some h
                refine k_v (va_runV (As := [.null]) (rest := []) ⟨hx, hb, hml, hown, hts⟩ (c_X2_readMeasures (l := l) z7 a0 none k0 (fun b hb => nomatch hb) h17) (cwV 1 hts gX2_readLine_X2_readMeasures rfl rfl rfl hdV_X2_readMeasures ⟨Nat.le_of_ble_eq_true rfl, Nat.le_of_ble_eq_true rfl⟩) (pV (T := TX2) hP hK hD hT hG hS k0 (by decide) rfl) rfl rfl hl.1 rfl (lv_room (Nat.le_of_ble_eq_true rfl)) dX2_readLine_150 ⟨Nat.zero_le _, Nat.zero_le _⟩) hS (fun H locs hP hD hT hS => ?_)
                refine lv_aload_n hx hb dX2_readLine_153 rfl (lv_at hl 2 rfl) ?_
                refine lv_aload_n hx hb dX2_readLine_154 rfl (lv_at hl 3 rfl) ?_
                refine lv_aload_n hx hb dX2_readLine_155 rfl (lv_at hl 3 rfl) ?_
                refine lv_iload_n hx hb dX2_readLine_156 rfl (lv_at hl 0 rfl) ?_
                obtain ⟨z18, h18, h⟩ := ob_some h
                refine k_q (va_runV (As := [.int z4.1]) (rest := [.ref (ad a1), .ref (ad a0)]) ⟨hx, hb, hml, hown, hts⟩ (c_X0_statueAt (l := l) z17 a1 z4.1 k1 h18) (cwV 1 hts gX2_readLine_X0_statueAt rfl rfl rfl hdV_X0_statueAt ⟨Nat.le_of_ble_eq_true rfl, Nat.le_of_ble_eq_true rfl⟩) (pV (T := TX0) hP hK hD hT hG hS k1 (by decide) rfl) rfl rfl hl.1 rfl (lv_room (Nat.le_of_ble_eq_true rfl)) dX2_readLine_157 ⟨Nat.zero_le _, Nat.zero_le _⟩) hS (fun H locs hq18 hP hD hT hS => ?_)
                rcases hN18 : z18 with _ | b18
                · replace h := oc_n hN18 h
                  show W _ _ _ _ _ _ _ _ _ _ _ _ _ _ _ (F0 _ _ _ (.null :: [.ref (ad a1), .ref (ad a0)]))
                  obtain ⟨z19, h19, h⟩ := ob_some h
                  refine k_v (va_runV (As := [.ref (ad a1), .null]) (rest := []) ⟨hx, hb, hml, hown, hts⟩ (c_X2_readSort (l := l) z17 a0 a1 none k0 k1 (fun b hb => nomatch hb) h19) (cwV 2 hts gX2_readLine_X2_readSort rfl rfl rfl hdV_X2_readSort ⟨Nat.le_of_ble_eq_true rfl, Nat.le_of_ble_eq_true rfl⟩) (pV (T := TX2) hP hK hD hT hG hS k0 (by decide) rfl) rfl rfl hl.1 rfl (lv_room (Nat.le_of_ble_eq_true rfl)) dX2_readLine_160 ⟨Nat.zero_le _, Nat.zero_le _⟩) hS (fun H locs hP hD hT hS => ?_)
                  refine lv_goto (tgt := 244) hx hb dX2_readLine_163 rfl ?_
                  exact r_vret hx hb hr hlocks hP hK hD hT hG hS (Option.some.inj h) dX2_readLine_244
                · replace h := oc_s hN18 h
                  have kb18 := hq18 _ hN18
                  show W _ _ _ _ _ _ _ _ _ _ _ _ _ _ _ (F0 _ _ _ (.ref (ad b18) :: [.ref (ad a1), .ref (ad a0)]))
                  obtain ⟨z20, h20, h⟩ := ob_some h
                  refine k_v (va_runV (As := [.ref (ad a1), .ref (ad b18)]) (rest := []) ⟨hx, hb, hml, hown, hts⟩ (c_X2_readSort (l := l) z17 a0 a1 (some b18) k0 k1 (fun b hb => by cases hb; exact kb18) h20) (cwV 2 hts gX2_readLine_X2_readSort rfl rfl rfl hdV_X2_readSort ⟨Nat.le_of_ble_eq_true rfl, Nat.le_of_ble_eq_true rfl⟩) (pV (T := TX2) hP hK hD hT hG hS k0 (by decide) rfl) rfl rfl hl.1 rfl (lv_room (Nat.le_of_ble_eq_true rfl)) dX2_readLine_160 ⟨Nat.zero_le _, Nat.zero_le _⟩) hS (fun H locs hP hD hT hS => ?_)
                  refine lv_goto (tgt := 244) hx hb dX2_readLine_163 rfl ?_
                  exact r_vret hx hb hr hlocks hP hK hD hT hG hS (Option.some.inj h) dX2_readLine_244
              · replace h := oc_s hN16 h
                have kb16 := hq16 _ hN16
                show W _ _ _ _ _ _ _ _ _ _ _ _ _ _ _ (F0 _ _ _ (.ref (ad b16) :: [.ref (ad a0)]))
                obtain ⟨z21, h21, h⟩ := ob_some h
                refine k_v (va_runV (As := [.ref (ad b16)]) (rest := []) ⟨hx, hb, hml, hown, hts⟩ (c_X2_readMeasures (l := l) z7 a0 (some b16) k0 (fun b hb => by cases hb; exact kb16) h21) (cwV 1 hts gX2_readLine_X2_readMeasures rfl rfl rfl hdV_X2_readMeasures ⟨Nat.le_of_ble_eq_true rfl, Nat.le_of_ble_eq_true rfl⟩) (pV (T := TX2) hP hK hD hT hG hS k0 (by decide) rfl) rfl rfl hl.1 rfl (lv_room (Nat.le_of_ble_eq_true rfl)) dX2_readLine_150 ⟨Nat.zero_le _, Nat.zero_le _⟩) hS (fun H locs hP hD hT hS => ?_)
                refine lv_aload_n hx hb dX2_readLine_153 rfl (lv_at hl 2 rfl) ?_
                refine lv_aload_n hx hb dX2_readLine_154 rfl (lv_at hl 3 rfl) ?_
                refine lv_aload_n hx hb dX2_readLine_155 rfl (lv_at hl 3 rfl) ?_
                refine lv_iload_n hx hb dX2_readLine_156 rfl (lv_at hl 0 rfl) ?_
                obtain ⟨z22, h22, h⟩ := ob_some h
                refine k_q (va_runV (As := [.int z4.1]) (rest := [.ref (ad a1), .ref (ad a0)]) ⟨hx, hb, hml, hown, hts⟩ (c_X0_statueAt (l := l) z21 a1 z4.1 k1 h22) (cwV 1 hts gX2_readLine_X0_statueAt rfl rfl rfl hdV_X0_statueAt ⟨Nat.le_of_ble_eq_true rfl, Nat.le_of_ble_eq_true rfl⟩) (pV (T := TX0) hP hK hD hT hG hS k1 (by decide) rfl) rfl rfl hl.1 rfl (lv_room (Nat.le_of_ble_eq_true rfl)) dX2_readLine_157 ⟨Nat.zero_le _, Nat.zero_le _⟩) hS (fun H locs hq22 hP hD hT hS => ?_)
                rcases hN22 : z22 with _ | b22
                · replace h := oc_n hN22 h
                  show W _ _ _ _ _ _ _ _ _ _ _ _ _ _ _ (F0 _ _ _ (.null :: [.ref (ad a1), .ref (ad a0)]))
                  obtain ⟨z23, h23, h⟩ := ob_some h
                  refine k_v (va_runV (As := [.ref (ad a1), .null]) (rest := []) ⟨hx, hb, hml, hown, hts⟩ (c_X2_readSort (l := l) z21 a0 a1 none k0 k1 (fun b hb => nomatch hb) h23) (cwV 2 hts gX2_readLine_X2_readSort rfl rfl rfl hdV_X2_readSort ⟨Nat.le_of_ble_eq_true rfl, Nat.le_of_ble_eq_true rfl⟩) (pV (T := TX2) hP hK hD hT hG hS k0 (by decide) rfl) rfl rfl hl.1 rfl (lv_room (Nat.le_of_ble_eq_true rfl)) dX2_readLine_160 ⟨Nat.zero_le _, Nat.zero_le _⟩) hS (fun H locs hP hD hT hS => ?_)
                  refine lv_goto (tgt := 244) hx hb dX2_readLine_163 rfl ?_
                  exact r_vret hx hb hr hlocks hP hK hD hT hG hS (Option.some.inj h) dX2_readLine_244
                · replace h := oc_s hN22 h
                  have kb22 := hq22 _ hN22
                  show W _ _ _ _ _ _ _ _ _ _ _ _ _ _ _ (F0 _ _ _ (.ref (ad b22) :: [.ref (ad a1), .ref (ad a0)]))
                  obtain ⟨z24, h24, h⟩ := ob_some h
                  refine k_v (va_runV (As := [.ref (ad a1), .ref (ad b22)]) (rest := []) ⟨hx, hb, hml, hown, hts⟩ (c_X2_readSort (l := l) z21 a0 a1 (some b22) k0 k1 (fun b hb => by cases hb; exact kb22) h24) (cwV 2 hts gX2_readLine_X2_readSort rfl rfl rfl hdV_X2_readSort ⟨Nat.le_of_ble_eq_true rfl, Nat.le_of_ble_eq_true rfl⟩) (pV (T := TX2) hP hK hD hT hG hS k0 (by decide) rfl) rfl rfl hl.1 rfl (lv_room (Nat.le_of_ble_eq_true rfl)) dX2_readLine_160 ⟨Nat.zero_le _, Nat.zero_le _⟩) hS (fun H locs hP hD hT hS => ?_)
                  refine lv_goto (tgt := 244) hx hb dX2_readLine_163 rfl ?_
                  exact r_vret hx hb hr hlocks hP hK hD hT hG hS (Option.some.inj h) dX2_readLine_244
            · replace h := ite_f c9_2 h
              by_cases c9_3 : z2 = 3
              · replace h := ite_t c9_3 h
                refine lv_tableIn (tgt := 166) (off := 98) hx hb dX2_readLine_68 (by rw [c9_3]; decide) (by rw [c9_3]; decide) (by rw [c9_3]; decide) rfl ?_
                refine lv_aload_n hx hb dX2_readLine_166 rfl (lv_at hl 2 rfl) ?_
                refine lv_aload_n hx hb dX2_readLine_167 rfl (lv_at hl 3 rfl) ?_
                refine lv_iload_n hx hb dX2_readLine_168 rfl (lv_at hl 0 rfl) ?_
                obtain ⟨z25, h25, h⟩ := ob_some h
                refine k_q (va_runV (As := [.int z4.1]) (rest := [.ref (ad a0)]) ⟨hx, hb, hml, hown, hts⟩ (c_X0_trialAt (l := l) z7 a1 z4.1 k1 h25) (cwV 1 hts gX2_readLine_X0_trialAt rfl rfl rfl hdV_X0_trialAt ⟨Nat.le_of_ble_eq_true rfl, Nat.le_of_ble_eq_true rfl⟩) (pV (T := TX0) hP hK hD hT hG hS k1 (by decide) rfl) rfl rfl hl.1 rfl (lv_room (Nat.le_of_ble_eq_true rfl)) dX2_readLine_169 ⟨Nat.zero_le _, Nat.zero_le _⟩) hS (fun H locs hq25 hP hD hT hS => ?_)
                rcases hN25 : z25 with _ | b25
                · replace h := oc_n hN25 h
                  show W _ _ _ _ _ _ _ _ _ _ _ _ _ _ _ (F0 _ _ _ (.null :: [.ref (ad a0)]))
                  obtain ⟨z26, h26, h⟩ := ob_some h
                  refine k_v (va_runV (As := [.null]) (rest := []) ⟨hx, hb, hml, hown, hts⟩ (c_X2_readTrial (l := l) z7 a0 none k0 (fun b hb => nomatch hb) h26) (cwV 1 hts gX2_readLine_X2_readTrial rfl rfl rfl hdV_X2_readTrial ⟨Nat.le_of_ble_eq_true rfl, Nat.le_of_ble_eq_true rfl⟩) (pV (T := TX2) hP hK hD hT hG hS k0 (by decide) rfl) rfl rfl hl.1 rfl (lv_room (Nat.le_of_ble_eq_true rfl)) dX2_readLine_172 ⟨Nat.zero_le _, Nat.zero_le _⟩) hS (fun H locs hP hD hT hS => ?_)
                  refine lv_goto (tgt := 244) hx hb dX2_readLine_175 rfl ?_
                  exact r_vret hx hb hr hlocks hP hK hD hT hG hS (Option.some.inj h) dX2_readLine_244
                · replace h := oc_s hN25 h
                  have kb25 := hq25 _ hN25
                  show W _ _ _ _ _ _ _ _ _ _ _ _ _ _ _ (F0 _ _ _ (.ref (ad b25) :: [.ref (ad a0)]))
                  obtain ⟨z27, h27, h⟩ := ob_some h
                  refine k_v (va_runV (As := [.ref (ad b25)]) (rest := []) ⟨hx, hb, hml, hown, hts⟩ (c_X2_readTrial (l := l) z7 a0 (some b25) k0 (fun b hb => by cases hb; exact kb25) h27) (cwV 1 hts gX2_readLine_X2_readTrial rfl rfl rfl hdV_X2_readTrial ⟨Nat.le_of_ble_eq_true rfl, Nat.le_of_ble_eq_true rfl⟩) (pV (T := TX2) hP hK hD hT hG hS k0 (by decide) rfl) rfl rfl hl.1 rfl (lv_room (Nat.le_of_ble_eq_true rfl)) dX2_readLine_172 ⟨Nat.zero_le _, Nat.zero_le _⟩) hS (fun H locs hP hD hT hS => ?_)
                  refine lv_goto (tgt := 244) hx hb dX2_readLine_175 rfl ?_
                  exact r_vret hx hb hr hlocks hP hK hD hT hG hS (Option.some.inj h) dX2_readLine_244
              · replace h := ite_f c9_3 h
                by_cases c9_4 : z2 = 4
                · replace h := ite_t c9_4 h
                  refine lv_tableIn (tgt := 178) (off := 110) hx hb dX2_readLine_68 (by rw [c9_4]; decide) (by rw [c9_4]; decide) (by rw [c9_4]; decide) rfl ?_
                  refine lv_aload_n hx hb dX2_readLine_178 rfl (lv_at hl 2 rfl) ?_
                  refine lv_aload_n hx hb dX2_readLine_179 rfl (lv_at hl 3 rfl) ?_
                  refine lv_iload_n hx hb dX2_readLine_180 rfl (lv_at hl 0 rfl) ?_
                  obtain ⟨z28, h28, h⟩ := ob_some h
                  refine k_q (va_runV (As := [.int z4.1]) (rest := [.ref (ad a0)]) ⟨hx, hb, hml, hown, hts⟩ (c_X0_storyAt (l := l) z7 a1 z4.1 k1 h28) (cwV 1 hts gX2_readLine_X0_storyAt rfl rfl rfl hdV_X0_storyAt ⟨Nat.le_of_ble_eq_true rfl, Nat.le_of_ble_eq_true rfl⟩) (pV (T := TX0) hP hK hD hT hG hS k1 (by decide) rfl) rfl rfl hl.1 rfl (lv_room (Nat.le_of_ble_eq_true rfl)) dX2_readLine_181 ⟨Nat.zero_le _, Nat.zero_le _⟩) hS (fun H locs hq28 hP hD hT hS => ?_)
                  rcases hN28 : z28 with _ | b28
                  · replace h := oc_n hN28 h
                    show W _ _ _ _ _ _ _ _ _ _ _ _ _ _ _ (F0 _ _ _ (.null :: [.ref (ad a0)]))
                    obtain ⟨z29, h29, h⟩ := ob_some h
                    refine k_v (va_runV (As := [.null]) (rest := []) ⟨hx, hb, hml, hown, hts⟩ (c_X2_readStory (l := l) z7 a0 none k0 (fun b hb => nomatch hb) h29) (cwV 1 hts gX2_readLine_X2_readStory rfl rfl rfl hdV_X2_readStory ⟨Nat.le_of_ble_eq_true rfl, Nat.le_of_ble_eq_true rfl⟩) (pV (T := TX2) hP hK hD hT hG hS k0 (by decide) rfl) rfl rfl hl.1 rfl (lv_room (Nat.le_of_ble_eq_true rfl)) dX2_readLine_184 ⟨Nat.zero_le _, Nat.zero_le _⟩) hS (fun H locs hP hD hT hS => ?_)
                    refine lv_goto (tgt := 244) hx hb dX2_readLine_187 rfl ?_
                    exact r_vret hx hb hr hlocks hP hK hD hT hG hS (Option.some.inj h) dX2_readLine_244
                  · replace h := oc_s hN28 h
                    have kb28 := hq28 _ hN28
                    show W _ _ _ _ _ _ _ _ _ _ _ _ _ _ _ (F0 _ _ _ (.ref (ad b28) :: [.ref (ad a0)]))
                    obtain ⟨z30, h30, h⟩ := ob_some h
                    refine k_v (va_runV (As := [.ref (ad b28)]) (rest := []) ⟨hx, hb, hml, hown, hts⟩ (c_X2_readStory (l := l) z7 a0 (some b28) k0 (fun b hb => by cases hb; exact kb28) h30) (cwV 1 hts gX2_readLine_X2_readStory rfl rfl rfl hdV_X2_readStory ⟨Nat.le_of_ble_eq_true rfl, Nat.le_of_ble_eq_true rfl⟩) (pV (T := TX2) hP hK hD hT hG hS k0 (by decide) rfl) rfl rfl hl.1 rfl (lv_room (Nat.le_of_ble_eq_true rfl)) dX2_readLine_184 ⟨Nat.zero_le _, Nat.zero_le _⟩) hS (fun H locs hP hD hT hS => ?_)
                    refine lv_goto (tgt := 244) hx hb dX2_readLine_187 rfl ?_
                    exact r_vret hx hb hr hlocks hP hK hD hT hG hS (Option.some.inj h) dX2_readLine_244
                · replace h := ite_f c9_4 h
                  by_cases c9_5 : z2 = 5
                  · replace h := ite_t c9_5 h
                    refine lv_tableIn (tgt := 190) (off := 122) hx hb dX2_readLine_68 (by rw [c9_5]; decide) (by rw [c9_5]; decide) (by rw [c9_5]; decide) rfl ?_
                    refine lv_aload_n hx hb dX2_readLine_190 rfl (lv_at hl 2 rfl) ?_
                    refine lv_aload_n hx hb dX2_readLine_191 rfl (lv_at hl 3 rfl) ?_
                    refine lv_iload_n hx hb dX2_readLine_192 rfl (lv_at hl 0 rfl) ?_
                    obtain ⟨z31, h31, h⟩ := ob_some h
                    refine k_q (va_runV (As := [.int z4.1]) (rest := [.ref (ad a0)]) ⟨hx, hb, hml, hown, hts⟩ (c_X0_tellerAt (l := l) z7 a1 z4.1 k1 h31) (cwV 1 hts gX2_readLine_X0_tellerAt rfl rfl rfl hdV_X0_tellerAt ⟨Nat.le_of_ble_eq_true rfl, Nat.le_of_ble_eq_true rfl⟩) (pV (T := TX0) hP hK hD hT hG hS k1 (by decide) rfl) rfl rfl hl.1 rfl (lv_room (Nat.le_of_ble_eq_true rfl)) dX2_readLine_193 ⟨Nat.zero_le _, Nat.zero_le _⟩) hS (fun H locs hq31 hP hD hT hS => ?_)
                    rcases hN31 : z31 with _ | b31
                    · replace h := oc_n hN31 h
                      show W _ _ _ _ _ _ _ _ _ _ _ _ _ _ _ (F0 _ _ _ (.null :: [.ref (ad a0)]))
                      obtain ⟨z32, h32, h⟩ := ob_some h
                      refine k_v (va_runV (As := [.null]) (rest := []) ⟨hx, hb, hml, hown, hts⟩ (c_X2_readTeller (l := l) z7 a0 none k0 (fun b hb => nomatch hb) h32) (cwV 1 hts gX2_readLine_X2_readTeller rfl rfl rfl hdV_X2_readTeller ⟨Nat.le_of_ble_eq_true rfl, Nat.le_of_ble_eq_true rfl⟩) (pV (T := TX2) hP hK hD hT hG hS k0 (by decide) rfl) rfl rfl hl.1 rfl (lv_room (Nat.le_of_ble_eq_true rfl)) dX2_readLine_196 ⟨Nat.zero_le _, Nat.zero_le _⟩) hS (fun H locs hP hD hT hS => ?_)
                      refine lv_goto (tgt := 244) hx hb dX2_readLine_199 rfl ?_
                      exact r_vret hx hb hr hlocks hP hK hD hT hG hS (Option.some.inj h) dX2_readLine_244
                    · replace h := oc_s hN31 h
                      have kb31 := hq31 _ hN31
                      show W _ _ _ _ _ _ _ _ _ _ _ _ _ _ _ (F0 _ _ _ (.ref (ad b31) :: [.ref (ad a0)]))
                      obtain ⟨z33, h33, h⟩ := ob_some h
                      refine k_v (va_runV (As := [.ref (ad b31)]) (rest := []) ⟨hx, hb, hml, hown, hts⟩ (c_X2_readTeller (l := l) z7 a0 (some b31) k0 (fun b hb => by cases hb; exact kb31) h33) (cwV 1 hts gX2_readLine_X2_readTeller rfl rfl rfl hdV_X2_readTeller ⟨Nat.le_of_ble_eq_true rfl, Nat.le_of_ble_eq_true rfl⟩) (pV (T := TX2) hP hK hD hT hG hS k0 (by decide) rfl) rfl rfl hl.1 rfl (lv_room (Nat.le_of_ble_eq_true rfl)) dX2_readLine_196 ⟨Nat.zero_le _, Nat.zero_le _⟩) hS (fun H locs hP hD hT hS => ?_)
                      refine lv_goto (tgt := 244) hx hb dX2_readLine_199 rfl ?_
                      exact r_vret hx hb hr hlocks hP hK hD hT hG hS (Option.some.inj h) dX2_readLine_244
                  · replace h := ite_f c9_5 h
                    by_cases c9_6 : z2 = 6
                    · replace h := ite_t c9_6 h
                      refine lv_tableIn (tgt := 202) (off := 134) hx hb dX2_readLine_68 (by rw [c9_6]; decide) (by rw [c9_6]; decide) (by rw [c9_6]; decide) rfl ?_
                      refine lv_aload_n hx hb dX2_readLine_202 rfl (lv_at hl 2 rfl) ?_
                      refine lv_aload_n hx hb dX2_readLine_203 rfl (lv_at hl 3 rfl) ?_
                      refine lv_iload_n hx hb dX2_readLine_204 rfl (lv_at hl 0 rfl) ?_
                      obtain ⟨z34, h34, h⟩ := ob_some h
                      refine k_q (va_runV (As := [.int z4.1]) (rest := [.ref (ad a0)]) ⟨hx, hb, hml, hown, hts⟩ (c_X0_thingAt (l := l) z7 a1 z4.1 k1 h34) (cwV 1 hts gX2_readLine_X0_thingAt rfl rfl rfl hdV_X0_thingAt ⟨Nat.le_of_ble_eq_true rfl, Nat.le_of_ble_eq_true rfl⟩) (pV (T := TX0) hP hK hD hT hG hS k1 (by decide) rfl) rfl rfl hl.1 rfl (lv_room (Nat.le_of_ble_eq_true rfl)) dX2_readLine_205 ⟨Nat.zero_le _, Nat.zero_le _⟩) hS (fun H locs hq34 hP hD hT hS => ?_)
                      rcases hN34 : z34 with _ | b34
                      · replace h := oc_n hN34 h
                        show W _ _ _ _ _ _ _ _ _ _ _ _ _ _ _ (F0 _ _ _ (.null :: [.ref (ad a0)]))
                        obtain ⟨z35, h35, h⟩ := ob_some h
                        refine k_v (va_runV (As := [.null]) (rest := []) ⟨hx, hb, hml, hown, hts⟩ (c_X2_readMeasures (l := l) z7 a0 none k0 (fun b hb => nomatch hb) h35) (cwV 1 hts gX2_readLine_X2_readMeasures rfl rfl rfl hdV_X2_readMeasures ⟨Nat.le_of_ble_eq_true rfl, Nat.le_of_ble_eq_true rfl⟩) (pV (T := TX2) hP hK hD hT hG hS k0 (by decide) rfl) rfl rfl hl.1 rfl (lv_room (Nat.le_of_ble_eq_true rfl)) dX2_readLine_208 ⟨Nat.zero_le _, Nat.zero_le _⟩) hS (fun H locs hP hD hT hS => ?_)
                        refine lv_aload_n hx hb dX2_readLine_211 rfl (lv_at hl 2 rfl) ?_
                        refine lv_aload_n hx hb dX2_readLine_212 rfl (lv_at hl 3 rfl) ?_
                        refine lv_iload_n hx hb dX2_readLine_213 rfl (lv_at hl 0 rfl) ?_
                        obtain ⟨z36, h36, h⟩ := ob_some h
                        refine k_q (va_runV (As := [.int z4.1]) (rest := [.ref (ad a0)]) ⟨hx, hb, hml, hown, hts⟩ (c_X0_thingAt (l := l) z35 a1 z4.1 k1 h36) (cwV 1 hts gX2_readLine_X0_thingAt rfl rfl rfl hdV_X0_thingAt ⟨Nat.le_of_ble_eq_true rfl, Nat.le_of_ble_eq_true rfl⟩) (pV (T := TX0) hP hK hD hT hG hS k1 (by decide) rfl) rfl rfl hl.1 rfl (lv_room (Nat.le_of_ble_eq_true rfl)) dX2_readLine_214 ⟨Nat.zero_le _, Nat.zero_le _⟩) hS (fun H locs hq36 hP hD hT hS => ?_)
                        rcases hN36 : z36 with _ | b36
                        · replace h := oc_n hN36 h
                          show W _ _ _ _ _ _ _ _ _ _ _ _ _ _ _ (F0 _ _ _ (.null :: [.ref (ad a0)]))
                          obtain ⟨z37, h37, h⟩ := ob_some h
                          refine k_v (va_runV (As := [.null]) (rest := []) ⟨hx, hb, hml, hown, hts⟩ (c_X2_readGround (l := l) z35 a0 none k0 (fun b hb => nomatch hb) h37) (cwV 1 hts gX2_readLine_X2_readGround rfl rfl rfl hdV_X2_readGround ⟨Nat.le_of_ble_eq_true rfl, Nat.le_of_ble_eq_true rfl⟩) (pV (T := TX2) hP hK hD hT hG hS k0 (by decide) rfl) rfl rfl hl.1 rfl (lv_room (Nat.le_of_ble_eq_true rfl)) dX2_readLine_217 ⟨Nat.zero_le _, Nat.zero_le _⟩) hS (fun H locs hP hD hT hS => ?_)
                          refine lv_goto (tgt := 244) hx hb dX2_readLine_220 rfl ?_
                          exact r_vret hx hb hr hlocks hP hK hD hT hG hS (Option.some.inj h) dX2_readLine_244
                        · replace h := oc_s hN36 h
                          have kb36 := hq36 _ hN36
                          show W _ _ _ _ _ _ _ _ _ _ _ _ _ _ _ (F0 _ _ _ (.ref (ad b36) :: [.ref (ad a0)]))
                          obtain ⟨z38, h38, h⟩ := ob_some h
                          refine k_v (va_runV (As := [.ref (ad b36)]) (rest := []) ⟨hx, hb, hml, hown, hts⟩ (c_X2_readGround (l := l) z35 a0 (some b36) k0 (fun b hb => by cases hb; exact kb36) h38) (cwV 1 hts gX2_readLine_X2_readGround rfl rfl rfl hdV_X2_readGround ⟨Nat.le_of_ble_eq_true rfl, Nat.le_of_ble_eq_true rfl⟩) (pV (T := TX2) hP hK hD hT hG hS k0 (by decide) rfl) rfl rfl hl.1 rfl (lv_room (Nat.le_of_ble_eq_true rfl)) dX2_readLine_217 ⟨Nat.zero_le _, Nat.zero_le _⟩) hS (fun H locs hP hD hT hS => ?_)
                          refine lv_goto (tgt := 244) hx hb dX2_readLine_220 rfl ?_
                          exact r_vret hx hb hr hlocks hP hK hD hT hG hS (Option.some.inj h) dX2_readLine_244
                      · replace h := oc_s hN34 h
                        have kb34 := hq34 _ hN34
                        show W _ _ _ _ _ _ _ _ _ _ _ _ _ _ _ (F0 _ _ _ (.ref (ad b34) :: [.ref (ad a0)]))
                        obtain ⟨z39, h39, h⟩ := ob_some h
                        refine k_v (va_runV (As := [.ref (ad b34)]) (rest := []) ⟨hx, hb, hml, hown, hts⟩ (c_X2_readMeasures (l := l) z7 a0 (some b34) k0 (fun b hb => by cases hb; exact kb34) h39) (cwV 1 hts gX2_readLine_X2_readMeasures rfl rfl rfl hdV_X2_readMeasures ⟨Nat.le_of_ble_eq_true rfl, Nat.le_of_ble_eq_true rfl⟩) (pV (T := TX2) hP hK hD hT hG hS k0 (by decide) rfl) rfl rfl hl.1 rfl (lv_room (Nat.le_of_ble_eq_true rfl)) dX2_readLine_208 ⟨Nat.zero_le _, Nat.zero_le _⟩) hS (fun H locs hP hD hT hS => ?_)
                        refine lv_aload_n hx hb dX2_readLine_211 rfl (lv_at hl 2 rfl) ?_
                        refine lv_aload_n hx hb dX2_readLine_212 rfl (lv_at hl 3 rfl) ?_
                        refine lv_iload_n hx hb dX2_readLine_213 rfl (lv_at hl 0 rfl) ?_
                        obtain ⟨z40, h40, h⟩ := ob_some h
                        refine k_q (va_runV (As := [.int z4.1]) (rest := [.ref (ad a0)]) ⟨hx, hb, hml, hown, hts⟩ (c_X0_thingAt (l := l) z39 a1 z4.1 k1 h40) (cwV 1 hts gX2_readLine_X0_thingAt rfl rfl rfl hdV_X0_thingAt ⟨Nat.le_of_ble_eq_true rfl, Nat.le_of_ble_eq_true rfl⟩) (pV (T := TX0) hP hK hD hT hG hS k1 (by decide) rfl) rfl rfl hl.1 rfl (lv_room (Nat.le_of_ble_eq_true rfl)) dX2_readLine_214 ⟨Nat.zero_le _, Nat.zero_le _⟩) hS (fun H locs hq40 hP hD hT hS => ?_)
                        rcases hN40 : z40 with _ | b40
                        · replace h := oc_n hN40 h
                          show W _ _ _ _ _ _ _ _ _ _ _ _ _ _ _ (F0 _ _ _ (.null :: [.ref (ad a0)]))
                          obtain ⟨z41, h41, h⟩ := ob_some h
                          refine k_v (va_runV (As := [.null]) (rest := []) ⟨hx, hb, hml, hown, hts⟩ (c_X2_readGround (l := l) z39 a0 none k0 (fun b hb => nomatch hb) h41) (cwV 1 hts gX2_readLine_X2_readGround rfl rfl rfl hdV_X2_readGround ⟨Nat.le_of_ble_eq_true rfl, Nat.le_of_ble_eq_true rfl⟩) (pV (T := TX2) hP hK hD hT hG hS k0 (by decide) rfl) rfl rfl hl.1 rfl (lv_room (Nat.le_of_ble_eq_true rfl)) dX2_readLine_217 ⟨Nat.zero_le _, Nat.zero_le _⟩) hS (fun H locs hP hD hT hS => ?_)
                          refine lv_goto (tgt := 244) hx hb dX2_readLine_220 rfl ?_
                          exact r_vret hx hb hr hlocks hP hK hD hT hG hS (Option.some.inj h) dX2_readLine_244
                        · replace h := oc_s hN40 h
                          have kb40 := hq40 _ hN40
                          show W _ _ _ _ _ _ _ _ _ _ _ _ _ _ _ (F0 _ _ _ (.ref (ad b40) :: [.ref (ad a0)]))
                          obtain ⟨z42, h42, h⟩ := ob_some h
                          refine k_v (va_runV (As := [.ref (ad b40)]) (rest := []) ⟨hx, hb, hml, hown, hts⟩ (c_X2_readGround (l := l) z39 a0 (some b40) k0 (fun b hb => by cases hb; exact kb40) h42) (cwV 1 hts gX2_readLine_X2_readGround rfl rfl rfl hdV_X2_readGround ⟨Nat.le_of_ble_eq_true rfl, Nat.le_of_ble_eq_true rfl⟩) (pV (T := TX2) hP hK hD hT hG hS k0 (by decide) rfl) rfl rfl hl.1 rfl (lv_room (Nat.le_of_ble_eq_true rfl)) dX2_readLine_217 ⟨Nat.zero_le _, Nat.zero_le _⟩) hS (fun H locs hP hD hT hS => ?_)
                          refine lv_goto (tgt := 244) hx hb dX2_readLine_220 rfl ?_
                          exact r_vret hx hb hr hlocks hP hK hD hT hG hS (Option.some.inj h) dX2_readLine_244
                    · replace h := ite_f c9_6 h
                      by_cases c9_7 : z2 = 7
                      · replace h := ite_t c9_7 h
                        refine lv_tableIn (tgt := 223) (off := 155) hx hb dX2_readLine_68 (by rw [c9_7]; decide) (by rw [c9_7]; decide) (by rw [c9_7]; decide) rfl ?_
                        refine lv_aload_n hx hb dX2_readLine_223 rfl (lv_at hl 2 rfl) ?_
                        refine lv_aload_n hx hb dX2_readLine_224 rfl (lv_at hl 3 rfl) ?_
                        obtain ⟨z43, h43, h⟩ := ob_some h
                        refine k_v (va_runV (As := [.ref (ad a1)]) (rest := []) ⟨hx, hb, hml, hown, hts⟩ (c_X2_readLand (l := l) z7 a0 a1 k0 k1 h43) (cwV 1 hts gX2_readLine_X2_readLand rfl rfl rfl hdV_X2_readLand ⟨Nat.le_of_ble_eq_true rfl, Nat.le_of_ble_eq_true rfl⟩) (pV (T := TX2) hP hK hD hT hG hS k0 (by decide) rfl) rfl rfl hl.1 rfl (lv_room (Nat.le_of_ble_eq_true rfl)) dX2_readLine_225 ⟨Nat.zero_le _, Nat.zero_le _⟩) hS (fun H locs hP hD hT hS => ?_)
                        refine lv_goto (tgt := 244) hx hb dX2_readLine_228 rfl ?_
                        exact r_vret hx hb hr hlocks hP hK hD hT hG hS (Option.some.inj h) dX2_readLine_244
                      · replace h := ite_f c9_7 h
                        by_cases c9_8 : z2 = 8
                        · replace h := ite_t c9_8 h
                          refine lv_tableIn (tgt := 231) (off := 163) hx hb dX2_readLine_68 (by rw [c9_8]; decide) (by rw [c9_8]; decide) (by rw [c9_8]; decide) rfl ?_
                          refine lv_aload_n hx hb dX2_readLine_231 rfl (lv_at hl 2 rfl) ?_
                          refine lv_aload_n hx hb dX2_readLine_232 rfl (lv_at hl 3 rfl) ?_
                          obtain ⟨z44, h44, h⟩ := ob_some h
                          refine k_v (va_runV (As := [.ref (ad a1)]) (rest := []) ⟨hx, hb, hml, hown, hts⟩ (c_X2_readFields (l := l) z7 a0 a1 k0 k1 h44) (cwV 1 hts gX2_readLine_X2_readFields rfl rfl rfl hdV_X2_readFields ⟨Nat.le_of_ble_eq_true rfl, Nat.le_of_ble_eq_true rfl⟩) (pV (T := TX2) hP hK hD hT hG hS k0 (by decide) rfl) rfl rfl hl.1 rfl (lv_room (Nat.le_of_ble_eq_true rfl)) dX2_readLine_233 ⟨Nat.zero_le _, Nat.zero_le _⟩) hS (fun H locs hP hD hT hS => ?_)
                          refine lv_goto (tgt := 244) hx hb dX2_readLine_236 rfl ?_
                          exact r_vret hx hb hr hlocks hP hK hD hT hG hS (Option.some.inj h) dX2_readLine_244
                        · replace h := ite_f c9_8 h
                          refine lv_tableOut (tgt := 239) hx hb dX2_readLine_68 (by
                              have e0 := lv_neT (a := 0) c9_0 rfl
                              have e1 := lv_neT (a := 1) c9_1 rfl
                              have e2 := lv_neT (a := 2) c9_2 rfl
                              have e3 := lv_neT (a := 3) c9_3 rfl
                              have e4 := lv_neT (a := 4) c9_4 rfl
                              have e5 := lv_neT (a := 5) c9_5 rfl
                              have e6 := lv_neT (a := 6) c9_6 rfl
                              have e7 := lv_neT (a := 7) c9_7 rfl
                              have e8 := lv_neT (a := 8) c9_8 rfl
                              omega) rfl ?_
                          refine lv_aload_n hx hb dX2_readLine_239 rfl (lv_at hl 2 rfl) ?_
                          refine lv_aload_n hx hb dX2_readLine_240 rfl (lv_at hl 3 rfl) ?_
                          obtain ⟨z45, h45, h⟩ := ob_some h
                          refine k_v (va_runV (As := [.ref (ad a1)]) (rest := []) ⟨hx, hb, hml, hown, hts⟩ (c_X2_readHouses (l := l) z7 a0 a1 k0 k1 h45) (cwV 1 hts gX2_readLine_X2_readHouses rfl rfl rfl hdV_X2_readHouses ⟨Nat.le_of_ble_eq_true rfl, Nat.le_of_ble_eq_true rfl⟩) (pV (T := TX2) hP hK hD hT hG hS k0 (by decide) rfl) rfl rfl hl.1 rfl (lv_room (Nat.le_of_ble_eq_true rfl)) dX2_readLine_241 ⟨Nat.zero_le _, Nat.zero_le _⟩) hS (fun H locs hP hD hT hS => ?_)
                          exact r_vret hx hb hr hlocks hP hK hD hT hG hS (Option.some.inj h) dX2_readLine_244
      · replace h := ite_f c8 h
        refine lv_aload_n hx hb dX2_readLine_61 rfl (lv_at hl 2 rfl) ?_
        refine lv_iload_n hx hb dX2_readLine_62 rfl (lv_at hl 1 rfl) ?_
        refine lv_iload_n hx hb dX2_readLine_63 rfl (lv_at hl 0 rfl) ?_
        obtain ⟨z46, h46, h⟩ := ob_some h
        refine k_v (va_runV (As := [.int z2, .int z4.1]) (rest := []) ⟨hx, hb, hml, hown, hts⟩ (c_X2_tellName (l := l) z7 a0 z2 z4.1 k0 h46) (cwV 2 hts gX2_readLine_X2_tellName rfl rfl rfl hdV_X2_tellName ⟨Nat.le_of_ble_eq_true rfl, Nat.le_of_ble_eq_true rfl⟩) (pV (T := TX2) hP hK hD hT hG hS k0 (by decide) rfl) rfl rfl hl.1 rfl (lv_room (Nat.le_of_ble_eq_true rfl)) dX2_readLine_64 ⟨Nat.zero_le _, Nat.zero_le _⟩) hS (fun H locs hP hD hT hS => ?_)
        refine lv_iload_n hx hb dX2_readLine_67 rfl (lv_at hl 1 rfl) ?_
        by_cases c47_0 : z2 = 0
        · replace h := ite_t c47_0 h
          refine lv_tableIn (tgt := 120) (off := 52) hx hb dX2_readLine_68 (by rw [c47_0]; decide) (by rw [c47_0]; decide) (by rw [c47_0]; decide) rfl ?_
          refine lv_aload_n hx hb dX2_readLine_120 rfl (lv_at hl 2 rfl) ?_
          refine lv_aload_n hx hb dX2_readLine_121 rfl (lv_at hl 3 rfl) ?_
          refine lv_iload_n hx hb dX2_readLine_122 rfl (lv_at hl 0 rfl) ?_
          obtain ⟨z48, h48, h⟩ := ob_some h
          refine k_q (va_runV (As := [.int z4.1]) (rest := [.ref (ad a0)]) ⟨hx, hb, hml, hown, hts⟩ (c_X0_wayAt (l := l) z46 a1 z4.1 k1 h48) (cwV 1 hts gX2_readLine_X0_wayAt rfl rfl rfl hdV_X0_wayAt ⟨Nat.le_of_ble_eq_true rfl, Nat.le_of_ble_eq_true rfl⟩) (pV (T := TX0) hP hK hD hT hG hS k1 (by decide) rfl) rfl rfl hl.1 rfl (lv_room (Nat.le_of_ble_eq_true rfl)) dX2_readLine_123 ⟨Nat.zero_le _, Nat.zero_le _⟩) hS (fun H locs hq48 hP hD hT hS => ?_)
          rcases hN48 : z48 with _ | b48
          · replace h := oc_n hN48 h
            show W _ _ _ _ _ _ _ _ _ _ _ _ _ _ _ (F0 _ _ _ (.null :: [.ref (ad a0)]))
            obtain ⟨z49, h49, h⟩ := ob_some h
            refine k_v (va_runV (As := [.null]) (rest := []) ⟨hx, hb, hml, hown, hts⟩ (c_X2_readWay (l := l) z46 a0 none k0 (fun b hb => nomatch hb) h49) (cwV 1 hts gX2_readLine_X2_readWay rfl rfl rfl hdV_X2_readWay ⟨Nat.le_of_ble_eq_true rfl, Nat.le_of_ble_eq_true rfl⟩) (pV (T := TX2) hP hK hD hT hG hS k0 (by decide) rfl) rfl rfl hl.1 rfl (lv_room (Nat.le_of_ble_eq_true rfl)) dX2_readLine_126 ⟨Nat.zero_le _, Nat.zero_le _⟩) hS (fun H locs hP hD hT hS => ?_)
            refine lv_goto (tgt := 244) hx hb dX2_readLine_129 rfl ?_
            exact r_vret hx hb hr hlocks hP hK hD hT hG hS (Option.some.inj h) dX2_readLine_244
          · replace h := oc_s hN48 h
            have kb48 := hq48 _ hN48
            show W _ _ _ _ _ _ _ _ _ _ _ _ _ _ _ (F0 _ _ _ (.ref (ad b48) :: [.ref (ad a0)]))
            obtain ⟨z50, h50, h⟩ := ob_some h
            refine k_v (va_runV (As := [.ref (ad b48)]) (rest := []) ⟨hx, hb, hml, hown, hts⟩ (c_X2_readWay (l := l) z46 a0 (some b48) k0 (fun b hb => by cases hb; exact kb48) h50) (cwV 1 hts gX2_readLine_X2_readWay rfl rfl rfl hdV_X2_readWay ⟨Nat.le_of_ble_eq_true rfl, Nat.le_of_ble_eq_true rfl⟩) (pV (T := TX2) hP hK hD hT hG hS k0 (by decide) rfl) rfl rfl hl.1 rfl (lv_room (Nat.le_of_ble_eq_true rfl)) dX2_readLine_126 ⟨Nat.zero_le _, Nat.zero_le _⟩) hS (fun H locs hP hD hT hS => ?_)
            refine lv_goto (tgt := 244) hx hb dX2_readLine_129 rfl ?_
            exact r_vret hx hb hr hlocks hP hK hD hT hG hS (Option.some.inj h) dX2_readLine_244
        · replace h := ite_f c47_0 h
          by_cases c47_1 : z2 = 1
          · replace h := ite_t c47_1 h
            refine lv_tableIn (tgt := 132) (off := 64) hx hb dX2_readLine_68 (by rw [c47_1]; decide) (by rw [c47_1]; decide) (by rw [c47_1]; decide) rfl ?_
            refine lv_aload_n hx hb dX2_readLine_132 rfl (lv_at hl 2 rfl) ?_
            refine lv_aload_n hx hb dX2_readLine_133 rfl (lv_at hl 3 rfl) ?_
            refine lv_iload_n hx hb dX2_readLine_134 rfl (lv_at hl 0 rfl) ?_
            obtain ⟨z51, h51, h⟩ := ob_some h
            refine k_q (va_runV (As := [.int z4.1]) (rest := [.ref (ad a0)]) ⟨hx, hb, hml, hown, hts⟩ (c_X0_roadAt (l := l) z46 a1 z4.1 k1 h51) (cwV 1 hts gX2_readLine_X0_roadAt rfl rfl rfl hdV_X0_roadAt ⟨Nat.le_of_ble_eq_true rfl, Nat.le_of_ble_eq_true rfl⟩) (pV (T := TX0) hP hK hD hT hG hS k1 (by decide) rfl) rfl rfl hl.1 rfl (lv_room (Nat.le_of_ble_eq_true rfl)) dX2_readLine_135 ⟨Nat.zero_le _, Nat.zero_le _⟩) hS (fun H locs hq51 hP hD hT hS => ?_)
            rcases hN51 : z51 with _ | b51
            · replace h := oc_n hN51 h
              show W _ _ _ _ _ _ _ _ _ _ _ _ _ _ _ (F0 _ _ _ (.null :: [.ref (ad a0)]))
              obtain ⟨z52, h52, h⟩ := ob_some h
              refine k_v (va_runV (As := [.null]) (rest := []) ⟨hx, hb, hml, hown, hts⟩ (c_X2_readRoad (l := l) z46 a0 none k0 (fun b hb => nomatch hb) h52) (cwV 1 hts gX2_readLine_X2_readRoad rfl rfl rfl hdV_X2_readRoad ⟨Nat.le_of_ble_eq_true rfl, Nat.le_of_ble_eq_true rfl⟩) (pV (T := TX2) hP hK hD hT hG hS k0 (by decide) rfl) rfl rfl hl.1 rfl (lv_room (Nat.le_of_ble_eq_true rfl)) dX2_readLine_138 ⟨Nat.zero_le _, Nat.zero_le _⟩) hS (fun H locs hP hD hT hS => ?_)
              refine lv_goto (tgt := 244) hx hb dX2_readLine_141 rfl ?_
              exact r_vret hx hb hr hlocks hP hK hD hT hG hS (Option.some.inj h) dX2_readLine_244
            · replace h := oc_s hN51 h
              have kb51 := hq51 _ hN51
              show W _ _ _ _ _ _ _ _ _ _ _ _ _ _ _ (F0 _ _ _ (.ref (ad b51) :: [.ref (ad a0)]))
              obtain ⟨z53, h53, h⟩ := ob_some h
              refine k_v (va_runV (As := [.ref (ad b51)]) (rest := []) ⟨hx, hb, hml, hown, hts⟩ (c_X2_readRoad (l := l) z46 a0 (some b51) k0 (fun b hb => by cases hb; exact kb51) h53) (cwV 1 hts gX2_readLine_X2_readRoad rfl rfl rfl hdV_X2_readRoad ⟨Nat.le_of_ble_eq_true rfl, Nat.le_of_ble_eq_true rfl⟩) (pV (T := TX2) hP hK hD hT hG hS k0 (by decide) rfl) rfl rfl hl.1 rfl (lv_room (Nat.le_of_ble_eq_true rfl)) dX2_readLine_138 ⟨Nat.zero_le _, Nat.zero_le _⟩) hS (fun H locs hP hD hT hS => ?_)
              refine lv_goto (tgt := 244) hx hb dX2_readLine_141 rfl ?_
              exact r_vret hx hb hr hlocks hP hK hD hT hG hS (Option.some.inj h) dX2_readLine_244
          · replace h := ite_f c47_1 h
            by_cases c47_2 : z2 = 2
            · replace h := ite_t c47_2 h
              refine lv_tableIn (tgt := 144) (off := 76) hx hb dX2_readLine_68 (by rw [c47_2]; decide) (by rw [c47_2]; decide) (by rw [c47_2]; decide) rfl ?_
              refine lv_aload_n hx hb dX2_readLine_144 rfl (lv_at hl 2 rfl) ?_
              refine lv_aload_n hx hb dX2_readLine_145 rfl (lv_at hl 3 rfl) ?_
              refine lv_iload_n hx hb dX2_readLine_146 rfl (lv_at hl 0 rfl) ?_
              obtain ⟨z54, h54, h⟩ := ob_some h
              refine k_q (va_runV (As := [.int z4.1]) (rest := [.ref (ad a0)]) ⟨hx, hb, hml, hown, hts⟩ (c_X0_statueAt (l := l) z46 a1 z4.1 k1 h54) (cwV 1 hts gX2_readLine_X0_statueAt rfl rfl rfl hdV_X0_statueAt ⟨Nat.le_of_ble_eq_true rfl, Nat.le_of_ble_eq_true rfl⟩) (pV (T := TX0) hP hK hD hT hG hS k1 (by decide) rfl) rfl rfl hl.1 rfl (lv_room (Nat.le_of_ble_eq_true rfl)) dX2_readLine_147 ⟨Nat.zero_le _, Nat.zero_le _⟩) hS (fun H locs hq54 hP hD hT hS => ?_)
              rcases hN54 : z54 with _ | b54
              · replace h := oc_n hN54 h
                show W _ _ _ _ _ _ _ _ _ _ _ _ _ _ _ (F0 _ _ _ (.null :: [.ref (ad a0)]))
                obtain ⟨z55, h55, h⟩ := ob_some h
                refine k_v (va_runV (As := [.null]) (rest := []) ⟨hx, hb, hml, hown, hts⟩ (c_X2_readMeasures (l := l) z46 a0 none k0 (fun b hb => nomatch hb) h55) (cwV 1 hts gX2_readLine_X2_readMeasures rfl rfl rfl hdV_X2_readMeasures ⟨Nat.le_of_ble_eq_true rfl, Nat.le_of_ble_eq_true rfl⟩) (pV (T := TX2) hP hK hD hT hG hS k0 (by decide) rfl) rfl rfl hl.1 rfl (lv_room (Nat.le_of_ble_eq_true rfl)) dX2_readLine_150 ⟨Nat.zero_le _, Nat.zero_le _⟩) hS (fun H locs hP hD hT hS => ?_)
                refine lv_aload_n hx hb dX2_readLine_153 rfl (lv_at hl 2 rfl) ?_
                refine lv_aload_n hx hb dX2_readLine_154 rfl (lv_at hl 3 rfl) ?_
                refine lv_aload_n hx hb dX2_readLine_155 rfl (lv_at hl 3 rfl) ?_
                refine lv_iload_n hx hb dX2_readLine_156 rfl (lv_at hl 0 rfl) ?_
                obtain ⟨z56, h56, h⟩ := ob_some h
                refine k_q (va_runV (As := [.int z4.1]) (rest := [.ref (ad a1), .ref (ad a0)]) ⟨hx, hb, hml, hown, hts⟩ (c_X0_statueAt (l := l) z55 a1 z4.1 k1 h56) (cwV 1 hts gX2_readLine_X0_statueAt rfl rfl rfl hdV_X0_statueAt ⟨Nat.le_of_ble_eq_true rfl, Nat.le_of_ble_eq_true rfl⟩) (pV (T := TX0) hP hK hD hT hG hS k1 (by decide) rfl) rfl rfl hl.1 rfl (lv_room (Nat.le_of_ble_eq_true rfl)) dX2_readLine_157 ⟨Nat.zero_le _, Nat.zero_le _⟩) hS (fun H locs hq56 hP hD hT hS => ?_)
                rcases hN56 : z56 with _ | b56
                · replace h := oc_n hN56 h
                  show W _ _ _ _ _ _ _ _ _ _ _ _ _ _ _ (F0 _ _ _ (.null :: [.ref (ad a1), .ref (ad a0)]))
                  obtain ⟨z57, h57, h⟩ := ob_some h
                  refine k_v (va_runV (As := [.ref (ad a1), .null]) (rest := []) ⟨hx, hb, hml, hown, hts⟩ (c_X2_readSort (l := l) z55 a0 a1 none k0 k1 (fun b hb => nomatch hb) h57) (cwV 2 hts gX2_readLine_X2_readSort rfl rfl rfl hdV_X2_readSort ⟨Nat.le_of_ble_eq_true rfl, Nat.le_of_ble_eq_true rfl⟩) (pV (T := TX2) hP hK hD hT hG hS k0 (by decide) rfl) rfl rfl hl.1 rfl (lv_room (Nat.le_of_ble_eq_true rfl)) dX2_readLine_160 ⟨Nat.zero_le _, Nat.zero_le _⟩) hS (fun H locs hP hD hT hS => ?_)
                  refine lv_goto (tgt := 244) hx hb dX2_readLine_163 rfl ?_
                  exact r_vret hx hb hr hlocks hP hK hD hT hG hS (Option.some.inj h) dX2_readLine_244
                · replace h := oc_s hN56 h
                  have kb56 := hq56 _ hN56
                  show W _ _ _ _ _ _ _ _ _ _ _ _ _ _ _ (F0 _ _ _ (.ref (ad b56) :: [.ref (ad a1), .ref (ad a0)]))
                  obtain ⟨z58, h58, h⟩ := ob_some h
                  refine k_v (va_runV (As := [.ref (ad a1), .ref (ad b56)]) (rest := []) ⟨hx, hb, hml, hown, hts⟩ (c_X2_readSort (l := l) z55 a0 a1 (some b56) k0 k1 (fun b hb => by cases hb; exact kb56) h58) (cwV 2 hts gX2_readLine_X2_readSort rfl rfl rfl hdV_X2_readSort ⟨Nat.le_of_ble_eq_true rfl, Nat.le_of_ble_eq_true rfl⟩) (pV (T := TX2) hP hK hD hT hG hS k0 (by decide) rfl) rfl rfl hl.1 rfl (lv_room (Nat.le_of_ble_eq_true rfl)) dX2_readLine_160 ⟨Nat.zero_le _, Nat.zero_le _⟩) hS (fun H locs hP hD hT hS => ?_)
                  refine lv_goto (tgt := 244) hx hb dX2_readLine_163 rfl ?_
                  exact r_vret hx hb hr hlocks hP hK hD hT hG hS (Option.some.inj h) dX2_readLine_244
              · replace h := oc_s hN54 h
                have kb54 := hq54 _ hN54
                show W _ _ _ _ _ _ _ _ _ _ _ _ _ _ _ (F0 _ _ _ (.ref (ad b54) :: [.ref (ad a0)]))
                obtain ⟨z59, h59, h⟩ := ob_some h
                refine k_v (va_runV (As := [.ref (ad b54)]) (rest := []) ⟨hx, hb, hml, hown, hts⟩ (c_X2_readMeasures (l := l) z46 a0 (some b54) k0 (fun b hb => by cases hb; exact kb54) h59) (cwV 1 hts gX2_readLine_X2_readMeasures rfl rfl rfl hdV_X2_readMeasures ⟨Nat.le_of_ble_eq_true rfl, Nat.le_of_ble_eq_true rfl⟩) (pV (T := TX2) hP hK hD hT hG hS k0 (by decide) rfl) rfl rfl hl.1 rfl (lv_room (Nat.le_of_ble_eq_true rfl)) dX2_readLine_150 ⟨Nat.zero_le _, Nat.zero_le _⟩) hS (fun H locs hP hD hT hS => ?_)
                refine lv_aload_n hx hb dX2_readLine_153 rfl (lv_at hl 2 rfl) ?_
                refine lv_aload_n hx hb dX2_readLine_154 rfl (lv_at hl 3 rfl) ?_
                refine lv_aload_n hx hb dX2_readLine_155 rfl (lv_at hl 3 rfl) ?_
                refine lv_iload_n hx hb dX2_readLine_156 rfl (lv_at hl 0 rfl) ?_
                obtain ⟨z60, h60, h⟩ := ob_some h
                refine k_q (va_runV (As := [.int z4.1]) (rest := [.ref (ad a1), .ref (ad a0)]) ⟨hx, hb, hml, hown, hts⟩ (c_X0_statueAt (l := l) z59 a1 z4.1 k1 h60) (cwV 1 hts gX2_readLine_X0_statueAt rfl rfl rfl hdV_X0_statueAt ⟨Nat.le_of_ble_eq_true rfl, Nat.le_of_ble_eq_true rfl⟩) (pV (T := TX0) hP hK hD hT hG hS k1 (by decide) rfl) rfl rfl hl.1 rfl (lv_room (Nat.le_of_ble_eq_true rfl)) dX2_readLine_157 ⟨Nat.zero_le _, Nat.zero_le _⟩) hS (fun H locs hq60 hP hD hT hS => ?_)
                rcases hN60 : z60 with _ | b60
                · replace h := oc_n hN60 h
                  show W _ _ _ _ _ _ _ _ _ _ _ _ _ _ _ (F0 _ _ _ (.null :: [.ref (ad a1), .ref (ad a0)]))
                  obtain ⟨z61, h61, h⟩ := ob_some h
                  refine k_v (va_runV (As := [.ref (ad a1), .null]) (rest := []) ⟨hx, hb, hml, hown, hts⟩ (c_X2_readSort (l := l) z59 a0 a1 none k0 k1 (fun b hb => nomatch hb) h61) (cwV 2 hts gX2_readLine_X2_readSort rfl rfl rfl hdV_X2_readSort ⟨Nat.le_of_ble_eq_true rfl, Nat.le_of_ble_eq_true rfl⟩) (pV (T := TX2) hP hK hD hT hG hS k0 (by decide) rfl) rfl rfl hl.1 rfl (lv_room (Nat.le_of_ble_eq_true rfl)) dX2_readLine_160 ⟨Nat.zero_le _, Nat.zero_le _⟩) hS (fun H locs hP hD hT hS => ?_)
                  refine lv_goto (tgt := 244) hx hb dX2_readLine_163 rfl ?_
                  exact r_vret hx hb hr hlocks hP hK hD hT hG hS (Option.some.inj h) dX2_readLine_244
                · replace h := oc_s hN60 h
                  have kb60 := hq60 _ hN60
                  show W _ _ _ _ _ _ _ _ _ _ _ _ _ _ _ (F0 _ _ _ (.ref (ad b60) :: [.ref (ad a1), .ref (ad a0)]))
                  obtain ⟨z62, h62, h⟩ := ob_some h
                  refine k_v (va_runV (As := [.ref (ad a1), .ref (ad b60)]) (rest := []) ⟨hx, hb, hml, hown, hts⟩ (c_X2_readSort (l := l) z59 a0 a1 (some b60) k0 k1 (fun b hb => by cases hb; exact kb60) h62) (cwV 2 hts gX2_readLine_X2_readSort rfl rfl rfl hdV_X2_readSort ⟨Nat.le_of_ble_eq_true rfl, Nat.le_of_ble_eq_true rfl⟩) (pV (T := TX2) hP hK hD hT hG hS k0 (by decide) rfl) rfl rfl hl.1 rfl (lv_room (Nat.le_of_ble_eq_true rfl)) dX2_readLine_160 ⟨Nat.zero_le _, Nat.zero_le _⟩) hS (fun H locs hP hD hT hS => ?_)
                  refine lv_goto (tgt := 244) hx hb dX2_readLine_163 rfl ?_
                  exact r_vret hx hb hr hlocks hP hK hD hT hG hS (Option.some.inj h) dX2_readLine_244
            · replace h := ite_f c47_2 h
              by_cases c47_3 : z2 = 3
              · replace h := ite_t c47_3 h
                refine lv_tableIn (tgt := 166) (off := 98) hx hb dX2_readLine_68 (by rw [c47_3]; decide) (by rw [c47_3]; decide) (by rw [c47_3]; decide) rfl ?_
                refine lv_aload_n hx hb dX2_readLine_166 rfl (lv_at hl 2 rfl) ?_
                refine lv_aload_n hx hb dX2_readLine_167 rfl (lv_at hl 3 rfl) ?_
                refine lv_iload_n hx hb dX2_readLine_168 rfl (lv_at hl 0 rfl) ?_
                obtain ⟨z63, h63, h⟩ := ob_some h
                refine k_q (va_runV (As := [.int z4.1]) (rest := [.ref (ad a0)]) ⟨hx, hb, hml, hown, hts⟩ (c_X0_trialAt (l := l) z46 a1 z4.1 k1 h63) (cwV 1 hts gX2_readLine_X0_trialAt rfl rfl rfl hdV_X0_trialAt ⟨Nat.le_of_ble_eq_true rfl, Nat.le_of_ble_eq_true rfl⟩) (pV (T := TX0) hP hK hD hT hG hS k1 (by decide) rfl) rfl rfl hl.1 rfl (lv_room (Nat.le_of_ble_eq_true rfl)) dX2_readLine_169 ⟨Nat.zero_le _, Nat.zero_le _⟩) hS (fun H locs hq63 hP hD hT hS => ?_)
                rcases hN63 : z63 with _ | b63
                · replace h := oc_n hN63 h
                  show W _ _ _ _ _ _ _ _ _ _ _ _ _ _ _ (F0 _ _ _ (.null :: [.ref (ad a0)]))
                  obtain ⟨z64, h64, h⟩ := ob_some h
                  refine k_v (va_runV (As := [.null]) (rest := []) ⟨hx, hb, hml, hown, hts⟩ (c_X2_readTrial (l := l) z46 a0 none k0 (fun b hb => nomatch hb) h64) (cwV 1 hts gX2_readLine_X2_readTrial rfl rfl rfl hdV_X2_readTrial ⟨Nat.le_of_ble_eq_true rfl, Nat.le_of_ble_eq_true rfl⟩) (pV (T := TX2) hP hK hD hT hG hS k0 (by decide) rfl) rfl rfl hl.1 rfl (lv_room (Nat.le_of_ble_eq_true rfl)) dX2_readLine_172 ⟨Nat.zero_le _, Nat.zero_le _⟩) hS (fun H locs hP hD hT hS => ?_)
                  refine lv_goto (tgt := 244) hx hb dX2_readLine_175 rfl ?_
                  exact r_vret hx hb hr hlocks hP hK hD hT hG hS (Option.some.inj h) dX2_readLine_244
                · replace h := oc_s hN63 h
                  have kb63 := hq63 _ hN63
                  show W _ _ _ _ _ _ _ _ _ _ _ _ _ _ _ (F0 _ _ _ (.ref (ad b63) :: [.ref (ad a0)]))
                  obtain ⟨z65, h65, h⟩ := ob_some h
                  refine k_v (va_runV (As := [.ref (ad b63)]) (rest := []) ⟨hx, hb, hml, hown, hts⟩ (c_X2_readTrial (l := l) z46 a0 (some b63) k0 (fun b hb => by cases hb; exact kb63) h65) (cwV 1 hts gX2_readLine_X2_readTrial rfl rfl rfl hdV_X2_readTrial ⟨Nat.le_of_ble_eq_true rfl, Nat.le_of_ble_eq_true rfl⟩) (pV (T := TX2) hP hK hD hT hG hS k0 (by decide) rfl) rfl rfl hl.1 rfl (lv_room (Nat.le_of_ble_eq_true rfl)) dX2_readLine_172 ⟨Nat.zero_le _, Nat.zero_le _⟩) hS (fun H locs hP hD hT hS => ?_)
                  refine lv_goto (tgt := 244) hx hb dX2_readLine_175 rfl ?_
                  exact r_vret hx hb hr hlocks hP hK hD hT hG hS (Option.some.inj h) dX2_readLine_244
              · replace h := ite_f c47_3 h
                by_cases c47_4 : z2 = 4
                · replace h := ite_t c47_4 h
                  refine lv_tableIn (tgt := 178) (off := 110) hx hb dX2_readLine_68 (by rw [c47_4]; decide) (by rw [c47_4]; decide) (by rw [c47_4]; decide) rfl ?_
                  refine lv_aload_n hx hb dX2_readLine_178 rfl (lv_at hl 2 rfl) ?_
                  refine lv_aload_n hx hb dX2_readLine_179 rfl (lv_at hl 3 rfl) ?_
                  refine lv_iload_n hx hb dX2_readLine_180 rfl (lv_at hl 0 rfl) ?_
                  obtain ⟨z66, h66, h⟩ := ob_some h
                  refine k_q (va_runV (As := [.int z4.1]) (rest := [.ref (ad a0)]) ⟨hx, hb, hml, hown, hts⟩ (c_X0_storyAt (l := l) z46 a1 z4.1 k1 h66) (cwV 1 hts gX2_readLine_X0_storyAt rfl rfl rfl hdV_X0_storyAt ⟨Nat.le_of_ble_eq_true rfl, Nat.le_of_ble_eq_true rfl⟩) (pV (T := TX0) hP hK hD hT hG hS k1 (by decide) rfl) rfl rfl hl.1 rfl (lv_room (Nat.le_of_ble_eq_true rfl)) dX2_readLine_181 ⟨Nat.zero_le _, Nat.zero_le _⟩) hS (fun H locs hq66 hP hD hT hS => ?_)
                  rcases hN66 : z66 with _ | b66
                  · replace h := oc_n hN66 h
                    show W _ _ _ _ _ _ _ _ _ _ _ _ _ _ _ (F0 _ _ _ (.null :: [.ref (ad a0)]))
                    obtain ⟨z67, h67, h⟩ := ob_some h
                    refine k_v (va_runV (As := [.null]) (rest := []) ⟨hx, hb, hml, hown, hts⟩ (c_X2_readStory (l := l) z46 a0 none k0 (fun b hb => nomatch hb) h67) (cwV 1 hts gX2_readLine_X2_readStory rfl rfl rfl hdV_X2_readStory ⟨Nat.le_of_ble_eq_true rfl, Nat.le_of_ble_eq_true rfl⟩) (pV (T := TX2) hP hK hD hT hG hS k0 (by decide) rfl) rfl rfl hl.1 rfl (lv_room (Nat.le_of_ble_eq_true rfl)) dX2_readLine_184 ⟨Nat.zero_le _, Nat.zero_le _⟩) hS (fun H locs hP hD hT hS => ?_)
                    refine lv_goto (tgt := 244) hx hb dX2_readLine_187 rfl ?_
                    exact r_vret hx hb hr hlocks hP hK hD hT hG hS (Option.some.inj h) dX2_readLine_244
                  · replace h := oc_s hN66 h
                    have kb66 := hq66 _ hN66
                    show W _ _ _ _ _ _ _ _ _ _ _ _ _ _ _ (F0 _ _ _ (.ref (ad b66) :: [.ref (ad a0)]))
                    obtain ⟨z68, h68, h⟩ := ob_some h
                    refine k_v (va_runV (As := [.ref (ad b66)]) (rest := []) ⟨hx, hb, hml, hown, hts⟩ (c_X2_readStory (l := l) z46 a0 (some b66) k0 (fun b hb => by cases hb; exact kb66) h68) (cwV 1 hts gX2_readLine_X2_readStory rfl rfl rfl hdV_X2_readStory ⟨Nat.le_of_ble_eq_true rfl, Nat.le_of_ble_eq_true rfl⟩) (pV (T := TX2) hP hK hD hT hG hS k0 (by decide) rfl) rfl rfl hl.1 rfl (lv_room (Nat.le_of_ble_eq_true rfl)) dX2_readLine_184 ⟨Nat.zero_le _, Nat.zero_le _⟩) hS (fun H locs hP hD hT hS => ?_)
                    refine lv_goto (tgt := 244) hx hb dX2_readLine_187 rfl ?_
                    exact r_vret hx hb hr hlocks hP hK hD hT hG hS (Option.some.inj h) dX2_readLine_244
                · replace h := ite_f c47_4 h
                  by_cases c47_5 : z2 = 5
                  · replace h := ite_t c47_5 h
                    refine lv_tableIn (tgt := 190) (off := 122) hx hb dX2_readLine_68 (by rw [c47_5]; decide) (by rw [c47_5]; decide) (by rw [c47_5]; decide) rfl ?_
                    refine lv_aload_n hx hb dX2_readLine_190 rfl (lv_at hl 2 rfl) ?_
                    refine lv_aload_n hx hb dX2_readLine_191 rfl (lv_at hl 3 rfl) ?_
                    refine lv_iload_n hx hb dX2_readLine_192 rfl (lv_at hl 0 rfl) ?_
                    obtain ⟨z69, h69, h⟩ := ob_some h
                    refine k_q (va_runV (As := [.int z4.1]) (rest := [.ref (ad a0)]) ⟨hx, hb, hml, hown, hts⟩ (c_X0_tellerAt (l := l) z46 a1 z4.1 k1 h69) (cwV 1 hts gX2_readLine_X0_tellerAt rfl rfl rfl hdV_X0_tellerAt ⟨Nat.le_of_ble_eq_true rfl, Nat.le_of_ble_eq_true rfl⟩) (pV (T := TX0) hP hK hD hT hG hS k1 (by decide) rfl) rfl rfl hl.1 rfl (lv_room (Nat.le_of_ble_eq_true rfl)) dX2_readLine_193 ⟨Nat.zero_le _, Nat.zero_le _⟩) hS (fun H locs hq69 hP hD hT hS => ?_)
                    rcases hN69 : z69 with _ | b69
                    · replace h := oc_n hN69 h
                      show W _ _ _ _ _ _ _ _ _ _ _ _ _ _ _ (F0 _ _ _ (.null :: [.ref (ad a0)]))
                      obtain ⟨z70, h70, h⟩ := ob_some h
                      refine k_v (va_runV (As := [.null]) (rest := []) ⟨hx, hb, hml, hown, hts⟩ (c_X2_readTeller (l := l) z46 a0 none k0 (fun b hb => nomatch hb) h70) (cwV 1 hts gX2_readLine_X2_readTeller rfl rfl rfl hdV_X2_readTeller ⟨Nat.le_of_ble_eq_true rfl, Nat.le_of_ble_eq_true rfl⟩) (pV (T := TX2) hP hK hD hT hG hS k0 (by decide) rfl) rfl rfl hl.1 rfl (lv_room (Nat.le_of_ble_eq_true rfl)) dX2_readLine_196 ⟨Nat.zero_le _, Nat.zero_le _⟩) hS (fun H locs hP hD hT hS => ?_)
                      refine lv_goto (tgt := 244) hx hb dX2_readLine_199 rfl ?_
                      exact r_vret hx hb hr hlocks hP hK hD hT hG hS (Option.some.inj h) dX2_readLine_244
                    · replace h := oc_s hN69 h
                      have kb69 := hq69 _ hN69
                      show W _ _ _ _ _ _ _ _ _ _ _ _ _ _ _ (F0 _ _ _ (.ref (ad b69) :: [.ref (ad a0)]))
                      obtain ⟨z71, h71, h⟩ := ob_some h
                      refine k_v (va_runV (As := [.ref (ad b69)]) (rest := []) ⟨hx, hb, hml, hown, hts⟩ (c_X2_readTeller (l := l) z46 a0 (some b69) k0 (fun b hb => by cases hb; exact kb69) h71) (cwV 1 hts gX2_readLine_X2_readTeller rfl rfl rfl hdV_X2_readTeller ⟨Nat.le_of_ble_eq_true rfl, Nat.le_of_ble_eq_true rfl⟩) (pV (T := TX2) hP hK hD hT hG hS k0 (by decide) rfl) rfl rfl hl.1 rfl (lv_room (Nat.le_of_ble_eq_true rfl)) dX2_readLine_196 ⟨Nat.zero_le _, Nat.zero_le _⟩) hS (fun H locs hP hD hT hS => ?_)
                      refine lv_goto (tgt := 244) hx hb dX2_readLine_199 rfl ?_
                      exact r_vret hx hb hr hlocks hP hK hD hT hG hS (Option.some.inj h) dX2_readLine_244
                  · replace h := ite_f c47_5 h
                    by_cases c47_6 : z2 = 6
                    · replace h := ite_t c47_6 h
                      refine lv_tableIn (tgt := 202) (off := 134) hx hb dX2_readLine_68 (by rw [c47_6]; decide) (by rw [c47_6]; decide) (by rw [c47_6]; decide) rfl ?_
                      refine lv_aload_n hx hb dX2_readLine_202 rfl (lv_at hl 2 rfl) ?_
                      refine lv_aload_n hx hb dX2_readLine_203 rfl (lv_at hl 3 rfl) ?_
                      refine lv_iload_n hx hb dX2_readLine_204 rfl (lv_at hl 0 rfl) ?_
                      obtain ⟨z72, h72, h⟩ := ob_some h
                      refine k_q (va_runV (As := [.int z4.1]) (rest := [.ref (ad a0)]) ⟨hx, hb, hml, hown, hts⟩ (c_X0_thingAt (l := l) z46 a1 z4.1 k1 h72) (cwV 1 hts gX2_readLine_X0_thingAt rfl rfl rfl hdV_X0_thingAt ⟨Nat.le_of_ble_eq_true rfl, Nat.le_of_ble_eq_true rfl⟩) (pV (T := TX0) hP hK hD hT hG hS k1 (by decide) rfl) rfl rfl hl.1 rfl (lv_room (Nat.le_of_ble_eq_true rfl)) dX2_readLine_205 ⟨Nat.zero_le _, Nat.zero_le _⟩) hS (fun H locs hq72 hP hD hT hS => ?_)
                      rcases hN72 : z72 with _ | b72
                      · replace h := oc_n hN72 h
                        show W _ _ _ _ _ _ _ _ _ _ _ _ _ _ _ (F0 _ _ _ (.null :: [.ref (ad a0)]))
                        obtain ⟨z73, h73, h⟩ := ob_some h
                        refine k_v (va_runV (As := [.null]) (rest := []) ⟨hx, hb, hml, hown, hts⟩ (c_X2_readMeasures (l := l) z46 a0 none k0 (fun b hb => nomatch hb) h73) (cwV 1 hts gX2_readLine_X2_readMeasures rfl rfl rfl hdV_X2_readMeasures ⟨Nat.le_of_ble_eq_true rfl, Nat.le_of_ble_eq_true rfl⟩) (pV (T := TX2) hP hK hD hT hG hS k0 (by decide) rfl) rfl rfl hl.1 rfl (lv_room (Nat.le_of_ble_eq_true rfl)) dX2_readLine_208 ⟨Nat.zero_le _, Nat.zero_le _⟩) hS (fun H locs hP hD hT hS => ?_)
                        refine lv_aload_n hx hb dX2_readLine_211 rfl (lv_at hl 2 rfl) ?_
                        refine lv_aload_n hx hb dX2_readLine_212 rfl (lv_at hl 3 rfl) ?_
                        refine lv_iload_n hx hb dX2_readLine_213 rfl (lv_at hl 0 rfl) ?_
                        obtain ⟨z74, h74, h⟩ := ob_some h
                        refine k_q (va_runV (As := [.int z4.1]) (rest := [.ref (ad a0)]) ⟨hx, hb, hml, hown, hts⟩ (c_X0_thingAt (l := l) z73 a1 z4.1 k1 h74) (cwV 1 hts gX2_readLine_X0_thingAt rfl rfl rfl hdV_X0_thingAt ⟨Nat.le_of_ble_eq_true rfl, Nat.le_of_ble_eq_true rfl⟩) (pV (T := TX0) hP hK hD hT hG hS k1 (by decide) rfl) rfl rfl hl.1 rfl (lv_room (Nat.le_of_ble_eq_true rfl)) dX2_readLine_214 ⟨Nat.zero_le _, Nat.zero_le _⟩) hS (fun H locs hq74 hP hD hT hS => ?_)
                        rcases hN74 : z74 with _ | b74
                        · replace h := oc_n hN74 h
                          show W _ _ _ _ _ _ _ _ _ _ _ _ _ _ _ (F0 _ _ _ (.null :: [.ref (ad a0)]))
                          obtain ⟨z75, h75, h⟩ := ob_some h
                          refine k_v (va_runV (As := [.null]) (rest := []) ⟨hx, hb, hml, hown, hts⟩ (c_X2_readGround (l := l) z73 a0 none k0 (fun b hb => nomatch hb) h75) (cwV 1 hts gX2_readLine_X2_readGround rfl rfl rfl hdV_X2_readGround ⟨Nat.le_of_ble_eq_true rfl, Nat.le_of_ble_eq_true rfl⟩) (pV (T := TX2) hP hK hD hT hG hS k0 (by decide) rfl) rfl rfl hl.1 rfl (lv_room (Nat.le_of_ble_eq_true rfl)) dX2_readLine_217 ⟨Nat.zero_le _, Nat.zero_le _⟩) hS (fun H locs hP hD hT hS => ?_)
                          refine lv_goto (tgt := 244) hx hb dX2_readLine_220 rfl ?_
                          exact r_vret hx hb hr hlocks hP hK hD hT hG hS (Option.some.inj h) dX2_readLine_244
                        · replace h := oc_s hN74 h
                          have kb74 := hq74 _ hN74
                          show W _ _ _ _ _ _ _ _ _ _ _ _ _ _ _ (F0 _ _ _ (.ref (ad b74) :: [.ref (ad a0)]))
                          obtain ⟨z76, h76, h⟩ := ob_some h
                          refine k_v (va_runV (As := [.ref (ad b74)]) (rest := []) ⟨hx, hb, hml, hown, hts⟩ (c_X2_readGround (l := l) z73 a0 (some b74) k0 (fun b hb => by cases hb; exact kb74) h76) (cwV 1 hts gX2_readLine_X2_readGround rfl rfl rfl hdV_X2_readGround ⟨Nat.le_of_ble_eq_true rfl, Nat.le_of_ble_eq_true rfl⟩) (pV (T := TX2) hP hK hD hT hG hS k0 (by decide) rfl) rfl rfl hl.1 rfl (lv_room (Nat.le_of_ble_eq_true rfl)) dX2_readLine_217 ⟨Nat.zero_le _, Nat.zero_le _⟩) hS (fun H locs hP hD hT hS => ?_)
                          refine lv_goto (tgt := 244) hx hb dX2_readLine_220 rfl ?_
                          exact r_vret hx hb hr hlocks hP hK hD hT hG hS (Option.some.inj h) dX2_readLine_244
                      · replace h := oc_s hN72 h
                        have kb72 := hq72 _ hN72
                        show W _ _ _ _ _ _ _ _ _ _ _ _ _ _ _ (F0 _ _ _ (.ref (ad b72) :: [.ref (ad a0)]))
                        obtain ⟨z77, h77, h⟩ := ob_some h
                        refine k_v (va_runV (As := [.ref (ad b72)]) (rest := []) ⟨hx, hb, hml, hown, hts⟩ (c_X2_readMeasures (l := l) z46 a0 (some b72) k0 (fun b hb => by cases hb; exact kb72) h77) (cwV 1 hts gX2_readLine_X2_readMeasures rfl rfl rfl hdV_X2_readMeasures ⟨Nat.le_of_ble_eq_true rfl, Nat.le_of_ble_eq_true rfl⟩) (pV (T := TX2) hP hK hD hT hG hS k0 (by decide) rfl) rfl rfl hl.1 rfl (lv_room (Nat.le_of_ble_eq_true rfl)) dX2_readLine_208 ⟨Nat.zero_le _, Nat.zero_le _⟩) hS (fun H locs hP hD hT hS => ?_)
                        refine lv_aload_n hx hb dX2_readLine_211 rfl (lv_at hl 2 rfl) ?_
                        refine lv_aload_n hx hb dX2_readLine_212 rfl (lv_at hl 3 rfl) ?_
                        refine lv_iload_n hx hb dX2_readLine_213 rfl (lv_at hl 0 rfl) ?_
                        obtain ⟨z78, h78, h⟩ := ob_some h
                        refine k_q (va_runV (As := [.int z4.1]) (rest := [.ref (ad a0)]) ⟨hx, hb, hml, hown, hts⟩ (c_X0_thingAt (l := l) z77 a1 z4.1 k1 h78) (cwV 1 hts gX2_readLine_X0_thingAt rfl rfl rfl hdV_X0_thingAt ⟨Nat.le_of_ble_eq_true rfl, Nat.le_of_ble_eq_true rfl⟩) (pV (T := TX0) hP hK hD hT hG hS k1 (by decide) rfl) rfl rfl hl.1 rfl (lv_room (Nat.le_of_ble_eq_true rfl)) dX2_readLine_214 ⟨Nat.zero_le _, Nat.zero_le _⟩) hS (fun H locs hq78 hP hD hT hS => ?_)
                        rcases hN78 : z78 with _ | b78
                        · replace h := oc_n hN78 h
                          show W _ _ _ _ _ _ _ _ _ _ _ _ _ _ _ (F0 _ _ _ (.null :: [.ref (ad a0)]))
                          obtain ⟨z79, h79, h⟩ := ob_some h
                          refine k_v (va_runV (As := [.null]) (rest := []) ⟨hx, hb, hml, hown, hts⟩ (c_X2_readGround (l := l) z77 a0 none k0 (fun b hb => nomatch hb) h79) (cwV 1 hts gX2_readLine_X2_readGround rfl rfl rfl hdV_X2_readGround ⟨Nat.le_of_ble_eq_true rfl, Nat.le_of_ble_eq_true rfl⟩) (pV (T := TX2) hP hK hD hT hG hS k0 (by decide) rfl) rfl rfl hl.1 rfl (lv_room (Nat.le_of_ble_eq_true rfl)) dX2_readLine_217 ⟨Nat.zero_le _, Nat.zero_le _⟩) hS (fun H locs hP hD hT hS => ?_)
                          refine lv_goto (tgt := 244) hx hb dX2_readLine_220 rfl ?_
                          exact r_vret hx hb hr hlocks hP hK hD hT hG hS (Option.some.inj h) dX2_readLine_244
                        · replace h := oc_s hN78 h
                          have kb78 := hq78 _ hN78
                          show W _ _ _ _ _ _ _ _ _ _ _ _ _ _ _ (F0 _ _ _ (.ref (ad b78) :: [.ref (ad a0)]))
                          obtain ⟨z80, h80, h⟩ := ob_some h
                          refine k_v (va_runV (As := [.ref (ad b78)]) (rest := []) ⟨hx, hb, hml, hown, hts⟩ (c_X2_readGround (l := l) z77 a0 (some b78) k0 (fun b hb => by cases hb; exact kb78) h80) (cwV 1 hts gX2_readLine_X2_readGround rfl rfl rfl hdV_X2_readGround ⟨Nat.le_of_ble_eq_true rfl, Nat.le_of_ble_eq_true rfl⟩) (pV (T := TX2) hP hK hD hT hG hS k0 (by decide) rfl) rfl rfl hl.1 rfl (lv_room (Nat.le_of_ble_eq_true rfl)) dX2_readLine_217 ⟨Nat.zero_le _, Nat.zero_le _⟩) hS (fun H locs hP hD hT hS => ?_)
                          refine lv_goto (tgt := 244) hx hb dX2_readLine_220 rfl ?_
                          exact r_vret hx hb hr hlocks hP hK hD hT hG hS (Option.some.inj h) dX2_readLine_244
                    · replace h := ite_f c47_6 h
                      by_cases c47_7 : z2 = 7
                      · replace h := ite_t c47_7 h
                        refine lv_tableIn (tgt := 223) (off := 155) hx hb dX2_readLine_68 (by rw [c47_7]; decide) (by rw [c47_7]; decide) (by rw [c47_7]; decide) rfl ?_
                        refine lv_aload_n hx hb dX2_readLine_223 rfl (lv_at hl 2 rfl) ?_
                        refine lv_aload_n hx hb dX2_readLine_224 rfl (lv_at hl 3 rfl) ?_
                        obtain ⟨z81, h81, h⟩ := ob_some h
                        refine k_v (va_runV (As := [.ref (ad a1)]) (rest := []) ⟨hx, hb, hml, hown, hts⟩ (c_X2_readLand (l := l) z46 a0 a1 k0 k1 h81) (cwV 1 hts gX2_readLine_X2_readLand rfl rfl rfl hdV_X2_readLand ⟨Nat.le_of_ble_eq_true rfl, Nat.le_of_ble_eq_true rfl⟩) (pV (T := TX2) hP hK hD hT hG hS k0 (by decide) rfl) rfl rfl hl.1 rfl (lv_room (Nat.le_of_ble_eq_true rfl)) dX2_readLine_225 ⟨Nat.zero_le _, Nat.zero_le _⟩) hS (fun H locs hP hD hT hS => ?_)
                        refine lv_goto (tgt := 244) hx hb dX2_readLine_228 rfl ?_
                        exact r_vret hx hb hr hlocks hP hK hD hT hG hS (Option.some.inj h) dX2_readLine_244
                      · replace h := ite_f c47_7 h
                        by_cases c47_8 : z2 = 8
                        · replace h := ite_t c47_8 h
                          refine lv_tableIn (tgt := 231) (off := 163) hx hb dX2_readLine_68 (by rw [c47_8]; decide) (by rw [c47_8]; decide) (by rw [c47_8]; decide) rfl ?_
                          refine lv_aload_n hx hb dX2_readLine_231 rfl (lv_at hl 2 rfl) ?_
                          refine lv_aload_n hx hb dX2_readLine_232 rfl (lv_at hl 3 rfl) ?_
                          obtain ⟨z82, h82, h⟩ := ob_some h
                          refine k_v (va_runV (As := [.ref (ad a1)]) (rest := []) ⟨hx, hb, hml, hown, hts⟩ (c_X2_readFields (l := l) z46 a0 a1 k0 k1 h82) (cwV 1 hts gX2_readLine_X2_readFields rfl rfl rfl hdV_X2_readFields ⟨Nat.le_of_ble_eq_true rfl, Nat.le_of_ble_eq_true rfl⟩) (pV (T := TX2) hP hK hD hT hG hS k0 (by decide) rfl) rfl rfl hl.1 rfl (lv_room (Nat.le_of_ble_eq_true rfl)) dX2_readLine_233 ⟨Nat.zero_le _, Nat.zero_le _⟩) hS (fun H locs hP hD hT hS => ?_)
                          refine lv_goto (tgt := 244) hx hb dX2_readLine_236 rfl ?_
                          exact r_vret hx hb hr hlocks hP hK hD hT hG hS (Option.some.inj h) dX2_readLine_244
                        · replace h := ite_f c47_8 h
                          refine lv_tableOut (tgt := 239) hx hb dX2_readLine_68 (by
                              have e0 := lv_neT (a := 0) c47_0 rfl
                              have e1 := lv_neT (a := 1) c47_1 rfl
                              have e2 := lv_neT (a := 2) c47_2 rfl
                              have e3 := lv_neT (a := 3) c47_3 rfl
                              have e4 := lv_neT (a := 4) c47_4 rfl
                              have e5 := lv_neT (a := 5) c47_5 rfl
                              have e6 := lv_neT (a := 6) c47_6 rfl
                              have e7 := lv_neT (a := 7) c47_7 rfl
                              have e8 := lv_neT (a := 8) c47_8 rfl
                              omega) rfl ?_
                          refine lv_aload_n hx hb dX2_readLine_239 rfl (lv_at hl 2 rfl) ?_
                          refine lv_aload_n hx hb dX2_readLine_240 rfl (lv_at hl 3 rfl) ?_
                          obtain ⟨z83, h83, h⟩ := ob_some h
                          refine k_v (va_runV (As := [.ref (ad a1)]) (rest := []) ⟨hx, hb, hml, hown, hts⟩ (c_X2_readHouses (l := l) z46 a0 a1 k0 k1 h83) (cwV 1 hts gX2_readLine_X2_readHouses rfl rfl rfl hdV_X2_readHouses ⟨Nat.le_of_ble_eq_true rfl, Nat.le_of_ble_eq_true rfl⟩) (pV (T := TX2) hP hK hD hT hG hS k0 (by decide) rfl) rfl rfl hl.1 rfl (lv_room (Nat.le_of_ble_eq_true rfl)) dX2_readLine_241 ⟨Nat.zero_le _, Nat.zero_le _⟩) hS (fun H locs hP hD hT hS => ?_)
                          exact r_vret hx hb hr hlocks hP hK hD hT hG hS (Option.some.inj h) dX2_readLine_244
    · replace h := ite_t c5 h
      refine lv_aload_n hx hb dX2_readLine_32 rfl (lv_at hl 2 rfl) ?_
      refine lv_iload_n hx hb dX2_readLine_33 rfl (lv_at hl 1 rfl) ?_
      refine lv_bipush (v := 7) hx hb dX2_readLine_34 rfl ?_
      refine lv_icmp_lt (tgt := 43) hx hb dX2_readLine_36 rfl (fun c84 => ?_) (fun c84 => ?_)
      · replace h := ite_t c84 h
        refine lv_iconst (v := 5) hx hb dX2_readLine_43 rfl ?_
        obtain ⟨z85, h85, h⟩ := ob_some h
        refine k_v (va_runV (As := [.int 5]) (rest := []) ⟨hx, hb, hml, hown, hts⟩ (c_X2_fail (l := l) z4.2 a0 5 k0 h85) (cwV 1 hts gX2_readLine_X2_fail rfl rfl rfl hdV_X2_fail ⟨Nat.le_of_ble_eq_true rfl, Nat.le_of_ble_eq_true rfl⟩) (pV (T := TX2) hP hK hD hT hG hS k0 (by decide) rfl) rfl rfl hl.1 rfl (lv_room (Nat.le_of_ble_eq_true rfl)) dX2_readLine_44 ⟨Nat.zero_le _, Nat.zero_le _⟩) hS (fun H locs hP hD hT hS => ?_)
        exact r_vret hx hb hr hlocks hP hK hD hT hG hS (Option.some.inj h) dX2_readLine_47
      · replace h := ite_f c84 h
        refine lv_iconst (v := 3) hx hb dX2_readLine_39 rfl ?_
        refine lv_goto (tgt := 44) hx hb dX2_readLine_40 rfl ?_
        obtain ⟨z86, h86, h⟩ := ob_some h
        refine k_v (va_runV (As := [.int 3]) (rest := []) ⟨hx, hb, hml, hown, hts⟩ (c_X2_fail (l := l) z4.2 a0 3 k0 h86) (cwV 1 hts gX2_readLine_X2_fail rfl rfl rfl hdV_X2_fail ⟨Nat.le_of_ble_eq_true rfl, Nat.le_of_ble_eq_true rfl⟩) (pV (T := TX2) hP hK hD hT hG hS k0 (by decide) rfl) rfl rfl hl.1 rfl (lv_room (Nat.le_of_ble_eq_true rfl)) dX2_readLine_44 ⟨Nat.zero_le _, Nat.zero_le _⟩) hS (fun H locs hP hD hT hS => ?_)
        exact r_vret hx hb hr hlocks hP hK hD hT hG hS (Option.some.inj h) dX2_readLine_47
  · replace h := ite_t c3 h
    refine lv_aload_n hx hb dX2_readLine_15 rfl (lv_at hl 1 rfl) ?_
    refine lv_iconst (v := 1) hx hb dX2_readLine_16 rfl ?_
    obtain ⟨z87, h87, h⟩ := ob_some h
    refine k_v (va_runV (As := [.int 1]) (rest := []) ⟨hx, hb, hml, hown, hts⟩ (c_X2_fail (l := l) M a0 1 k0 h87) (cwV 1 hts gX2_readLine_X2_fail rfl rfl rfl hdV_X2_fail ⟨Nat.le_of_ble_eq_true rfl, Nat.le_of_ble_eq_true rfl⟩) (pV (T := TX2) hP hK hD hT hG hS k0 (by decide) rfl) rfl rfl hl.1 rfl (lv_room (Nat.le_of_ble_eq_true rfl)) dX2_readLine_17 ⟨Nat.zero_le _, Nat.zero_le _⟩) hS (fun H locs hP hD hT hS => ?_)
    exact r_vret hx hb hr hlocks hP hK hD hT hG hS (Option.some.inj h) dX2_readLine_20
set_option maxHeartbeats 4000000 in
set_option maxRecDepth 100000 in
theorem c_X2_readIsland {l : Launch} {D : va_G} {ad : Nat → Nat} {cy : Nat → ClassId} {A : Nat → Prop} {g : CG} {q : SE} (M : MM) (a0 : Nat) (x1 : Int32) (a2 : Nat) (k0 : ok g a0 2 0) (k2 : ok g a2 0 0) {Z : (Int32 × MM)} (h : f_X2_readIsland M a0 x1 a2 = some Z) : Met l yX2_readIsland wsX2_readIsland ({ frames := 9, cells := 0, slots := 0, locals := 201 }) (va_Pc [.ref (ad a0), .int x1, .ref (ad a2)] (Wd D ad cy A g q M)) (va_Qi (fun r u => r = Z.1 ∧ u = Z.2 ∧ zb r) (Wd D ad cy A g q) A) 0 0 A := by
  refine Met.ofW (cc := cX2_readIsland) (maxL := 5) (ret := (some .boolean)) (by decide) rfl ?_
  intro p e s m args below meth c s₁ B hml hv
  obtain ⟨rfl, hP, hK, hD, hT, hG⟩ := hv
  have hx := B.exec
  have hb := B.bytes
  have hr := B.returns
  have hts := atoms_spec (ws := wsX2_readIsland) B.pre
  have hown : s.vm.findClass RX2 = some m.cls := findClass_of_methodNamed B.named
  have hlocks := B.notSynchronized
  have in2 : ∀ w ∈ u_ws RX2 TX2 7, w ∈ wsX2_readIsland := fun w h => List.mem_cons_of_mem _ (List.mem_append_left _ (List.mem_append_left _ (List.mem_append_left _ (List.mem_append_left _ (List.mem_append_left _ (List.mem_append_left _ (List.mem_append_left _ (List.mem_append_left _ (List.mem_append_right _ h)))))))))
  have in7 : ∀ w ∈ u_ws RX7 TX7 7, w ∈ wsX2_readIsland := fun w h => List.mem_cons_of_mem _ (List.mem_append_left _ (List.mem_append_left _ (List.mem_append_left _ (List.mem_append_left _ (List.mem_append_left _ (List.mem_append_left _ (List.mem_append_left _ (List.mem_append_right _ h))))))))
  have hS : va_S A s.heap s.heap [] := va_S.rf
  have hl := lv_entry ([.ref (ad a0), .int x1, .ref (ad a2)]) (n := 5) (Nat.le_of_ble_eq_true rfl)
  rw [lg_entry_eq]
  generalize (lg_sl ([.ref (ad a0), .int x1, .ref (ad a2)]) ++ List.replicate (5 - (lg_sl ([.ref (ad a0), .int x1, .ref (ad a2)])).length) Slot.unset).toArray = ls at hl ⊢
  have hl : lv_has ls 5 [(0, .ref (ad a0)), (1, .int x1), (2, .ref (ad a2))] := hl
  unfold f_X2_readIsland at h
  refine lv_aload_n hx hb dX2_readIsland_0 rfl (lv_at hl 0 rfl) ?_
  refine lv_iconst (v := 0) hx hb dX2_readIsland_1 rfl ?_
  refine r_putI (T := TX2) (ty := .int) (v := 0) hx hb hts in2 tyX2 tyX2_ok nmX2 hown hK hP hD hT hS k0 (by decide) rfl 5 (by decide) (hts (.fieldLink RX2 26 "StoneWalk$Reader" "fault" "I") (List.mem_of_getElem? (i := 1) (by decide +kernel))) rfl rfl (tyX2_ok 5 (by decide)) rfl rfl rfl dX2_readIsland_2 (fun H locs hP hD hT hS => ?_)
  refine lv_aload_n hx hb dX2_readIsland_5 rfl (lv_at hl 0 rfl) ?_
  refine lv_iconst (v := (-1)) hx hb dX2_readIsland_6 rfl ?_
  refine r_putI (T := TX2) (ty := .int) (v := (-1)) hx hb hts in2 tyX2 tyX2_ok nmX2 hown hK hP hD hT hS k0 (by decide) rfl 6 (by decide) (hts (.fieldLink RX2 30 "StoneWalk$Reader" "place" "I") (List.mem_of_getElem? (i := 2) (by decide +kernel))) rfl rfl (tyX2_ok 6 (by decide)) rfl rfl rfl dX2_readIsland_7 (fun H locs hP hD hT hS => ?_)
  refine lv_aload_n hx hb dX2_readIsland_10 rfl (lv_at hl 0 rfl) ?_
  refine lv_iconst (v := 0) hx hb dX2_readIsland_11 rfl ?_
  refine r_putI (T := TX2) (ty := .int) (v := 0) hx hb hts in2 tyX2 tyX2_ok nmX2 hown hK hP hD hT hS k0 (by decide) rfl 4 (by decide) (hts (.fieldLink RX2 33 "StoneWalk$Reader" "told" "I") (List.mem_of_getElem? (i := 3) (by decide +kernel))) rfl rfl (tyX2_ok 4 (by decide)) rfl rfl rfl dX2_readIsland_12 (fun H locs hP hD hT hS => ?_)
  refine lv_aload_n hx hb dX2_readIsland_15 rfl (lv_at hl 2 rfl) ?_
  obtain ⟨z1, h1, h⟩ := ob_some h
  refine k_v (va_runV (As := []) (rest := []) ⟨hx, hb, hml, hown, hts⟩ (c_X0_clear (l := l) (pI (pI (pI M a0 5 0) a0 6 (-1)) a0 4 0) a2 k2 h1) (cwV 0 hts gX2_readIsland_X0_clear rfl rfl rfl hdV_X0_clear ⟨Nat.le_of_ble_eq_true rfl, Nat.le_of_ble_eq_true rfl⟩) (pV (T := TX0) hP hK hD hT hG hS k2 (by decide) rfl) rfl rfl hl.1 rfl (lv_room (Nat.le_of_ble_eq_true rfl)) dX2_readIsland_16 ⟨Nat.zero_le _, Nat.zero_le _⟩) hS (fun H locs hP hD hT hS => ?_)
  refine lv_aload_n hx hb dX2_readIsland_19 rfl (lv_at hl 0 rfl) ?_
  rcases hN2 : gR z1 a0 0 with _ | b2
  · exact absurd (oc_n hN2 h) (by simp)
  replace h := oc_s hN2 h
  have kb2 := hT.f k0 (k := 0) (t := 7) (n := 0) rfl hN2
  refine r_get (T := TX2) (v := .ref (ad b2)) hx hb hts in2 hown hK hP k0 (by decide) rfl 0 (by decide) (hts (.fieldLink RX2 22 "StoneWalk$Reader" "tape" "LStoneWalk$Tape;") (List.mem_of_getElem? (i := 4) (by decide +kernel))) rfl (t := 2) rfl (by show va_rf _ = _; rw [hN2]; rfl) dX2_readIsland_20 ?_
  refine lv_iload_n hx hb dX2_readIsland_23 rfl (lv_at hl 1 rfl) ?_
  obtain ⟨z3, h3, h⟩ := ob_some h
  refine k_v (va_runV (As := [.int x1]) (rest := []) ⟨hx, hb, hml, hown, hts⟩ (c_X7_begin (l := l) z1 b2 x1 kb2 h3) (cwV 1 hts gX2_readIsland_X7_begin rfl rfl rfl hdV_X7_begin ⟨Nat.le_of_ble_eq_true rfl, Nat.le_of_ble_eq_true rfl⟩) (pV (T := TX7) hP hK hD hT hG hS kb2 (by decide) rfl) rfl rfl hl.1 rfl (lv_room (Nat.le_of_ble_eq_true rfl)) dX2_readIsland_24 ⟨Nat.zero_le _, Nat.zero_le _⟩) hS (fun H locs hP hD hT hS => ?_)
  refine lv_iconst (v := 1) hx hb dX2_readIsland_27 rfl ?_
  refine lv_istore_n (lv' := [(3, .int 1), (0, .ref (ad a0)), (1, .int x1), (2, .ref (ad a2))]) hx hb dX2_readIsland_28 rfl hl (by decide) rfl (fun ls hl => ?_)
  refine lv_iconst (v := 0) hx hb dX2_readIsland_29 rfl ?_
  refine lv_istore (lv' := [(4, .int 0), (3, .int 1), (0, .ref (ad a0)), (1, .int x1), (2, .ref (ad a2))]) hx hb dX2_readIsland_30 hl (by decide) rfl (fun ls hl => ?_)
  have L4 : ∀ n4 : Nat, ∀ (M4 : MM) (y4_0 : Nat) (y4_1 : Int32) (y4_2 : Nat) (y4_3 : Int32) (y4_4 : Int32) (ky4_0 : ok g y4_0 2 0) (ky4_2 : ok g y4_2 0 0) (H : Heap) (locs : List Loc), f_X2_readIsland_L32 n4 M4 y4_0 y4_1 y4_2 y4_3 y4_4 = some Z → va_P D vwCl (wd ad cy g M4) H → va_D A (wd ad cy g M4) → WT g M4 → va_S A s.heap H locs → ∀ (ls : Array Slot), lv_has ls 5 [(0, .ref (ad y4_0)), (1, .int y4_1), (2, .ref (ad y4_2)), (3, .int y4_3), (4, .int y4_4)] → W p l e ((headSpec wsX2_readIsland ({ frames := 9, cells := 0, slots := 0, locals := 201 })).room) s m (([.ref (ad a0), .int x1, .ref (ad a2)] : List Value).toArray) below meth c H locs 0 0 (MQ below (va_Qi (fun r u => r = Z.1 ∧ u = Z.2 ∧ zb r) (Wd D ad cy A g q) A) ([.ref (ad a0), .int x1, .ref (ad a2)]).toArray s 0 0 A) (F0 m 32 ls []) := by
    intro n4
    induction n4 with
    | zero => intro M4 y4_0 y4_1 y4_2 y4_3 y4_4 ky4_0 ky4_2 H locs h; exact absurd h (by simp [f_X2_readIsland_L32])
    | succ n4 ih4 =>
      intro M4 y4_0 y4_1 y4_2 y4_3 y4_4 ky4_0 ky4_2 H locs h hP hD hT hS ls hl
      rw [f_X2_readIsland_L32] at h
      refine lv_iload hx hb dX2_readIsland_32 (lv_at hl 4 rfl) ?_
      refine lv_iload_n hx hb dX2_readIsland_34 rfl (lv_at hl 1 rfl) ?_
      refine lv_icmp_gt (tgt := 75) hx hb dX2_readIsland_35 rfl (fun c5 => ?_) (fun c5 => ?_)
      · replace h := ite_t c5 h
        refine lv_aload_n hx hb dX2_readIsland_75 rfl (lv_at hl 0 rfl) ?_
        rcases hN6 : gR M4 y4_0 0 with _ | b6
        · exact absurd (oc_n hN6 h) (by simp)
        replace h := oc_s hN6 h
        have kb6 := hT.f ky4_0 (k := 0) (t := 7) (n := 0) rfl hN6
        refine r_get (T := TX2) (v := .ref (ad b6)) hx hb hts in2 hown hK hP ky4_0 (by decide) rfl 0 (by decide) (hts (.fieldLink RX2 22 "StoneWalk$Reader" "tape" "LStoneWalk$Tape;") (List.mem_of_getElem? (i := 4) (by decide +kernel))) rfl (t := 2) rfl (by show va_rf _ = _; rw [hN6]; rfl) dX2_readIsland_76 ?_
        refine r_get (T := TX7) (v := .int (gI M4 b6 4)) hx hb hts in7 hown hK hP kb6 (by decide) rfl 4 (by decide) (hts (.fieldLink RX2 55 "StoneWalk$Tape" "type" "I") (List.mem_of_getElem? (i := 5) (by decide +kernel))) rfl (t := 0) rfl rfl dX2_readIsland_79 ?_
        refine lv_iconst (v := 4) hx hb dX2_readIsland_82 rfl ?_
        refine lv_icmp_eq (tgt := 94) hx hb dX2_readIsland_83 rfl (fun c7 => ?_) (fun c7 => ?_)
        · replace h := ite_t c7 h
          refine lv_aload_n hx hb dX2_readIsland_94 rfl (lv_at hl 2 rfl) ?_
          obtain ⟨z8, h8, h⟩ := ob_some h
          refine k_z (va_runV (As := []) (rest := []) ⟨hx, hb, hml, hown, hts⟩ (c_X0_lacksAny (l := l) M4 y4_2 ky4_2 h8) (cwV 0 hts gX2_readIsland_X0_lacksAny rfl rfl rfl hdV_X0_lacksAny ⟨Nat.le_of_ble_eq_true rfl, Nat.le_of_ble_eq_true rfl⟩) (pV (T := TX0) hP hK hD hT hG hS ky4_2 (by decide) rfl) rfl rfl hl.1 rfl (lv_room (Nat.le_of_ble_eq_true rfl)) dX2_readIsland_95 ⟨Nat.zero_le _, Nat.zero_le _⟩) hS (fun H locs hz8 hP hD hT hS => ?_)
          refine lv_if_eq (tgt := 107) hx hb dX2_readIsland_98 rfl (fun c9 => ?_) (fun c9 => ?_)
          · replace h := ite_t c9 h
            refine lv_aload_n hx hb dX2_readIsland_107 rfl (lv_at hl 0 rfl) ?_
            refine r_get (T := TX2) (v := .int (gI M4 y4_0 5)) hx hb hts in2 hown hK hP ky4_0 (by decide) rfl 5 (by decide) (hts (.fieldLink RX2 26 "StoneWalk$Reader" "fault" "I") (List.mem_of_getElem? (i := 1) (by decide +kernel))) rfl (t := 0) rfl rfl dX2_readIsland_108 ?_
            refine lv_if_ne (tgt := 118) hx hb dX2_readIsland_111 rfl (fun c10 => ?_) (fun c10 => ?_)
            · replace h := ite_f c10 h
              refine lv_iconst (v := 0) hx hb dX2_readIsland_118 rfl ?_
              have hZ := Option.some.inj h
              have hZ1 := congrArg Prod.fst hZ
              have hZ2 := congrArg Prod.snd hZ
              exact r_zret hx hb hr hlocks hP hK hD hT hG hS zb_0 hZ1 hZ2 dX2_readIsland_119
            · replace h := ite_t c10 h
              refine lv_iconst (v := 1) hx hb dX2_readIsland_114 rfl ?_
              refine lv_goto (tgt := 119) hx hb dX2_readIsland_115 rfl ?_
              have hZ := Option.some.inj h
              have hZ1 := congrArg Prod.fst hZ
              have hZ2 := congrArg Prod.snd hZ
              exact r_zret hx hb hr hlocks hP hK hD hT hG hS zb_1 hZ1 hZ2 dX2_readIsland_119
          · replace h := ite_f c9 h
            refine lv_aload_n hx hb dX2_readIsland_101 rfl (lv_at hl 0 rfl) ?_
            refine lv_bipush (v := 6) hx hb dX2_readIsland_102 rfl ?_
            obtain ⟨z11, h11, h⟩ := ob_some h
            refine k_v (va_runV (As := [.int 6]) (rest := []) ⟨hx, hb, hml, hown, hts⟩ (c_X2_fail (l := l) M4 y4_0 6 ky4_0 h11) (cwV 1 hts gX2_readIsland_X2_fail rfl rfl rfl hdV_X2_fail ⟨Nat.le_of_ble_eq_true rfl, Nat.le_of_ble_eq_true rfl⟩) (pV (T := TX2) hP hK hD hT hG hS ky4_0 (by decide) rfl) rfl rfl hl.1 rfl (lv_room (Nat.le_of_ble_eq_true rfl)) dX2_readIsland_104 ⟨Nat.zero_le _, Nat.zero_le _⟩) hS (fun H locs hP hD hT hS => ?_)
            refine lv_aload_n hx hb dX2_readIsland_107 rfl (lv_at hl 0 rfl) ?_
            refine r_get (T := TX2) (v := .int (gI z11 y4_0 5)) hx hb hts in2 hown hK hP ky4_0 (by decide) rfl 5 (by decide) (hts (.fieldLink RX2 26 "StoneWalk$Reader" "fault" "I") (List.mem_of_getElem? (i := 1) (by decide +kernel))) rfl (t := 0) rfl rfl dX2_readIsland_108 ?_
            refine lv_if_ne (tgt := 118) hx hb dX2_readIsland_111 rfl (fun c12 => ?_) (fun c12 => ?_)
            · replace h := ite_f c12 h
              refine lv_iconst (v := 0) hx hb dX2_readIsland_118 rfl ?_
              have hZ := Option.some.inj h
              have hZ1 := congrArg Prod.fst hZ
              have hZ2 := congrArg Prod.snd hZ
              exact r_zret hx hb hr hlocks hP hK hD hT hG hS zb_0 hZ1 hZ2 dX2_readIsland_119
            · replace h := ite_t c12 h
              refine lv_iconst (v := 1) hx hb dX2_readIsland_114 rfl ?_
              refine lv_goto (tgt := 119) hx hb dX2_readIsland_115 rfl ?_
              have hZ := Option.some.inj h
              have hZ1 := congrArg Prod.fst hZ
              have hZ2 := congrArg Prod.snd hZ
              exact r_zret hx hb hr hlocks hP hK hD hT hG hS zb_1 hZ1 hZ2 dX2_readIsland_119
        · replace h := ite_f c7 h
          refine lv_aload_n hx hb dX2_readIsland_86 rfl (lv_at hl 0 rfl) ?_
          refine lv_iconst (v := 1) hx hb dX2_readIsland_87 rfl ?_
          obtain ⟨z13, h13, h⟩ := ob_some h
          refine k_v (va_runV (As := [.int 1]) (rest := []) ⟨hx, hb, hml, hown, hts⟩ (c_X2_fail (l := l) M4 y4_0 1 ky4_0 h13) (cwV 1 hts gX2_readIsland_X2_fail rfl rfl rfl hdV_X2_fail ⟨Nat.le_of_ble_eq_true rfl, Nat.le_of_ble_eq_true rfl⟩) (pV (T := TX2) hP hK hD hT hG hS ky4_0 (by decide) rfl) rfl rfl hl.1 rfl (lv_room (Nat.le_of_ble_eq_true rfl)) dX2_readIsland_88 ⟨Nat.zero_le _, Nat.zero_le _⟩) hS (fun H locs hP hD hT hS => ?_)
          refine lv_goto (tgt := 107) hx hb dX2_readIsland_91 rfl ?_
          refine lv_aload_n hx hb dX2_readIsland_107 rfl (lv_at hl 0 rfl) ?_
          refine r_get (T := TX2) (v := .int (gI z13 y4_0 5)) hx hb hts in2 hown hK hP ky4_0 (by decide) rfl 5 (by decide) (hts (.fieldLink RX2 26 "StoneWalk$Reader" "fault" "I") (List.mem_of_getElem? (i := 1) (by decide +kernel))) rfl (t := 0) rfl rfl dX2_readIsland_108 ?_
          refine lv_if_ne (tgt := 118) hx hb dX2_readIsland_111 rfl (fun c14 => ?_) (fun c14 => ?_)
          · replace h := ite_f c14 h
            refine lv_iconst (v := 0) hx hb dX2_readIsland_118 rfl ?_
            have hZ := Option.some.inj h
            have hZ1 := congrArg Prod.fst hZ
            have hZ2 := congrArg Prod.snd hZ
            exact r_zret hx hb hr hlocks hP hK hD hT hG hS zb_0 hZ1 hZ2 dX2_readIsland_119
          · replace h := ite_t c14 h
            refine lv_iconst (v := 1) hx hb dX2_readIsland_114 rfl ?_
            refine lv_goto (tgt := 119) hx hb dX2_readIsland_115 rfl ?_
            have hZ := Option.some.inj h
            have hZ1 := congrArg Prod.fst hZ
            have hZ2 := congrArg Prod.snd hZ
            exact r_zret hx hb hr hlocks hP hK hD hT hG hS zb_1 hZ1 hZ2 dX2_readIsland_119
      · replace h := ite_f c5 h
        refine lv_iload_n hx hb dX2_readIsland_38 rfl (lv_at hl 3 rfl) ?_
        refine lv_if_eq (tgt := 75) hx hb dX2_readIsland_39 rfl (fun c15 => ?_) (fun c15 => ?_)
        · replace h := ite_t c15 h
          refine lv_aload_n hx hb dX2_readIsland_75 rfl (lv_at hl 0 rfl) ?_
          rcases hN16 : gR M4 y4_0 0 with _ | b16
          · exact absurd (oc_n hN16 h) (by simp)
          replace h := oc_s hN16 h
          have kb16 := hT.f ky4_0 (k := 0) (t := 7) (n := 0) rfl hN16
          refine r_get (T := TX2) (v := .ref (ad b16)) hx hb hts in2 hown hK hP ky4_0 (by decide) rfl 0 (by decide) (hts (.fieldLink RX2 22 "StoneWalk$Reader" "tape" "LStoneWalk$Tape;") (List.mem_of_getElem? (i := 4) (by decide +kernel))) rfl (t := 2) rfl (by show va_rf _ = _; rw [hN16]; rfl) dX2_readIsland_76 ?_
          refine r_get (T := TX7) (v := .int (gI M4 b16 4)) hx hb hts in7 hown hK hP kb16 (by decide) rfl 4 (by decide) (hts (.fieldLink RX2 55 "StoneWalk$Tape" "type" "I") (List.mem_of_getElem? (i := 5) (by decide +kernel))) rfl (t := 0) rfl rfl dX2_readIsland_79 ?_
          refine lv_iconst (v := 4) hx hb dX2_readIsland_82 rfl ?_
          refine lv_icmp_eq (tgt := 94) hx hb dX2_readIsland_83 rfl (fun c17 => ?_) (fun c17 => ?_)
          · replace h := ite_t c17 h
            refine lv_aload_n hx hb dX2_readIsland_94 rfl (lv_at hl 2 rfl) ?_
            obtain ⟨z18, h18, h⟩ := ob_some h
            refine k_z (va_runV (As := []) (rest := []) ⟨hx, hb, hml, hown, hts⟩ (c_X0_lacksAny (l := l) M4 y4_2 ky4_2 h18) (cwV 0 hts gX2_readIsland_X0_lacksAny rfl rfl rfl hdV_X0_lacksAny ⟨Nat.le_of_ble_eq_true rfl, Nat.le_of_ble_eq_true rfl⟩) (pV (T := TX0) hP hK hD hT hG hS ky4_2 (by decide) rfl) rfl rfl hl.1 rfl (lv_room (Nat.le_of_ble_eq_true rfl)) dX2_readIsland_95 ⟨Nat.zero_le _, Nat.zero_le _⟩) hS (fun H locs hz18 hP hD hT hS => ?_)
            refine lv_if_eq (tgt := 107) hx hb dX2_readIsland_98 rfl (fun c19 => ?_) (fun c19 => ?_)
            · replace h := ite_t c19 h
              refine lv_aload_n hx hb dX2_readIsland_107 rfl (lv_at hl 0 rfl) ?_
              refine r_get (T := TX2) (v := .int (gI M4 y4_0 5)) hx hb hts in2 hown hK hP ky4_0 (by decide) rfl 5 (by decide) (hts (.fieldLink RX2 26 "StoneWalk$Reader" "fault" "I") (List.mem_of_getElem? (i := 1) (by decide +kernel))) rfl (t := 0) rfl rfl dX2_readIsland_108 ?_
              refine lv_if_ne (tgt := 118) hx hb dX2_readIsland_111 rfl (fun c20 => ?_) (fun c20 => ?_)
              · replace h := ite_f c20 h
                refine lv_iconst (v := 0) hx hb dX2_readIsland_118 rfl ?_
                have hZ := Option.some.inj h
                have hZ1 := congrArg Prod.fst hZ
                have hZ2 := congrArg Prod.snd hZ
                exact r_zret hx hb hr hlocks hP hK hD hT hG hS zb_0 hZ1 hZ2 dX2_readIsland_119
              · replace h := ite_t c20 h
                refine lv_iconst (v := 1) hx hb dX2_readIsland_114 rfl ?_
                refine lv_goto (tgt := 119) hx hb dX2_readIsland_115 rfl ?_
                have hZ := Option.some.inj h
                have hZ1 := congrArg Prod.fst hZ
                have hZ2 := congrArg Prod.snd hZ
                exact r_zret hx hb hr hlocks hP hK hD hT hG hS zb_1 hZ1 hZ2 dX2_readIsland_119
            · replace h := ite_f c19 h
              refine lv_aload_n hx hb dX2_readIsland_101 rfl (lv_at hl 0 rfl) ?_
              refine lv_bipush (v := 6) hx hb dX2_readIsland_102 rfl ?_
              obtain ⟨z21, h21, h⟩ := ob_some h
              refine k_v (va_runV (As := [.int 6]) (rest := []) ⟨hx, hb, hml, hown, hts⟩ (c_X2_fail (l := l) M4 y4_0 6 ky4_0 h21) (cwV 1 hts gX2_readIsland_X2_fail rfl rfl rfl hdV_X2_fail ⟨Nat.le_of_ble_eq_true rfl, Nat.le_of_ble_eq_true rfl⟩) (pV (T := TX2) hP hK hD hT hG hS ky4_0 (by decide) rfl) rfl rfl hl.1 rfl (lv_room (Nat.le_of_ble_eq_true rfl)) dX2_readIsland_104 ⟨Nat.zero_le _, Nat.zero_le _⟩) hS (fun H locs hP hD hT hS => ?_)
              refine lv_aload_n hx hb dX2_readIsland_107 rfl (lv_at hl 0 rfl) ?_
              refine r_get (T := TX2) (v := .int (gI z21 y4_0 5)) hx hb hts in2 hown hK hP ky4_0 (by decide) rfl 5 (by decide) (hts (.fieldLink RX2 26 "StoneWalk$Reader" "fault" "I") (List.mem_of_getElem? (i := 1) (by decide +kernel))) rfl (t := 0) rfl rfl dX2_readIsland_108 ?_
              refine lv_if_ne (tgt := 118) hx hb dX2_readIsland_111 rfl (fun c22 => ?_) (fun c22 => ?_)
              · replace h := ite_f c22 h
                refine lv_iconst (v := 0) hx hb dX2_readIsland_118 rfl ?_
                have hZ := Option.some.inj h
                have hZ1 := congrArg Prod.fst hZ
                have hZ2 := congrArg Prod.snd hZ
                exact r_zret hx hb hr hlocks hP hK hD hT hG hS zb_0 hZ1 hZ2 dX2_readIsland_119
              · replace h := ite_t c22 h
                refine lv_iconst (v := 1) hx hb dX2_readIsland_114 rfl ?_
                refine lv_goto (tgt := 119) hx hb dX2_readIsland_115 rfl ?_
                have hZ := Option.some.inj h
                have hZ1 := congrArg Prod.fst hZ
                have hZ2 := congrArg Prod.snd hZ
                exact r_zret hx hb hr hlocks hP hK hD hT hG hS zb_1 hZ1 hZ2 dX2_readIsland_119
          · replace h := ite_f c17 h
            refine lv_aload_n hx hb dX2_readIsland_86 rfl (lv_at hl 0 rfl) ?_
            refine lv_iconst (v := 1) hx hb dX2_readIsland_87 rfl ?_
            obtain ⟨z23, h23, h⟩ := ob_some h
            refine k_v (va_runV (As := [.int 1]) (rest := []) ⟨hx, hb, hml, hown, hts⟩ (c_X2_fail (l := l) M4 y4_0 1 ky4_0 h23) (cwV 1 hts gX2_readIsland_X2_fail rfl rfl rfl hdV_X2_fail ⟨Nat.le_of_ble_eq_true rfl, Nat.le_of_ble_eq_true rfl⟩) (pV (T := TX2) hP hK hD hT hG hS ky4_0 (by decide) rfl) rfl rfl hl.1 rfl (lv_room (Nat.le_of_ble_eq_true rfl)) dX2_readIsland_88 ⟨Nat.zero_le _, Nat.zero_le _⟩) hS (fun H locs hP hD hT hS => ?_)
            refine lv_goto (tgt := 107) hx hb dX2_readIsland_91 rfl ?_
            refine lv_aload_n hx hb dX2_readIsland_107 rfl (lv_at hl 0 rfl) ?_
            refine r_get (T := TX2) (v := .int (gI z23 y4_0 5)) hx hb hts in2 hown hK hP ky4_0 (by decide) rfl 5 (by decide) (hts (.fieldLink RX2 26 "StoneWalk$Reader" "fault" "I") (List.mem_of_getElem? (i := 1) (by decide +kernel))) rfl (t := 0) rfl rfl dX2_readIsland_108 ?_
            refine lv_if_ne (tgt := 118) hx hb dX2_readIsland_111 rfl (fun c24 => ?_) (fun c24 => ?_)
            · replace h := ite_f c24 h
              refine lv_iconst (v := 0) hx hb dX2_readIsland_118 rfl ?_
              have hZ := Option.some.inj h
              have hZ1 := congrArg Prod.fst hZ
              have hZ2 := congrArg Prod.snd hZ
              exact r_zret hx hb hr hlocks hP hK hD hT hG hS zb_0 hZ1 hZ2 dX2_readIsland_119
            · replace h := ite_t c24 h
              refine lv_iconst (v := 1) hx hb dX2_readIsland_114 rfl ?_
              refine lv_goto (tgt := 119) hx hb dX2_readIsland_115 rfl ?_
              have hZ := Option.some.inj h
              have hZ1 := congrArg Prod.fst hZ
              have hZ2 := congrArg Prod.snd hZ
              exact r_zret hx hb hr hlocks hP hK hD hT hG hS zb_1 hZ1 hZ2 dX2_readIsland_119
        · replace h := ite_f c15 h
          refine lv_aload_n hx hb dX2_readIsland_42 rfl (lv_at hl 0 rfl) ?_
          refine lv_aload_n hx hb dX2_readIsland_43 rfl (lv_at hl 2 rfl) ?_
          obtain ⟨z25, h25, h⟩ := ob_some h
          refine k_v (va_runV (As := [.ref (ad y4_2)]) (rest := []) ⟨hx, hb, hml, hown, hts⟩ (c_X2_readLine (l := l) M4 y4_0 y4_2 ky4_0 ky4_2 h25) (cwV 1 hts gX2_readIsland_X2_readLine rfl rfl rfl hdV_X2_readLine ⟨Nat.le_of_ble_eq_true rfl, Nat.le_of_ble_eq_true rfl⟩) (pV (T := TX2) hP hK hD hT hG hS ky4_0 (by decide) rfl) rfl rfl hl.1 rfl (lv_room (Nat.le_of_ble_eq_true rfl)) dX2_readIsland_44 ⟨Nat.zero_le _, Nat.zero_le _⟩) hS (fun H locs hP hD hT hS => ?_)
          refine lv_aload_n hx hb dX2_readIsland_47 rfl (lv_at hl 0 rfl) ?_
          refine r_get (T := TX2) (v := .int (gI z25 y4_0 5)) hx hb hts in2 hown hK hP ky4_0 (by decide) rfl 5 (by decide) (hts (.fieldLink RX2 26 "StoneWalk$Reader" "fault" "I") (List.mem_of_getElem? (i := 1) (by decide +kernel))) rfl (t := 0) rfl rfl dX2_readIsland_48 ?_
          refine lv_if_ne (tgt := 67) hx hb dX2_readIsland_51 rfl (fun c26 => ?_) (fun c26 => ?_)
          · replace h := ite_f c26 h
            refine lv_iconst (v := 0) hx hb dX2_readIsland_67 rfl ?_
            refine lv_istore_n (lv' := [(3, .int 0), (0, .ref (ad y4_0)), (1, .int y4_1), (2, .ref (ad y4_2)), (4, .int y4_4)]) hx hb dX2_readIsland_68 rfl hl (by decide) rfl (fun ls hl => ?_)
            refine lv_iinc (v := y4_4 + 1) (lv' := [(4, .int (y4_4 + 1)), (3, .int 0), (0, .ref (ad y4_0)), (1, .int y4_1), (2, .ref (ad y4_2))]) hx hb dX2_readIsland_69 hl (k := 4) rfl rfl (by decide) rfl (fun ls hl => ?_)
            refine lv_goto (tgt := 32) hx hb dX2_readIsland_72 rfl ?_
            exact ih4 z25 y4_0 y4_1 y4_2 0 (y4_4 + 1) ky4_0 ky4_2 _ _ h hP hD hT hS ls (lv_sub hl [2, 3, 4, 1, 0] rfl)
          · replace h := ite_t c26 h
            refine lv_aload_n hx hb dX2_readIsland_54 rfl (lv_at hl 0 rfl) ?_
            refine lv_bipush (v := 59) hx hb dX2_readIsland_55 rfl ?_
            obtain ⟨z27, h27, h⟩ := ob_some h
            refine k_z (va_runV (As := [.int 59]) (rest := []) ⟨hx, hb, hml, hown, hts⟩ (c_X2_passes (l := l) z25 y4_0 59 ky4_0 h27) (cwV 1 hts gX2_readIsland_X2_passes rfl rfl rfl hdV_X2_passes ⟨Nat.le_of_ble_eq_true rfl, Nat.le_of_ble_eq_true rfl⟩) (pV (T := TX2) hP hK hD hT hG hS ky4_0 (by decide) rfl) rfl rfl hl.1 rfl (lv_room (Nat.le_of_ble_eq_true rfl)) dX2_readIsland_57 ⟨Nat.zero_le _, Nat.zero_le _⟩) hS (fun H locs hz27 hP hD hT hS => ?_)
            refine lv_if_eq (tgt := 67) hx hb dX2_readIsland_60 rfl (fun c28 => ?_) (fun c28 => ?_)
            · replace h := ite_t c28 h
              refine lv_iconst (v := 0) hx hb dX2_readIsland_67 rfl ?_
              refine lv_istore_n (lv' := [(3, .int 0), (0, .ref (ad y4_0)), (1, .int y4_1), (2, .ref (ad y4_2)), (4, .int y4_4)]) hx hb dX2_readIsland_68 rfl hl (by decide) rfl (fun ls hl => ?_)
              refine lv_iinc (v := y4_4 + 1) (lv' := [(4, .int (y4_4 + 1)), (3, .int 0), (0, .ref (ad y4_0)), (1, .int y4_1), (2, .ref (ad y4_2))]) hx hb dX2_readIsland_69 hl (k := 4) rfl rfl (by decide) rfl (fun ls hl => ?_)
              refine lv_goto (tgt := 32) hx hb dX2_readIsland_72 rfl ?_
              exact ih4 z27.2 y4_0 y4_1 y4_2 0 (y4_4 + 1) ky4_0 ky4_2 _ _ h hP hD hT hS ls (lv_sub hl [2, 3, 4, 1, 0] rfl)
            · replace h := ite_f c28 h
              refine lv_iconst (v := 1) hx hb dX2_readIsland_63 rfl ?_
              refine lv_goto (tgt := 68) hx hb dX2_readIsland_64 rfl ?_
              refine lv_istore_n (lv' := [(3, .int 1), (0, .ref (ad y4_0)), (1, .int y4_1), (2, .ref (ad y4_2)), (4, .int y4_4)]) hx hb dX2_readIsland_68 rfl hl (by decide) rfl (fun ls hl => ?_)
              refine lv_iinc (v := y4_4 + 1) (lv' := [(4, .int (y4_4 + 1)), (3, .int 1), (0, .ref (ad y4_0)), (1, .int y4_1), (2, .ref (ad y4_2))]) hx hb dX2_readIsland_69 hl (k := 4) rfl rfl (by decide) rfl (fun ls hl => ?_)
              refine lv_goto (tgt := 32) hx hb dX2_readIsland_72 rfl ?_
              exact ih4 z27.2 y4_0 y4_1 y4_2 1 (y4_4 + 1) ky4_0 ky4_2 _ _ h hP hD hT hS ls (lv_sub hl [2, 3, 4, 1, 0] rfl)
  exact L4 FU z3 a0 x1 a2 1 0 k0 k2 _ _ h hP hD hT hS ls (lv_sub hl [2, 3, 4, 1, 0] rfl)
