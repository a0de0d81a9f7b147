theorem hdV_X12_slopeAt : yX12_slopeAt.cls = RX12 ∧ yX12_slopeAt.cls ≠ "java/lang/invoke/MethodHandle" ∧ yX12_slopeAt.cls ≠ "java/lang/invoke/VarHandle" ∧ (parseMethodDescriptor yX12_slopeAt.desc).map (fun d => d.parameters.length) = some 2 := by decide +kernel
theorem hdV_X13_thrown : yX13_thrown.cls = RX13 ∧ yX13_thrown.cls ≠ "java/lang/invoke/MethodHandle" ∧ yX13_thrown.cls ≠ "java/lang/invoke/VarHandle" ∧ (parseMethodDescriptor yX13_thrown.desc).map (fun d => d.parameters.length) = some 0 := by decide +kernel
theorem hdV_X13_lost : yX13_lost.cls = RX13 ∧ yX13_lost.cls ≠ "java/lang/invoke/MethodHandle" ∧ yX13_lost.cls ≠ "java/lang/invoke/VarHandle" ∧ (parseMethodDescriptor yX13_lost.desc).map (fun d => d.parameters.length) = some 1 := by decide +kernel
theorem hdV_X13_denied : yX13_denied.cls = RX13 ∧ yX13_denied.cls ≠ "java/lang/invoke/MethodHandle" ∧ yX13_denied.cls ≠ "java/lang/invoke/VarHandle" ∧ (parseMethodDescriptor yX13_denied.desc).map (fun d => d.parameters.length) = some 1 := by decide +kernel
theorem hdV_X13_granted : yX13_granted.cls = RX13 ∧ yX13_granted.cls ≠ "java/lang/invoke/MethodHandle" ∧ yX13_granted.cls ≠ "java/lang/invoke/VarHandle" ∧ (parseMethodDescriptor yX13_granted.desc).map (fun d => d.parameters.length) = some 0 := by decide +kernel
theorem hdS_X13_up : yX13_up.cls ≠ "java/lang/invoke/MethodHandle" ∧ yX13_up.cls ≠ "java/lang/invoke/VarHandle" ∧ (parseMethodDescriptor yX13_up.desc).map (fun d => d.parameters.length) = some 2 := by decide +kernel
theorem hdV_X13_feed : yX13_feed.cls = RX13 ∧ yX13_feed.cls ≠ "java/lang/invoke/MethodHandle" ∧ yX13_feed.cls ≠ "java/lang/invoke/VarHandle" ∧ (parseMethodDescriptor yX13_feed.desc).map (fun d => d.parameters.length) = some 5 := by decide +kernel
theorem hdV_X13_fault : yX13_fault.cls = RX13 ∧ yX13_fault.cls ≠ "java/lang/invoke/MethodHandle" ∧ yX13_fault.cls ≠ "java/lang/invoke/VarHandle" ∧ (parseMethodDescriptor yX13_fault.desc).map (fun d => d.parameters.length) = some 0 := by decide +kernel
theorem hdV_X13_where : yX13_where.cls = RX13 ∧ yX13_where.cls ≠ "java/lang/invoke/MethodHandle" ∧ yX13_where.cls ≠ "java/lang/invoke/VarHandle" ∧ (parseMethodDescriptor yX13_where.desc).map (fun d => d.parameters.length) = some 0 := by decide +kernel
theorem hdV_X13_isWay : yX13_isWay.cls = RX13 ∧ yX13_isWay.cls ≠ "java/lang/invoke/MethodHandle" ∧ yX13_isWay.cls ≠ "java/lang/invoke/VarHandle" ∧ (parseMethodDescriptor yX13_isWay.desc).map (fun d => d.parameters.length) = some 1 := by decide +kernel
theorem hdV_X13_isRoad : yX13_isRoad.cls = RX13 ∧ yX13_isRoad.cls ≠ "java/lang/invoke/MethodHandle" ∧ yX13_isRoad.cls ≠ "java/lang/invoke/VarHandle" ∧ (parseMethodDescriptor yX13_isRoad.desc).map (fun d => d.parameters.length) = some 1 := by decide +kernel
theorem hdV_X13_isStatue : yX13_isStatue.cls = RX13 ∧ yX13_isStatue.cls ≠ "java/lang/invoke/MethodHandle" ∧ yX13_isStatue.cls ≠ "java/lang/invoke/VarHandle" ∧ (parseMethodDescriptor yX13_isStatue.desc).map (fun d => d.parameters.length) = some 1 := by decide +kernel
theorem hdV_X13_isStory : yX13_isStory.cls = RX13 ∧ yX13_isStory.cls ≠ "java/lang/invoke/MethodHandle" ∧ yX13_isStory.cls ≠ "java/lang/invoke/VarHandle" ∧ (parseMethodDescriptor yX13_isStory.desc).map (fun d => d.parameters.length) = some 1 := by decide +kernel
theorem hdS_X13_canGo : yX13_canGo.cls ≠ "java/lang/invoke/MethodHandle" ∧ yX13_canGo.cls ≠ "java/lang/invoke/VarHandle" ∧ (parseMethodDescriptor yX13_canGo.desc).map (fun d => d.parameters.length) = some 5 := by decide +kernel
theorem hdV_X13_canBy : yX13_canBy.cls = RX13 ∧ yX13_canBy.cls ≠ "java/lang/invoke/MethodHandle" ∧ yX13_canBy.cls ≠ "java/lang/invoke/VarHandle" ∧ (parseMethodDescriptor yX13_canBy.desc).map (fun d => d.parameters.length) = some 3 := by decide +kernel
theorem hdV_X13_refusesSlope : yX13_refusesSlope.cls = RX13 ∧ yX13_refusesSlope.cls ≠ "java/lang/invoke/MethodHandle" ∧ yX13_refusesSlope.cls ≠ "java/lang/invoke/VarHandle" ∧ (parseMethodDescriptor yX13_refusesSlope.desc).map (fun d => d.parameters.length) = some 3 := by decide +kernel
theorem hdV_X13_can : yX13_can.cls = RX13 ∧ yX13_can.cls ≠ "java/lang/invoke/MethodHandle" ∧ yX13_can.cls ≠ "java/lang/invoke/VarHandle" ∧ (parseMethodDescriptor yX13_can.desc).map (fun d => d.parameters.length) = some 3 := by decide +kernel
theorem hdV_X13_canOn : yX13_canOn.cls = RX13 ∧ yX13_canOn.cls ≠ "java/lang/invoke/MethodHandle" ∧ yX13_canOn.cls ≠ "java/lang/invoke/VarHandle" ∧ (parseMethodDescriptor yX13_canOn.desc).map (fun d => d.parameters.length) = some 3 := by decide +kernel
theorem hdV_X13_steepest : yX13_steepest.cls = RX13 ∧ yX13_steepest.cls ≠ "java/lang/invoke/MethodHandle" ∧ yX13_steepest.cls ≠ "java/lang/invoke/VarHandle" ∧ (parseMethodDescriptor yX13_steepest.desc).map (fun d => d.parameters.length) = some 3 := by decide +kernel
theorem hdV_X13_needBy : yX13_needBy.cls = RX13 ∧ yX13_needBy.cls ≠ "java/lang/invoke/MethodHandle" ∧ yX13_needBy.cls ≠ "java/lang/invoke/VarHandle" ∧ (parseMethodDescriptor yX13_needBy.desc).map (fun d => d.parameters.length) = some 3 := by decide +kernel
theorem hdV_X13_need : yX13_need.cls = RX13 ∧ yX13_need.cls ≠ "java/lang/invoke/MethodHandle" ∧ yX13_need.cls ≠ "java/lang/invoke/VarHandle" ∧ (parseMethodDescriptor yX13_need.desc).map (fun d => d.parameters.length) = some 3 := by decide +kernel
theorem hdV_X13_minutesBy : yX13_minutesBy.cls = RX13 ∧ yX13_minutesBy.cls ≠ "java/lang/invoke/MethodHandle" ∧ yX13_minutesBy.cls ≠ "java/lang/invoke/VarHandle" ∧ (parseMethodDescriptor yX13_minutesBy.desc).map (fun d => d.parameters.length) = some 3 := by decide +kernel
theorem hdV_X13_minutes : yX13_minutes.cls = RX13 ∧ yX13_minutes.cls ≠ "java/lang/invoke/MethodHandle" ∧ yX13_minutes.cls ≠ "java/lang/invoke/VarHandle" ∧ (parseMethodDescriptor yX13_minutes.desc).map (fun d => d.parameters.length) = some 4 := by decide +kernel
theorem hdV_X13_chanceBy : yX13_chanceBy.cls = RX13 ∧ yX13_chanceBy.cls ≠ "java/lang/invoke/MethodHandle" ∧ yX13_chanceBy.cls ≠ "java/lang/invoke/VarHandle" ∧ (parseMethodDescriptor yX13_chanceBy.desc).map (fun d => d.parameters.length) = some 3 := by decide +kernel
theorem hdV_X13_chance : yX13_chance.cls = RX13 ∧ yX13_chance.cls ≠ "java/lang/invoke/MethodHandle" ∧ yX13_chance.cls ≠ "java/lang/invoke/VarHandle" ∧ (parseMethodDescriptor yX13_chance.desc).map (fun d => d.parameters.length) = some 3 := by decide +kernel
theorem hdV_X13_tenths : yX13_tenths.cls = RX13 ∧ yX13_tenths.cls ≠ "java/lang/invoke/MethodHandle" ∧ yX13_tenths.cls ≠ "java/lang/invoke/VarHandle" ∧ (parseMethodDescriptor yX13_tenths.desc).map (fun d => d.parameters.length) = some 3 := by decide +kernel
theorem hdV_X13_lying : yX13_lying.cls = RX13 ∧ yX13_lying.cls ≠ "java/lang/invoke/MethodHandle" ∧ yX13_lying.cls ≠ "java/lang/invoke/VarHandle" ∧ (parseMethodDescriptor yX13_lying.desc).map (fun d => d.parameters.length) = some 3 := by decide +kernel
theorem hdV_X13_needAlong : yX13_needAlong.cls = RX13 ∧ yX13_needAlong.cls ≠ "java/lang/invoke/MethodHandle" ∧ yX13_needAlong.cls ≠ "java/lang/invoke/VarHandle" ∧ (parseMethodDescriptor yX13_needAlong.desc).map (fun d => d.parameters.length) = some 3 := by decide +kernel
theorem hdV_X13_easiest : yX13_easiest.cls = RX13 ∧ yX13_easiest.cls ≠ "java/lang/invoke/MethodHandle" ∧ yX13_easiest.cls ≠ "java/lang/invoke/VarHandle" ∧ (parseMethodDescriptor yX13_easiest.desc).map (fun d => d.parameters.length) = some 2 := by decide +kernel
theorem hdV_X13_seed : yX13_seed.cls = RX13 ∧ yX13_seed.cls ≠ "java/lang/invoke/MethodHandle" ∧ yX13_seed.cls ≠ "java/lang/invoke/VarHandle" ∧ (parseMethodDescriptor yX13_seed.desc).map (fun d => d.parameters.length) = some 1 := by decide +kernel
theorem hdV_X13_startsAnew : yX13_startsAnew.cls = RX13 ∧ yX13_startsAnew.cls ≠ "java/lang/invoke/MethodHandle" ∧ yX13_startsAnew.cls ≠ "java/lang/invoke/VarHandle" ∧ (parseMethodDescriptor yX13_startsAnew.desc).map (fun d => d.parameters.length) = some 0 := by decide +kernel
theorem hdV_X13_move : yX13_move.cls = RX13 ∧ yX13_move.cls ≠ "java/lang/invoke/MethodHandle" ∧ yX13_move.cls ≠ "java/lang/invoke/VarHandle" ∧ (parseMethodDescriptor yX13_move.desc).map (fun d => d.parameters.length) = some 4 := by decide +kernel
theorem hdV_X13_drawn : yX13_drawn.cls = RX13 ∧ yX13_drawn.cls ≠ "java/lang/invoke/MethodHandle" ∧ yX13_drawn.cls ≠ "java/lang/invoke/VarHandle" ∧ (parseMethodDescriptor yX13_drawn.desc).map (fun d => d.parameters.length) = some 1 := by decide +kernel
theorem hdV_X13_steps : yX13_steps.cls = RX13 ∧ yX13_steps.cls ≠ "java/lang/invoke/MethodHandle" ∧ yX13_steps.cls ≠ "java/lang/invoke/VarHandle" ∧ (parseMethodDescriptor yX13_steps.desc).map (fun d => d.parameters.length) = some 0 := by decide +kernel
theorem hdV_X13_step : yX13_step.cls = RX13 ∧ yX13_step.cls ≠ "java/lang/invoke/MethodHandle" ∧ yX13_step.cls ≠ "java/lang/invoke/VarHandle" ∧ (parseMethodDescriptor yX13_step.desc).map (fun d => d.parameters.length) = some 0 := by decide +kernel
theorem hdV_X13_call : yX13_call.cls = RX13 ∧ yX13_call.cls ≠ "java/lang/invoke/MethodHandle" ∧ yX13_call.cls ≠ "java/lang/invoke/VarHandle" ∧ (parseMethodDescriptor yX13_call.desc).map (fun d => d.parameters.length) = some 1 := by decide +kernel
theorem hdV_X13_woodOf : yX13_woodOf.cls = RX13 ∧ yX13_woodOf.cls ≠ "java/lang/invoke/MethodHandle" ∧ yX13_woodOf.cls ≠ "java/lang/invoke/VarHandle" ∧ (parseMethodDescriptor yX13_woodOf.desc).map (fun d => d.parameters.length) = some 2 := by decide +kernel
theorem hdV_X13_at : yX13_at.cls = RX13 ∧ yX13_at.cls ≠ "java/lang/invoke/MethodHandle" ∧ yX13_at.cls ≠ "java/lang/invoke/VarHandle" ∧ (parseMethodDescriptor yX13_at.desc).map (fun d => d.parameters.length) = some 1 := by decide +kernel
theorem hdV_X13_tries : yX13_tries.cls = RX13 ∧ yX13_tries.cls ≠ "java/lang/invoke/MethodHandle" ∧ yX13_tries.cls ≠ "java/lang/invoke/VarHandle" ∧ (parseMethodDescriptor yX13_tries.desc).map (fun d => d.parameters.length) = some 1 := by decide +kernel
theorem hdV_X13_image : yX13_image.cls = RX13 ∧ yX13_image.cls ≠ "java/lang/invoke/MethodHandle" ∧ yX13_image.cls ≠ "java/lang/invoke/VarHandle" ∧ (parseMethodDescriptor yX13_image.desc).map (fun d => d.parameters.length) = some 0 := by decide +kernel
set_option maxHeartbeats 4000000 in
set_option maxRecDepth 100000 in
theorem c_X12_slopeAt {l : Launch} {D : va_G} {ad : Nat → Nat} {cy : Nat → ClassId} {A : Nat → Prop} {g : CG} {q : SE} (M : MM) (a0 : Nat) (x1 : Int32) (x2 : Int32) (k0 : ok g a0 12 0) {Z : Int32} (h : f_X12_slopeAt M a0 x1 x2 = some Z) : Met l yX12_slopeAt wsX12_slopeAt ({ frames := 0, cells := 0, slots := 0, locals := 0 }) (va_Pc [.ref (ad a0), .int x1, .int x2] (Wd D ad cy A g q M)) (va_Qi (fun r u => r = Z ∧ u = M) (Wd D ad cy A g q) A) 0 0 A := by
  refine Met.ofW (cc := cX12_slopeAt) (maxL := 3) (ret := (some .int)) (by decide) rfl ?_
  intro p e s m args below meth c s₁ B hml hv
  obtain ⟨rfl, hP, hK, hD, hT, hG⟩ := hv
  have hx := B.exec
  have hb := B.bytes
  have hr := B.returns
  have hts := atoms_spec (ws := wsX12_slopeAt) B.pre
  have hown : s.vm.findClass RX12 = some m.cls := findClass_of_methodNamed B.named
  have hlocks := B.notSynchronized
  have in12 : ∀ w ∈ u_ws RX12 TX12 48, w ∈ wsX12_slopeAt := fun w h => List.mem_cons_of_mem _ (List.mem_append_right _ h)
  have hS : va_S A s.heap s.heap [] := va_S.rf
  have hl := lv_entry ([.ref (ad a0), .int x1, .int x2]) (n := 3) (Nat.le_of_ble_eq_true rfl)
  rw [lg_entry_eq]
  generalize (lg_sl ([.ref (ad a0), .int x1, .int x2]) ++ List.replicate (3 - (lg_sl ([.ref (ad a0), .int x1, .int x2])).length) Slot.unset).toArray = ls at hl ⊢
  have hl : lv_has ls 3 [(0, .ref (ad a0)), (1, .int x1), (2, .int x2)] := hl
  unfold f_X12_slopeAt at h
  refine lv_aload_n hx hb dX12_slopeAt_0 rfl (lv_at hl 0 rfl) ?_
  rcases hN1 : gR M a0 14 with _ | b1
  · exact absurd (oc_n hN1 h) (by simp)
  replace h := oc_s hN1 h
  have kb1 := hT.f k0 (k := 14) (t := 15) (n := 18) rfl hN1
  refine r_get (T := TX12) (v := .ref (ad b1)) hx hb hts in12 hown hK hP k0 (by decide) rfl 14 (by decide) (hts (.fieldLink RX12 27 "StoneWalkModel$Island" "slope" "[I") (List.mem_of_getElem? (i := 1) (by decide +kernel))) rfl (t := 2) rfl (by show va_rf _ = _; rw [hN1]; rfl) dX12_slopeAt_1 ?_
  refine lv_bipush (v := 6) hx hb dX12_slopeAt_4 rfl ?_
  refine lv_iload_n hx hb dX12_slopeAt_6 rfl (lv_at hl 1 rfl) ?_
  refine lv_imul hx hb dX12_slopeAt_7 ?_
  refine lv_iload_n hx hb dX12_slopeAt_8 rfl (lv_at hl 2 rfl) ?_
  refine lv_iadd hx hb dX12_slopeAt_9 ?_
  obtain ⟨hn2, h⟩ := chk_some h
  refine r_iald hx hb hK hP kb1 hn2 dX12_slopeAt_10 ?_
  exact r_iret hx hb hr hlocks hP hK hD hT hG hS (Option.some.inj h) rfl dX12_slopeAt_11
set_option maxHeartbeats 4000000 in
set_option maxRecDepth 100000 in
theorem c_X13_thrown {l : Launch} {D : va_G} {ad : Nat → Nat} {cy : Nat → ClassId} {A : Nat → Prop} {g : CG} {q : SE} (M : MM) (a0 : Nat) (k0 : ok g a0 13 0) {Z : Int32} (h : f_X13_thrown M a0 = some Z) : Met l yX13_thrown wsX13_thrown ({ frames := 0, cells := 0, slots := 0, locals := 0 }) (va_Pc [.ref (ad a0)] (Wd D ad cy A g q M)) (va_Qi (fun r u => r = Z ∧ u = M) (Wd D ad cy A g q) A) 0 0 A := by
  refine Met.ofW (cc := cX13_thrown) (maxL := 1) (ret := (some .int)) (by decide) rfl ?_
  intro p e s m args below meth c s₁ B hml hv
  obtain ⟨rfl, hP, hK, hD, hT, hG⟩ := hv
  have hx := B.exec
  have hb := B.bytes
  have hr := B.returns
  have hts := atoms_spec (ws := wsX13_thrown) B.pre
  have hown : s.vm.findClass RX13 = some m.cls := findClass_of_methodNamed B.named
  have hlocks := B.notSynchronized
  have in13 : ∀ w ∈ u_ws RX13 TX13 29, w ∈ wsX13_thrown := fun w h => List.mem_cons_of_mem _ (List.mem_append_right _ h)
  have hS : va_S A s.heap s.heap [] := va_S.rf
  have hl := lv_entry ([.ref (ad a0)]) (n := 1) (Nat.le_of_ble_eq_true rfl)
  rw [lg_entry_eq]
  generalize (lg_sl ([.ref (ad a0)]) ++ List.replicate (1 - (lg_sl ([.ref (ad a0)])).length) Slot.unset).toArray = ls at hl ⊢
  have hl : lv_has ls 1 [(0, .ref (ad a0))] := hl
  unfold f_X13_thrown at h
  refine lv_aload_n hx hb dX13_thrown_0 rfl (lv_at hl 0 rfl) ?_
  refine r_get (T := TX13) (v := .int (gI M a0 0)) hx hb hts in13 hown hK hP k0 (by decide) rfl 0 (by decide) (hts (.fieldLink RX13 30 "StoneWalkModel" "thrown" "I") (List.mem_of_getElem? (i := 1) (by decide +kernel))) rfl (t := 0) rfl rfl dX13_thrown_1 ?_
  exact r_iret hx hb hr hlocks hP hK hD hT hG hS (Option.some.inj h) rfl dX13_thrown_4
set_option maxHeartbeats 4000000 in
set_option maxRecDepth 100000 in
theorem c_X13_lost {l : Launch} {D : va_G} {ad : Nat → Nat} {cy : Nat → ClassId} {A : Nat → Prop} {g : CG} {q : SE} (M : MM) (a0 : Nat) (x1 : Int32) (k0 : ok g a0 13 0) {Z : (Int32 × MM)} (h : f_X13_lost M a0 x1 = some Z) : Met l yX13_lost wsX13_lost ({ frames := 1, cells := 0, slots := 0, locals := 21 }) (va_Pc [.ref (ad a0), .int x1] (Wd D ad cy A g q M)) (va_Qi (fun r u => r = Z.1 ∧ u = Z.2) (Wd D ad cy A g q) A) 0 0 A := by
  refine Met.ofW (cc := cX13_lost) (maxL := 2) (ret := (some .int)) (by decide) rfl ?_
  intro p e s m args below meth c s₁ B hml hv
  obtain ⟨rfl, hP, hK, hD, hT, hG⟩ := hv
  have hx := B.exec
  have hb := B.bytes
  have hr := B.returns
  have hts := atoms_spec (ws := wsX13_lost) B.pre
  have hown : s.vm.findClass RX13 = some m.cls := findClass_of_methodNamed B.named
  have hlocks := B.notSynchronized
  have hS : va_S A s.heap s.heap [] := va_S.rf
  have hl := lv_entry ([.ref (ad a0), .int x1]) (n := 2) (Nat.le_of_ble_eq_true rfl)
  rw [lg_entry_eq]
  generalize (lg_sl ([.ref (ad a0), .int x1]) ++ List.replicate (2 - (lg_sl ([.ref (ad a0), .int x1])).length) Slot.unset).toArray = ls at hl ⊢
  have hl : lv_has ls 2 [(0, .ref (ad a0)), (1, .int x1)] := hl
  unfold f_X13_lost at h
  refine lv_aload_n hx hb dX13_lost_0 rfl (lv_at hl 0 rfl) ?_
  refine lv_iload_n hx hb dX13_lost_1 rfl (lv_at hl 1 rfl) ?_
  obtain ⟨z1, h1, h⟩ := ob_some h
  refine k_i (va_runV (As := [.int x1]) (rest := []) ⟨hx, hb, hml, hown, hts⟩ (c_X13_refused (l := l) M a0 x1 k0 h1) (cwV 1 hts gX13_lost_X13_refused rfl rfl rfl hdV_X13_refused ⟨Nat.le_of_ble_eq_true rfl, Nat.le_of_ble_eq_true rfl⟩) (pV (T := TX13) hP hK hD hT hG hS k0 (by decide) rfl) rfl rfl hl.1 rfl (lv_room (Nat.le_of_ble_eq_true rfl)) dX13_lost_2 ⟨Nat.zero_le _, Nat.zero_le _⟩) hS (fun H locs hP hD hT hS => ?_)
  refine lv_pop hx hb dX13_lost_5 rfl ?_
  refine lv_sipush (v := (-1000)) hx hb dX13_lost_6 rfl ?_
  have hZ := Option.some.inj h
  have hZ1 := congrArg Prod.fst hZ
  have hZ2 := congrArg Prod.snd hZ
  exact r_iret hx hb hr hlocks hP hK hD hT hG hS hZ1 hZ2 dX13_lost_9
set_option maxHeartbeats 4000000 in
set_option maxRecDepth 100000 in
theorem c_X13_denied {l : Launch} {D : va_G} {ad : Nat → Nat} {cy : Nat → ClassId} {A : Nat → Prop} {g : CG} {q : SE} (M : MM) (a0 : Nat) (x1 : Int32) (k0 : ok g a0 13 0) {Z : (Int32 × MM)} (h : f_X13_denied M a0 x1 = some Z) : Met l yX13_denied wsX13_denied ({ frames := 1, cells := 0, slots := 0, locals := 21 }) (va_Pc [.ref (ad a0), .int x1] (Wd D ad cy A g q M)) (va_Qi (fun r u => r = Z.1 ∧ u = Z.2 ∧ zb r) (Wd D ad cy A g q) A) 0 0 A := by
  refine Met.ofW (cc := cX13_denied) (maxL := 2) (ret := (some .boolean)) (by decide) rfl ?_
  intro p e s m args below meth c s₁ B hml hv
  obtain ⟨rfl, hP, hK, hD, hT, hG⟩ := hv
  have hx := B.exec
  have hb := B.bytes
  have hr := B.returns
  have hts := atoms_spec (ws := wsX13_denied) B.pre
  have hown : s.vm.findClass RX13 = some m.cls := findClass_of_methodNamed B.named
  have hlocks := B.notSynchronized
  have hS : va_S A s.heap s.heap [] := va_S.rf
  have hl := lv_entry ([.ref (ad a0), .int x1]) (n := 2) (Nat.le_of_ble_eq_true rfl)
  rw [lg_entry_eq]
  generalize (lg_sl ([.ref (ad a0), .int x1]) ++ List.replicate (2 - (lg_sl ([.ref (ad a0), .int x1])).length) Slot.unset).toArray = ls at hl ⊢
  have hl : lv_has ls 2 [(0, .ref (ad a0)), (1, .int x1)] := hl
  unfold f_X13_denied at h
  refine lv_aload_n hx hb dX13_denied_0 rfl (lv_at hl 0 rfl) ?_
  refine lv_iload_n hx hb dX13_denied_1 rfl (lv_at hl 1 rfl) ?_
  obtain ⟨z1, h1, h⟩ := ob_some h
  refine k_i (va_runV (As := [.int x1]) (rest := []) ⟨hx, hb, hml, hown, hts⟩ (c_X13_refused (l := l) M a0 x1 k0 h1) (cwV 1 hts gX13_denied_X13_refused rfl rfl rfl hdV_X13_refused ⟨Nat.le_of_ble_eq_true rfl, Nat.le_of_ble_eq_true rfl⟩) (pV (T := TX13) hP hK hD hT hG hS k0 (by decide) rfl) rfl rfl hl.1 rfl (lv_room (Nat.le_of_ble_eq_true rfl)) dX13_denied_2 ⟨Nat.zero_le _, Nat.zero_le _⟩) hS (fun H locs hP hD hT hS => ?_)
  refine lv_pop hx hb dX13_denied_5 rfl ?_
  refine lv_iconst (v := 0) hx hb dX13_denied_6 rfl ?_
  have hZ := Option.some.inj h
  have hZ1 := congrArg Prod.fst hZ
  have hZ2 := congrArg Prod.snd hZ
  exact r_zret hx hb hr hlocks hP hK hD hT hG hS zb_0 hZ1 hZ2 dX13_denied_7
set_option maxHeartbeats 4000000 in
set_option maxRecDepth 100000 in
theorem c_X13_granted {l : Launch} {D : va_G} {ad : Nat → Nat} {cy : Nat → ClassId} {A : Nat → Prop} {g : CG} {q : SE} (M : MM) (a0 : Nat) (k0 : ok g a0 13 0) {Z : (Int32 × MM)} (h : f_X13_granted M a0 = some Z) : Met l yX13_granted wsX13_granted ({ frames := 1, cells := 0, slots := 0, locals := 21 }) (va_Pc [.ref (ad a0)] (Wd D ad cy A g q M)) (va_Qi (fun r u => r = Z.1 ∧ u = Z.2 ∧ zb r) (Wd D ad cy A g q) A) 0 0 A := by
  refine Met.ofW (cc := cX13_granted) (maxL := 1) (ret := (some .boolean)) (by decide) rfl ?_
  intro p e s m args below meth c s₁ B hml hv
  obtain ⟨rfl, hP, hK, hD, hT, hG⟩ := hv
  have hx := B.exec
  have hb := B.bytes
  have hr := B.returns
  have hts := atoms_spec (ws := wsX13_granted) B.pre
  have hown : s.vm.findClass RX13 = some m.cls := findClass_of_methodNamed B.named
  have hlocks := B.notSynchronized
  have hS : va_S A s.heap s.heap [] := va_S.rf
  have hl := lv_entry ([.ref (ad a0)]) (n := 1) (Nat.le_of_ble_eq_true rfl)
  rw [lg_entry_eq]
  generalize (lg_sl ([.ref (ad a0)]) ++ List.replicate (1 - (lg_sl ([.ref (ad a0)])).length) Slot.unset).toArray = ls at hl ⊢
  have hl : lv_has ls 1 [(0, .ref (ad a0))] := hl
  unfold f_X13_granted at h
  refine lv_aload_n hx hb dX13_granted_0 rfl (lv_at hl 0 rfl) ?_
  refine lv_iconst (v := 0) hx hb dX13_granted_1 rfl ?_
  obtain ⟨z1, h1, h⟩ := ob_some h
  refine k_i (va_runV (As := [.int 0]) (rest := []) ⟨hx, hb, hml, hown, hts⟩ (c_X13_done (l := l) M a0 0 k0 h1) (cwV 1 hts gX13_granted_X13_done rfl rfl rfl hdV_X13_done ⟨Nat.le_of_ble_eq_true rfl, Nat.le_of_ble_eq_true rfl⟩) (pV (T := TX13) hP hK hD hT hG hS k0 (by decide) rfl) rfl rfl hl.1 rfl (lv_room (Nat.le_of_ble_eq_true rfl)) dX13_granted_2 ⟨Nat.zero_le _, Nat.zero_le _⟩) hS (fun H locs hP hD hT hS => ?_)
  refine lv_pop hx hb dX13_granted_5 rfl ?_
  refine lv_iconst (v := 1) hx hb dX13_granted_6 rfl ?_
  have hZ := Option.some.inj h
  have hZ1 := congrArg Prod.fst hZ
  have hZ2 := congrArg Prod.snd hZ
  exact r_zret hx hb hr hlocks hP hK hD hT hG hS zb_1 hZ1 hZ2 dX13_granted_7
set_option maxHeartbeats 4000000 in
set_option maxRecDepth 100000 in
theorem c_X13_up {l : Launch} {D : va_G} {ad : Nat → Nat} {cy : Nat → ClassId} {A : Nat → Prop} {g : CG} {q : SE} (M : MM) (x0 : Int32) (x1 : Int32) {Z : Int32} (h : f_X13_up M x0 x1 = some Z) : Met l yX13_up wsX13_up ({ frames := 0, cells := 0, slots := 0, locals := 0 }) (va_Pc [.int x0, .int x1] (Wd D ad cy A g q M)) (va_Qi (fun r u => r = Z ∧ u = M) (Wd D ad cy A g q) A) 0 0 A := by
  refine Met.ofW (cc := cX13_up) (maxL := 2) (ret := (some .int)) (by decide) rfl ?_
  intro p e s m args below meth c s₁ B hml hv
  obtain ⟨rfl, hP, hK, hD, hT, hG⟩ := hv
  have hx := B.exec
  have hb := B.bytes
  have hr := B.returns
  have hts := atoms_spec (ws := wsX13_up) B.pre
  have hown : s.vm.findClass RX13 = some m.cls := findClass_of_methodNamed B.named
  have hlocks := B.notSynchronized
  have hS : va_S A s.heap s.heap [] := va_S.rf
  have hl := lv_entry ([.int x0, .int x1]) (n := 2) (Nat.le_of_ble_eq_true rfl)
  rw [lg_entry_eq]
  generalize (lg_sl ([.int x0, .int x1]) ++ List.replicate (2 - (lg_sl ([.int x0, .int x1])).length) Slot.unset).toArray = ls at hl ⊢
  have hl : lv_has ls 2 [(0, .int x0), (1, .int x1)] := hl
  unfold f_X13_up at h
  refine lv_iload_n hx hb dX13_up_0 rfl (lv_at hl 0 rfl) ?_
  refine lv_iload_n hx hb dX13_up_1 rfl (lv_at hl 1 rfl) ?_
  refine lv_iadd hx hb dX13_up_2 ?_
  refine lv_iconst (v := 1) hx hb dX13_up_3 rfl ?_
  refine lv_isub hx hb dX13_up_4 ?_
  refine lv_iload_n hx hb dX13_up_5 rfl (lv_at hl 1 rfl) ?_
  obtain ⟨hn1, h⟩ := chk_some h
  refine lv_idiv hx hb dX13_up_6 hn1 ?_
  exact r_iret hx hb hr hlocks hP hK hD hT hG hS (Option.some.inj h) rfl dX13_up_7
set_option maxHeartbeats 4000000 in
set_option maxRecDepth 100000 in
theorem c_X13_feed {l : Launch} {D : va_G} {ad : Nat → Nat} {cy : Nat → ClassId} {A : Nat → Prop} {g : CG} {q : SE} (M : MM) (a0 : Nat) (x1 : Int32) (x2 : Int32) (x3 : Int32) (x4 : Int32) (x5 : Int32) (k0 : ok g a0 13 0) {Z : (Int32 × MM)} (h : f_X13_feed M a0 x1 x2 x3 x4 x5 = some Z) : Met l yX13_feed wsX13_feed ({ frames := 0, cells := 0, slots := 0, locals := 0 }) (va_Pc [.ref (ad a0), .int x1, .int x2, .int x3, .int x4, .int x5] (Wd D ad cy A g q M)) (va_Qi (fun r u => r = Z.1 ∧ u = Z.2) (Wd D ad cy A g q) A) 0 0 A := by
  refine Met.ofW (cc := cX13_feed) (maxL := 8) (ret := (some .int)) (by decide) rfl ?_
  intro p e s m args below meth c s₁ B hml hv
  obtain ⟨rfl, hP, hK, hD, hT, hG⟩ := hv
  have hx := B.exec
  have hb := B.bytes
  have hr := B.returns
  have hts := atoms_spec (ws := wsX13_feed) B.pre
  have hown : s.vm.findClass RX13 = some m.cls := findClass_of_methodNamed B.named
  have hlocks := B.notSynchronized
  have in13 : ∀ w ∈ u_ws RX13 TX13 29, w ∈ wsX13_feed := fun w h => List.mem_cons_of_mem _ (List.mem_append_right _ h)
  have hS : va_S A s.heap s.heap [] := va_S.rf
  have hl := lv_entry ([.ref (ad a0), .int x1, .int x2, .int x3, .int x4, .int x5]) (n := 8) (Nat.le_of_ble_eq_true rfl)
  rw [lg_entry_eq]
  generalize (lg_sl ([.ref (ad a0), .int x1, .int x2, .int x3, .int x4, .int x5]) ++ List.replicate (8 - (lg_sl ([.ref (ad a0), .int x1, .int x2, .int x3, .int x4, .int x5])).length) Slot.unset).toArray = ls at hl ⊢
  have hl : lv_has ls 8 [(0, .ref (ad a0)), (1, .int x1), (2, .int x2), (3, .int x3), (4, .int x4), (5, .int x5)] := hl
  unfold f_X13_feed at h
  refine lv_aload_n hx hb dX13_feed_0 rfl (lv_at hl 0 rfl) ?_
  refine lv_iconst (v := 0) hx hb dX13_feed_1 rfl ?_
  refine r_putI (T := TX13) (ty := .int) (v := 0) hx hb hts in13 tyX13 tyX13_ok nmX13 hown hK hP hD hT hS k0 (by decide) rfl 0 (by decide) (hts (.fieldLink RX13 30 "StoneWalkModel" "thrown" "I") (List.mem_of_getElem? (i := 1) (by decide +kernel))) rfl rfl (tyX13_ok 0 (by decide)) rfl rfl rfl dX13_feed_2 (fun H locs hP hD hT hS => ?_)
  generalize pI M a0 0 0 = Mg1 at h hP hD hT ⊢
  refine lv_aload_n hx hb dX13_feed_5 rfl (lv_at hl 0 rfl) ?_
  refine r_get (T := TX13) (v := .int (gI Mg1 a0 6)) hx hb hts in13 hown hK hP k0 (by decide) rfl 6 (by decide) (hts (.fieldLink RX13 424 "StoneWalkModel" "taped" "I") (List.mem_of_getElem? (i := 2) (by decide +kernel))) rfl (t := 0) rfl rfl dX13_feed_6 ?_
  refine lv_bipush (v := 20) hx hb dX13_feed_9 rfl ?_
  refine lv_iadd hx hb dX13_feed_11 ?_
  refine lv_sipush (v := 900) hx hb dX13_feed_12 rfl ?_
  refine lv_icmp_le (tgt := 20) hx hb dX13_feed_15 rfl (fun c1 => ?_) (fun c1 => ?_)
  · replace h := ite_t c1 h
    refine lv_iconst (v := 0) hx hb dX13_feed_20 rfl ?_
    refine lv_istore (lv' := [(6, .int 0), (0, .ref (ad a0)), (1, .int x1), (2, .int x2), (3, .int x3), (4, .int x4), (5, .int x5)]) hx hb dX13_feed_21 hl (by decide) rfl (fun ls hl => ?_)
    have L2 : ∀ n2 : Nat, ∀ (M2 : MM) (y2_0 : Nat) (y2_1 : Int32) (y2_2 : Int32) (y2_3 : Int32) (y2_4 : Int32) (y2_5 : Int32) (y2_6 : Int32) (ky2_0 : ok g y2_0 13 0) (H : Heap) (locs : List Loc), f_X13_feed_L23 n2 M2 y2_0 y2_1 y2_2 y2_3 y2_4 y2_5 y2_6 = some Z → va_P D vwCl (wd ad cy g M2) H → va_D A (wd ad cy g M2) → WT g M2 → va_S A s.heap H locs → ∀ (ls : Array Slot), lv_has ls 8 [(0, .ref (ad y2_0)), (1, .int y2_1), (2, .int y2_2), (3, .int y2_3), (4, .int y2_4), (5, .int y2_5), (6, .int y2_6)] → W p l e ((headSpec wsX13_feed ({ frames := 0, cells := 0, slots := 0, locals := 0 })).room) s m (([.ref (ad a0), .int x1, .int x2, .int x3, .int x4, .int x5] : List Value).toArray) below meth c H locs 0 0 (MQ below (va_Qi (fun r u => r = Z.1 ∧ u = Z.2) (Wd D ad cy A g q) A) ([.ref (ad a0), .int x1, .int x2, .int x3, .int x4, .int x5]).toArray s 0 0 A) (F0 m 23 ls []) := by
      intro n2
      induction n2 with
      | zero => intro M2 y2_0 y2_1 y2_2 y2_3 y2_4 y2_5 y2_6 ky2_0 H locs h; exact absurd h (by simp [f_X13_feed_L23])
      | succ n2 ih2 =>
        intro M2 y2_0 y2_1 y2_2 y2_3 y2_4 y2_5 y2_6 ky2_0 H locs h hP hD hT hS ls hl
        rw [f_X13_feed_L23] at h
        refine lv_iload hx hb dX13_feed_23 (lv_at hl 6 rfl) ?_
        refine lv_bipush (v := 20) hx hb dX13_feed_25 rfl ?_
        refine lv_icmp_ge (tgt := 117) hx hb dX13_feed_27 rfl (fun c3 => ?_) (fun c3 => ?_)
        · replace h := ite_t c3 h
          refine lv_aload_n hx hb dX13_feed_117 rfl (lv_at hl 0 rfl) ?_
          refine r_get (T := TX13) (v := .int (gI M2 y2_0 6)) hx hb hts in13 hown hK hP ky2_0 (by decide) rfl 6 (by decide) (hts (.fieldLink RX13 424 "StoneWalkModel" "taped" "I") (List.mem_of_getElem? (i := 2) (by decide +kernel))) rfl (t := 0) rfl rfl dX13_feed_118 ?_
          have hZ := Option.some.inj h
          have hZ1 := congrArg Prod.fst hZ
          have hZ2 := congrArg Prod.snd hZ
          exact r_iret hx hb hr hlocks hP hK hD hT hG hS hZ1 hZ2 dX13_feed_121
        · replace h := ite_f c3 h
          refine lv_iload hx hb dX13_feed_30 (lv_at hl 6 rfl) ?_
          refine lv_iconst (v := 4) hx hb dX13_feed_32 rfl ?_
          refine lv_icmp_ge (tgt := 40) hx hb dX13_feed_33 rfl (fun c4 => ?_) (fun c4 => ?_)
          · replace h := ite_t c4 h
            refine lv_iload hx hb dX13_feed_40 (lv_at hl 6 rfl) ?_
            refine lv_bipush (v := 8) hx hb dX13_feed_42 rfl ?_
            refine lv_icmp_ge (tgt := 51) hx hb dX13_feed_44 rfl (fun c5 => ?_) (fun c5 => ?_)
            · replace h := ite_t c5 h
              refine lv_iload hx hb dX13_feed_51 (lv_at hl 6 rfl) ?_
              refine lv_bipush (v := 12) hx hb dX13_feed_53 rfl ?_
              refine lv_icmp_ge (tgt := 62) hx hb dX13_feed_55 rfl (fun c6 => ?_) (fun c6 => ?_)
              · replace h := ite_t c6 h
                refine lv_iload hx hb dX13_feed_62 (lv_at hl 6 rfl) ?_
                refine lv_bipush (v := 16) hx hb dX13_feed_64 rfl ?_
                refine lv_icmp_ge (tgt := 74) hx hb dX13_feed_66 rfl (fun c7 => ?_) (fun c7 => ?_)
                · replace h := ite_t c7 h
                  refine lv_iload hx hb dX13_feed_74 (lv_at hl 5 rfl) ?_
                  refine lv_istore (lv' := [(7, .int y2_5), (0, .ref (ad y2_0)), (1, .int y2_1), (2, .int y2_2), (3, .int y2_3), (4, .int y2_4), (5, .int y2_5), (6, .int y2_6)]) hx hb dX13_feed_76 hl (by decide) rfl (fun ls hl => ?_)
                  refine lv_aload_n hx hb dX13_feed_78 rfl (lv_at hl 1 rfl) ?_
                  rcases hN8 : gR M2 y2_0 5 with _ | b8
                  · exact absurd (oc_n hN8 h) (by simp)
                  replace h := oc_s hN8 h
                  have kb8 := hT.f ky2_0 (k := 5) (t := 14) (n := 900) rfl hN8
                  refine r_get (T := TX13) (v := .ref (ad b8)) hx hb hts in13 hown hK hP ky2_0 (by decide) rfl 5 (by decide) (hts (.fieldLink RX13 13 "StoneWalkModel" "tape" "[B") (List.mem_of_getElem? (i := 3) (by decide +kernel))) rfl (t := 2) rfl (by show va_rf _ = _; rw [hN8]; rfl) dX13_feed_79 ?_
                  refine lv_aload_n hx hb dX13_feed_82 rfl (lv_at hl 1 rfl) ?_
                  refine r_get (T := TX13) (v := .int (gI M2 y2_0 6)) hx hb hts in13 hown hK hP ky2_0 (by decide) rfl 6 (by decide) (hts (.fieldLink RX13 424 "StoneWalkModel" "taped" "I") (List.mem_of_getElem? (i := 2) (by decide +kernel))) rfl (t := 0) rfl rfl dX13_feed_83 ?_
                  refine lv_iload hx hb dX13_feed_86 (lv_at hl 0 rfl) ?_
                  refine lv_bipush (v := 24) hx hb dX13_feed_88 rfl ?_
                  refine lv_bipush (v := 8) hx hb dX13_feed_90 rfl ?_
                  refine lv_iload hx hb dX13_feed_92 (lv_at hl 7 rfl) ?_
                  refine lv_iconst (v := 4) hx hb dX13_feed_94 rfl ?_
                  refine lv_irem hx hb dX13_feed_95 (by decide) ?_
                  refine lv_imul hx hb dX13_feed_96 ?_
                  refine lv_isub hx hb dX13_feed_97 ?_
                  refine lv_ishr hx hb dX13_feed_98 ?_
                  refine lv_i2b hx hb dX13_feed_99 rfl ?_
                  obtain ⟨hn9, h⟩ := chk_some h
                  refine r_bast hx hb hK hP hD hT hS kb8 hn9 dX13_feed_100 (fun H locs hP hD hT hS => ?_)
                  generalize pI M2 b8 (ix (gI M2 y2_0 6)) (vp_nar .byte ((y2_5 >>> ((24 - (8 * (y2_6 - y2_6 / 4 * 4))) &&& 31)).toInt8.toInt32)) = Mg2 at h hP hD hT ⊢
                  refine lv_aload_n hx hb dX13_feed_101 rfl (lv_at hl 1 rfl) ?_
                  refine lv_dup hx hb dX13_feed_102 rfl ?_
                  refine r_get (T := TX13) (v := .int (gI Mg2 y2_0 6)) hx hb hts in13 hown hK hP ky2_0 (by decide) rfl 6 (by decide) (hts (.fieldLink RX13 424 "StoneWalkModel" "taped" "I") (List.mem_of_getElem? (i := 2) (by decide +kernel))) rfl (t := 0) rfl rfl dX13_feed_103 ?_
                  refine lv_iconst (v := 1) hx hb dX13_feed_106 rfl ?_
                  refine lv_iadd hx hb dX13_feed_107 ?_
                  refine r_putI (T := TX13) (ty := .int) (v := (gI Mg2 y2_0 6) + 1) hx hb hts in13 tyX13 tyX13_ok nmX13 hown hK hP hD hT hS ky2_0 (by decide) rfl 6 (by decide) (hts (.fieldLink RX13 424 "StoneWalkModel" "taped" "I") (List.mem_of_getElem? (i := 2) (by decide +kernel))) rfl rfl (tyX13_ok 6 (by decide)) rfl rfl rfl dX13_feed_108 (fun H locs hP hD hT hS => ?_)
                  generalize pI Mg2 y2_0 6 ((gI Mg2 y2_0 6) + 1) = Mg3 at h hP hD hT ⊢
                  refine lv_iinc (v := y2_6 + 1) (lv' := [(6, .int (y2_6 + 1)), (7, .int y2_5), (0, .ref (ad y2_0)), (1, .int y2_1), (2, .int y2_2), (3, .int y2_3), (4, .int y2_4), (5, .int y2_5)]) hx hb dX13_feed_111 hl (k := 7) rfl rfl (by decide) rfl (fun ls hl => ?_)
                  refine lv_goto (tgt := 23) hx hb dX13_feed_114 rfl ?_
                  exact ih2 Mg3 y2_0 y2_1 y2_2 y2_3 y2_4 y2_5 (y2_6 + 1) ky2_0 _ _ h hP hD hT hS ls (lv_sub hl [2, 3, 4, 5, 6, 7, 0] rfl)
                · replace h := ite_f c7 h
                  refine lv_iload hx hb dX13_feed_69 (lv_at hl 4 rfl) ?_
                  refine lv_goto (tgt := 76) hx hb dX13_feed_71 rfl ?_
                  refine lv_istore (lv' := [(7, .int y2_4), (0, .ref (ad y2_0)), (1, .int y2_1), (2, .int y2_2), (3, .int y2_3), (4, .int y2_4), (5, .int y2_5), (6, .int y2_6)]) hx hb dX13_feed_76 hl (by decide) rfl (fun ls hl => ?_)
                  refine lv_aload_n hx hb dX13_feed_78 rfl (lv_at hl 1 rfl) ?_
                  rcases hN10 : gR M2 y2_0 5 with _ | b10
                  · exact absurd (oc_n hN10 h) (by simp)
                  replace h := oc_s hN10 h
                  have kb10 := hT.f ky2_0 (k := 5) (t := 14) (n := 900) rfl hN10
                  refine r_get (T := TX13) (v := .ref (ad b10)) hx hb hts in13 hown hK hP ky2_0 (by decide) rfl 5 (by decide) (hts (.fieldLink RX13 13 "StoneWalkModel" "tape" "[B") (List.mem_of_getElem? (i := 3) (by decide +kernel))) rfl (t := 2) rfl (by show va_rf _ = _; rw [hN10]; rfl) dX13_feed_79 ?_
                  refine lv_aload_n hx hb dX13_feed_82 rfl (lv_at hl 1 rfl) ?_
                  refine r_get (T := TX13) (v := .int (gI M2 y2_0 6)) hx hb hts in13 hown hK hP ky2_0 (by decide) rfl 6 (by decide) (hts (.fieldLink RX13 424 "StoneWalkModel" "taped" "I") (List.mem_of_getElem? (i := 2) (by decide +kernel))) rfl (t := 0) rfl rfl dX13_feed_83 ?_
                  refine lv_iload hx hb dX13_feed_86 (lv_at hl 0 rfl) ?_
                  refine lv_bipush (v := 24) hx hb dX13_feed_88 rfl ?_
                  refine lv_bipush (v := 8) hx hb dX13_feed_90 rfl ?_
                  refine lv_iload hx hb dX13_feed_92 (lv_at hl 7 rfl) ?_
                  refine lv_iconst (v := 4) hx hb dX13_feed_94 rfl ?_
                  refine lv_irem hx hb dX13_feed_95 (by decide) ?_
                  refine lv_imul hx hb dX13_feed_96 ?_
                  refine lv_isub hx hb dX13_feed_97 ?_
                  refine lv_ishr hx hb dX13_feed_98 ?_
                  refine lv_i2b hx hb dX13_feed_99 rfl ?_
                  obtain ⟨hn11, h⟩ := chk_some h
                  refine r_bast hx hb hK hP hD hT hS kb10 hn11 dX13_feed_100 (fun H locs hP hD hT hS => ?_)
                  generalize pI M2 b10 (ix (gI M2 y2_0 6)) (vp_nar .byte ((y2_4 >>> ((24 - (8 * (y2_6 - y2_6 / 4 * 4))) &&& 31)).toInt8.toInt32)) = Mg4 at h hP hD hT ⊢
                  refine lv_aload_n hx hb dX13_feed_101 rfl (lv_at hl 1 rfl) ?_
                  refine lv_dup hx hb dX13_feed_102 rfl ?_
                  refine r_get (T := TX13) (v := .int (gI Mg4 y2_0 6)) hx hb hts in13 hown hK hP ky2_0 (by decide) rfl 6 (by decide) (hts (.fieldLink RX13 424 "StoneWalkModel" "taped" "I") (List.mem_of_getElem? (i := 2) (by decide +kernel))) rfl (t := 0) rfl rfl dX13_feed_103 ?_
                  refine lv_iconst (v := 1) hx hb dX13_feed_106 rfl ?_
                  refine lv_iadd hx hb dX13_feed_107 ?_
                  refine r_putI (T := TX13) (ty := .int) (v := (gI Mg4 y2_0 6) + 1) hx hb hts in13 tyX13 tyX13_ok nmX13 hown hK hP hD hT hS ky2_0 (by decide) rfl 6 (by decide) (hts (.fieldLink RX13 424 "StoneWalkModel" "taped" "I") (List.mem_of_getElem? (i := 2) (by decide +kernel))) rfl rfl (tyX13_ok 6 (by decide)) rfl rfl rfl dX13_feed_108 (fun H locs hP hD hT hS => ?_)
                  generalize pI Mg4 y2_0 6 ((gI Mg4 y2_0 6) + 1) = Mg5 at h hP hD hT ⊢
                  refine lv_iinc (v := y2_6 + 1) (lv' := [(6, .int (y2_6 + 1)), (7, .int y2_4), (0, .ref (ad y2_0)), (1, .int y2_1), (2, .int y2_2), (3, .int y2_3), (4, .int y2_4), (5, .int y2_5)]) hx hb dX13_feed_111 hl (k := 7) rfl rfl (by decide) rfl (fun ls hl => ?_)
                  refine lv_goto (tgt := 23) hx hb dX13_feed_114 rfl ?_
                  exact ih2 Mg5 y2_0 y2_1 y2_2 y2_3 y2_4 y2_5 (y2_6 + 1) ky2_0 _ _ h hP hD hT hS ls (lv_sub hl [2, 3, 4, 5, 6, 7, 0] rfl)
              · replace h := ite_f c6 h
                refine lv_iload_n hx hb dX13_feed_58 rfl (lv_at hl 3 rfl) ?_
                refine lv_goto (tgt := 76) hx hb dX13_feed_59 rfl ?_
                refine lv_istore (lv' := [(7, .int y2_3), (0, .ref (ad y2_0)), (1, .int y2_1), (2, .int y2_2), (3, .int y2_3), (4, .int y2_4), (5, .int y2_5), (6, .int y2_6)]) hx hb dX13_feed_76 hl (by decide) rfl (fun ls hl => ?_)
                refine lv_aload_n hx hb dX13_feed_78 rfl (lv_at hl 1 rfl) ?_
                rcases hN12 : gR M2 y2_0 5 with _ | b12
                · exact absurd (oc_n hN12 h) (by simp)
                replace h := oc_s hN12 h
                have kb12 := hT.f ky2_0 (k := 5) (t := 14) (n := 900) rfl hN12
                refine r_get (T := TX13) (v := .ref (ad b12)) hx hb hts in13 hown hK hP ky2_0 (by decide) rfl 5 (by decide) (hts (.fieldLink RX13 13 "StoneWalkModel" "tape" "[B") (List.mem_of_getElem? (i := 3) (by decide +kernel))) rfl (t := 2) rfl (by show va_rf _ = _; rw [hN12]; rfl) dX13_feed_79 ?_
                refine lv_aload_n hx hb dX13_feed_82 rfl (lv_at hl 1 rfl) ?_
                refine r_get (T := TX13) (v := .int (gI M2 y2_0 6)) hx hb hts in13 hown hK hP ky2_0 (by decide) rfl 6 (by decide) (hts (.fieldLink RX13 424 "StoneWalkModel" "taped" "I") (List.mem_of_getElem? (i := 2) (by decide +kernel))) rfl (t := 0) rfl rfl dX13_feed_83 ?_
                refine lv_iload hx hb dX13_feed_86 (lv_at hl 0 rfl) ?_
                refine lv_bipush (v := 24) hx hb dX13_feed_88 rfl ?_
                refine lv_bipush (v := 8) hx hb dX13_feed_90 rfl ?_
                refine lv_iload hx hb dX13_feed_92 (lv_at hl 7 rfl) ?_
                refine lv_iconst (v := 4) hx hb dX13_feed_94 rfl ?_
                refine lv_irem hx hb dX13_feed_95 (by decide) ?_
                refine lv_imul hx hb dX13_feed_96 ?_
                refine lv_isub hx hb dX13_feed_97 ?_
                refine lv_ishr hx hb dX13_feed_98 ?_
                refine lv_i2b hx hb dX13_feed_99 rfl ?_
                obtain ⟨hn13, h⟩ := chk_some h
                refine r_bast hx hb hK hP hD hT hS kb12 hn13 dX13_feed_100 (fun H locs hP hD hT hS => ?_)
                generalize pI M2 b12 (ix (gI M2 y2_0 6)) (vp_nar .byte ((y2_3 >>> ((24 - (8 * (y2_6 - y2_6 / 4 * 4))) &&& 31)).toInt8.toInt32)) = Mg6 at h hP hD hT ⊢
                refine lv_aload_n hx hb dX13_feed_101 rfl (lv_at hl 1 rfl) ?_
                refine lv_dup hx hb dX13_feed_102 rfl ?_
                refine r_get (T := TX13) (v := .int (gI Mg6 y2_0 6)) hx hb hts in13 hown hK hP ky2_0 (by decide) rfl 6 (by decide) (hts (.fieldLink RX13 424 "StoneWalkModel" "taped" "I") (List.mem_of_getElem? (i := 2) (by decide +kernel))) rfl (t := 0) rfl rfl dX13_feed_103 ?_
                refine lv_iconst (v := 1) hx hb dX13_feed_106 rfl ?_
                refine lv_iadd hx hb dX13_feed_107 ?_
                refine r_putI (T := TX13) (ty := .int) (v := (gI Mg6 y2_0 6) + 1) hx hb hts in13 tyX13 tyX13_ok nmX13 hown hK hP hD hT hS ky2_0 (by decide) rfl 6 (by decide) (hts (.fieldLink RX13 424 "StoneWalkModel" "taped" "I") (List.mem_of_getElem? (i := 2) (by decide +kernel))) rfl rfl (tyX13_ok 6 (by decide)) rfl rfl rfl dX13_feed_108 (fun H locs hP hD hT hS => ?_)
                generalize pI Mg6 y2_0 6 ((gI Mg6 y2_0 6) + 1) = Mg7 at h hP hD hT ⊢
                refine lv_iinc (v := y2_6 + 1) (lv' := [(6, .int (y2_6 + 1)), (7, .int y2_3), (0, .ref (ad y2_0)), (1, .int y2_1), (2, .int y2_2), (3, .int y2_3), (4, .int y2_4), (5, .int y2_5)]) hx hb dX13_feed_111 hl (k := 7) rfl rfl (by decide) rfl (fun ls hl => ?_)
                refine lv_goto (tgt := 23) hx hb dX13_feed_114 rfl ?_
                exact ih2 Mg7 y2_0 y2_1 y2_2 y2_3 y2_4 y2_5 (y2_6 + 1) ky2_0 _ _ h hP hD hT hS ls (lv_sub hl [2, 3, 4, 5, 6, 7, 0] rfl)
            · replace h := ite_f c5 h
              refine lv_iload_n hx hb dX13_feed_47 rfl (lv_at hl 2 rfl) ?_
              refine lv_goto (tgt := 76) hx hb dX13_feed_48 rfl ?_
              refine lv_istore (lv' := [(7, .int y2_2), (0, .ref (ad y2_0)), (1, .int y2_1), (2, .int y2_2), (3, .int y2_3), (4, .int y2_4), (5, .int y2_5), (6, .int y2_6)]) hx hb dX13_feed_76 hl (by decide) rfl (fun ls hl => ?_)
              refine lv_aload_n hx hb dX13_feed_78 rfl (lv_at hl 1 rfl) ?_
              rcases hN14 : gR M2 y2_0 5 with _ | b14
              · exact absurd (oc_n hN14 h) (by simp)
              replace h := oc_s hN14 h
              have kb14 := hT.f ky2_0 (k := 5) (t := 14) (n := 900) rfl hN14
              refine r_get (T := TX13) (v := .ref (ad b14)) hx hb hts in13 hown hK hP ky2_0 (by decide) rfl 5 (by decide) (hts (.fieldLink RX13 13 "StoneWalkModel" "tape" "[B") (List.mem_of_getElem? (i := 3) (by decide +kernel))) rfl (t := 2) rfl (by show va_rf _ = _; rw [hN14]; rfl) dX13_feed_79 ?_
              refine lv_aload_n hx hb dX13_feed_82 rfl (lv_at hl 1 rfl) ?_
              refine r_get (T := TX13) (v := .int (gI M2 y2_0 6)) hx hb hts in13 hown hK hP ky2_0 (by decide) rfl 6 (by decide) (hts (.fieldLink RX13 424 "StoneWalkModel" "taped" "I") (List.mem_of_getElem? (i := 2) (by decide +kernel))) rfl (t := 0) rfl rfl dX13_feed_83 ?_
              refine lv_iload hx hb dX13_feed_86 (lv_at hl 0 rfl) ?_
              refine lv_bipush (v := 24) hx hb dX13_feed_88 rfl ?_
              refine lv_bipush (v := 8) hx hb dX13_feed_90 rfl ?_
              refine lv_iload hx hb dX13_feed_92 (lv_at hl 7 rfl) ?_
              refine lv_iconst (v := 4) hx hb dX13_feed_94 rfl ?_
              refine lv_irem hx hb dX13_feed_95 (by decide) ?_
              refine lv_imul hx hb dX13_feed_96 ?_
              refine lv_isub hx hb dX13_feed_97 ?_
              refine lv_ishr hx hb dX13_feed_98 ?_
              refine lv_i2b hx hb dX13_feed_99 rfl ?_
              obtain ⟨hn15, h⟩ := chk_some h
              refine r_bast hx hb hK hP hD hT hS kb14 hn15 dX13_feed_100 (fun H locs hP hD hT hS => ?_)
              generalize pI M2 b14 (ix (gI M2 y2_0 6)) (vp_nar .byte ((y2_2 >>> ((24 - (8 * (y2_6 - y2_6 / 4 * 4))) &&& 31)).toInt8.toInt32)) = Mg8 at h hP hD hT ⊢
              refine lv_aload_n hx hb dX13_feed_101 rfl (lv_at hl 1 rfl) ?_
              refine lv_dup hx hb dX13_feed_102 rfl ?_
              refine r_get (T := TX13) (v := .int (gI Mg8 y2_0 6)) hx hb hts in13 hown hK hP ky2_0 (by decide) rfl 6 (by decide) (hts (.fieldLink RX13 424 "StoneWalkModel" "taped" "I") (List.mem_of_getElem? (i := 2) (by decide +kernel))) rfl (t := 0) rfl rfl dX13_feed_103 ?_
              refine lv_iconst (v := 1) hx hb dX13_feed_106 rfl ?_
              refine lv_iadd hx hb dX13_feed_107 ?_
              refine r_putI (T := TX13) (ty := .int) (v := (gI Mg8 y2_0 6) + 1) hx hb hts in13 tyX13 tyX13_ok nmX13 hown hK hP hD hT hS ky2_0 (by decide) rfl 6 (by decide) (hts (.fieldLink RX13 424 "StoneWalkModel" "taped" "I") (List.mem_of_getElem? (i := 2) (by decide +kernel))) rfl rfl (tyX13_ok 6 (by decide)) rfl rfl rfl dX13_feed_108 (fun H locs hP hD hT hS => ?_)
              generalize pI Mg8 y2_0 6 ((gI Mg8 y2_0 6) + 1) = Mg9 at h hP hD hT ⊢
              refine lv_iinc (v := y2_6 + 1) (lv' := [(6, .int (y2_6 + 1)), (7, .int y2_2), (0, .ref (ad y2_0)), (1, .int y2_1), (2, .int y2_2), (3, .int y2_3), (4, .int y2_4), (5, .int y2_5)]) hx hb dX13_feed_111 hl (k := 7) rfl rfl (by decide) rfl (fun ls hl => ?_)
              refine lv_goto (tgt := 23) hx hb dX13_feed_114 rfl ?_
              exact ih2 Mg9 y2_0 y2_1 y2_2 y2_3 y2_4 y2_5 (y2_6 + 1) ky2_0 _ _ h hP hD hT hS ls (lv_sub hl [2, 3, 4, 5, 6, 7, 0] rfl)
          · replace h := ite_f c4 h
            refine lv_iload_n hx hb dX13_feed_36 rfl (lv_at hl 1 rfl) ?_
            refine lv_goto (tgt := 76) hx hb dX13_feed_37 rfl ?_
            refine lv_istore (lv' := [(7, .int y2_1), (0, .ref (ad y2_0)), (1, .int y2_1), (2, .int y2_2), (3, .int y2_3), (4, .int y2_4), (5, .int y2_5), (6, .int y2_6)]) hx hb dX13_feed_76 hl (by decide) rfl (fun ls hl => ?_)
            refine lv_aload_n hx hb dX13_feed_78 rfl (lv_at hl 1 rfl) ?_
            rcases hN16 : gR M2 y2_0 5 with _ | b16
            · exact absurd (oc_n hN16 h) (by simp)
            replace h := oc_s hN16 h
            have kb16 := hT.f ky2_0 (k := 5) (t := 14) (n := 900) rfl hN16
            refine r_get (T := TX13) (v := .ref (ad b16)) hx hb hts in13 hown hK hP ky2_0 (by decide) rfl 5 (by decide) (hts (.fieldLink RX13 13 "StoneWalkModel" "tape" "[B") (List.mem_of_getElem? (i := 3) (by decide +kernel))) rfl (t := 2) rfl (by show va_rf _ = _; rw [hN16]; rfl) dX13_feed_79 ?_
            refine lv_aload_n hx hb dX13_feed_82 rfl (lv_at hl 1 rfl) ?_
            refine r_get (T := TX13) (v := .int (gI M2 y2_0 6)) hx hb hts in13 hown hK hP ky2_0 (by decide) rfl 6 (by decide) (hts (.fieldLink RX13 424 "StoneWalkModel" "taped" "I") (List.mem_of_getElem? (i := 2) (by decide +kernel))) rfl (t := 0) rfl rfl dX13_feed_83 ?_
            refine lv_iload hx hb dX13_feed_86 (lv_at hl 0 rfl) ?_
            refine lv_bipush (v := 24) hx hb dX13_feed_88 rfl ?_
            refine lv_bipush (v := 8) hx hb dX13_feed_90 rfl ?_
            refine lv_iload hx hb dX13_feed_92 (lv_at hl 7 rfl) ?_
            refine lv_iconst (v := 4) hx hb dX13_feed_94 rfl ?_
            refine lv_irem hx hb dX13_feed_95 (by decide) ?_
            refine lv_imul hx hb dX13_feed_96 ?_
            refine lv_isub hx hb dX13_feed_97 ?_
            refine lv_ishr hx hb dX13_feed_98 ?_
            refine lv_i2b hx hb dX13_feed_99 rfl ?_
            obtain ⟨hn17, h⟩ := chk_some h
            refine r_bast hx hb hK hP hD hT hS kb16 hn17 dX13_feed_100 (fun H locs hP hD hT hS => ?_)
            generalize pI M2 b16 (ix (gI M2 y2_0 6)) (vp_nar .byte ((y2_1 >>> ((24 - (8 * (y2_6 - y2_6 / 4 * 4))) &&& 31)).toInt8.toInt32)) = Mg10 at h hP hD hT ⊢
            refine lv_aload_n hx hb dX13_feed_101 rfl (lv_at hl 1 rfl) ?_
            refine lv_dup hx hb dX13_feed_102 rfl ?_
            refine r_get (T := TX13) (v := .int (gI Mg10 y2_0 6)) hx hb hts in13 hown hK hP ky2_0 (by decide) rfl 6 (by decide) (hts (.fieldLink RX13 424 "StoneWalkModel" "taped" "I") (List.mem_of_getElem? (i := 2) (by decide +kernel))) rfl (t := 0) rfl rfl dX13_feed_103 ?_
            refine lv_iconst (v := 1) hx hb dX13_feed_106 rfl ?_
            refine lv_iadd hx hb dX13_feed_107 ?_
            refine r_putI (T := TX13) (ty := .int) (v := (gI Mg10 y2_0 6) + 1) hx hb hts in13 tyX13 tyX13_ok nmX13 hown hK hP hD hT hS ky2_0 (by decide) rfl 6 (by decide) (hts (.fieldLink RX13 424 "StoneWalkModel" "taped" "I") (List.mem_of_getElem? (i := 2) (by decide +kernel))) rfl rfl (tyX13_ok 6 (by decide)) rfl rfl rfl dX13_feed_108 (fun H locs hP hD hT hS => ?_)
            generalize pI Mg10 y2_0 6 ((gI Mg10 y2_0 6) + 1) = Mg11 at h hP hD hT ⊢
            refine lv_iinc (v := y2_6 + 1) (lv' := [(6, .int (y2_6 + 1)), (7, .int y2_1), (0, .ref (ad y2_0)), (1, .int y2_1), (2, .int y2_2), (3, .int y2_3), (4, .int y2_4), (5, .int y2_5)]) hx hb dX13_feed_111 hl (k := 7) rfl rfl (by decide) rfl (fun ls hl => ?_)
            refine lv_goto (tgt := 23) hx hb dX13_feed_114 rfl ?_
            exact ih2 Mg11 y2_0 y2_1 y2_2 y2_3 y2_4 y2_5 (y2_6 + 1) ky2_0 _ _ h hP hD hT hS ls (lv_sub hl [2, 3, 4, 5, 6, 7, 0] rfl)
    exact L2 FU Mg1 a0 x1 x2 x3 x4 x5 0 k0 _ _ h hP hD hT hS ls (lv_sub hl [1, 2, 3, 4, 5, 6, 0] rfl)
  · replace h := ite_f c1 h
    refine lv_iconst (v := (-1)) hx hb dX13_feed_18 rfl ?_
    have hZ := Option.some.inj h
    have hZ1 := congrArg Prod.fst hZ
    have hZ2 := congrArg Prod.snd hZ
    exact r_iret hx hb hr hlocks hP hK hD hT hG hS hZ1 hZ2 dX13_feed_19
set_option maxHeartbeats 4000000 in
set_option maxRecDepth 100000 in
theorem c_X13_fault {l : Launch} {D : va_G} {ad : Nat → Nat} {cy : Nat → ClassId} {A : Nat → Prop} {g : CG} {q : SE} (M : MM) (a0 : Nat) (k0 : ok g a0 13 0) {Z : (Int32 × MM)} (h : f_X13_fault M a0 = some Z) : Met l yX13_fault wsX13_fault ({ frames := 0, cells := 0, slots := 0, locals := 0 }) (va_Pc [.ref (ad a0)] (Wd D ad cy A g q M)) (va_Qi (fun r u => r = Z.1 ∧ u = Z.2) (Wd D ad cy A g q) A) 0 0 A := by
  refine Met.ofW (cc := cX13_fault) (maxL := 1) (ret := (some .int)) (by decide) rfl ?_
  intro p e s m args below meth c s₁ B hml hv
  obtain ⟨rfl, hP, hK, hD, hT, hG⟩ := hv
  have hx := B.exec
  have hb := B.bytes
  have hr := B.returns
  have hts := atoms_spec (ws := wsX13_fault) B.pre
  have hown : s.vm.findClass RX13 = some m.cls := findClass_of_methodNamed B.named
  have hlocks := B.notSynchronized
  have in13 : ∀ w ∈ u_ws RX13 TX13 29, w ∈ wsX13_fault := fun w h => List.mem_cons_of_mem _ (List.mem_append_right _ h)
  have hS : va_S A s.heap s.heap [] := va_S.rf
  have hl := lv_entry ([.ref (ad a0)]) (n := 1) (Nat.le_of_ble_eq_true rfl)
  rw [lg_entry_eq]
  generalize (lg_sl ([.ref (ad a0)]) ++ List.replicate (1 - (lg_sl ([.ref (ad a0)])).length) Slot.unset).toArray = ls at hl ⊢
  have hl : lv_has ls 1 [(0, .ref (ad a0))] := hl
  unfold f_X13_fault at h
  refine lv_aload_n hx hb dX13_fault_0 rfl (lv_at hl 0 rfl) ?_
  refine lv_iconst (v := 0) hx hb dX13_fault_1 rfl ?_
  refine r_putI (T := TX13) (ty := .int) (v := 0) hx hb hts in13 tyX13 tyX13_ok nmX13 hown hK hP hD hT hS k0 (by decide) rfl 0 (by decide) (hts (.fieldLink RX13 30 "StoneWalkModel" "thrown" "I") (List.mem_of_getElem? (i := 1) (by decide +kernel))) rfl rfl (tyX13_ok 0 (by decide)) rfl rfl rfl dX13_fault_2 (fun H locs hP hD hT hS => ?_)
  generalize pI M a0 0 0 = Mg1 at h hP hD hT ⊢
  refine lv_aload_n hx hb dX13_fault_5 rfl (lv_at hl 0 rfl) ?_
  refine r_get (T := TX13) (v := .int (gI Mg1 a0 13)) hx hb hts in13 hown hK hP k0 (by decide) rfl 13 (by decide) (hts (.fieldLink RX13 87 "StoneWalkModel" "fault" "I") (List.mem_of_getElem? (i := 2) (by decide +kernel))) rfl (t := 0) rfl rfl dX13_fault_6 ?_
  have hZ := Option.some.inj h
  have hZ1 := congrArg Prod.fst hZ
  have hZ2 := congrArg Prod.snd hZ
  exact r_iret hx hb hr hlocks hP hK hD hT hG hS hZ1 hZ2 dX13_fault_9
set_option maxHeartbeats 4000000 in
set_option maxRecDepth 100000 in
theorem c_X13_where {l : Launch} {D : va_G} {ad : Nat → Nat} {cy : Nat → ClassId} {A : Nat → Prop} {g : CG} {q : SE} (M : MM) (a0 : Nat) (k0 : ok g a0 13 0) {Z : (Int32 × MM)} (h : f_X13_where M a0 = some Z) : Met l yX13_where wsX13_where ({ frames := 0, cells := 0, slots := 0, locals := 0 }) (va_Pc [.ref (ad a0)] (Wd D ad cy A g q M)) (va_Qi (fun r u => r = Z.1 ∧ u = Z.2) (Wd D ad cy A g q) A) 0 0 A := by
  refine Met.ofW (cc := cX13_where) (maxL := 1) (ret := (some .int)) (by decide) rfl ?_
  intro p e s m args below meth c s₁ B hml hv
  obtain ⟨rfl, hP, hK, hD, hT, hG⟩ := hv
  have hx := B.exec
  have hb := B.bytes
  have hr := B.returns
  have hts := atoms_spec (ws := wsX13_where) B.pre
  have hown : s.vm.findClass RX13 = some m.cls := findClass_of_methodNamed B.named
  have hlocks := B.notSynchronized
  have in13 : ∀ w ∈ u_ws RX13 TX13 29, w ∈ wsX13_where := fun w h => List.mem_cons_of_mem _ (List.mem_append_right _ h)
  have hS : va_S A s.heap s.heap [] := va_S.rf
  have hl := lv_entry ([.ref (ad a0)]) (n := 1) (Nat.le_of_ble_eq_true rfl)
  rw [lg_entry_eq]
  generalize (lg_sl ([.ref (ad a0)]) ++ List.replicate (1 - (lg_sl ([.ref (ad a0)])).length) Slot.unset).toArray = ls at hl ⊢
  have hl : lv_has ls 1 [(0, .ref (ad a0))] := hl
  unfold f_X13_where at h
  refine lv_aload_n hx hb dX13_where_0 rfl (lv_at hl 0 rfl) ?_
  refine lv_iconst (v := 0) hx hb dX13_where_1 rfl ?_
  refine r_putI (T := TX13) (ty := .int) (v := 0) hx hb hts in13 tyX13 tyX13_ok nmX13 hown hK hP hD hT hS k0 (by decide) rfl 0 (by decide) (hts (.fieldLink RX13 30 "StoneWalkModel" "thrown" "I") (List.mem_of_getElem? (i := 1) (by decide +kernel))) rfl rfl (tyX13_ok 0 (by decide)) rfl rfl rfl dX13_where_2 (fun H locs hP hD hT hS => ?_)
  generalize pI M a0 0 0 = Mg1 at h hP hD hT ⊢
  refine lv_aload_n hx hb dX13_where_5 rfl (lv_at hl 0 rfl) ?_
  refine r_get (T := TX13) (v := .int (gI Mg1 a0 2)) hx hb hts in13 hown hK hP k0 (by decide) rfl 2 (by decide) (hts (.fieldLink RX13 9 "StoneWalkModel" "where" "I") (List.mem_of_getElem? (i := 2) (by decide +kernel))) rfl (t := 0) rfl rfl dX13_where_6 ?_
  have hZ := Option.some.inj h
  have hZ1 := congrArg Prod.fst hZ
  have hZ2 := congrArg Prod.snd hZ
  exact r_iret hx hb hr hlocks hP hK hD hT hG hS hZ1 hZ2 dX13_where_9
set_option maxHeartbeats 4000000 in
set_option maxRecDepth 100000 in
theorem c_X13_isWay {l : Launch} {D : va_G} {ad : Nat → Nat} {cy : Nat → ClassId} {A : Nat → Prop} {g : CG} {q : SE} (M : MM) (a0 : Nat) (x1 : Int32) (k0 : ok g a0 13 0) {Z : Int32} (h : f_X13_isWay M a0 x1 = some Z) : Met l yX13_isWay wsX13_isWay ({ frames := 0, cells := 0, slots := 0, locals := 0 }) (va_Pc [.ref (ad a0), .int x1] (Wd D ad cy A g q M)) (va_Qi (fun r u => r = Z ∧ u = M ∧ zb r) (Wd D ad cy A g q) A) 0 0 A := by
  refine Met.ofW (cc := cX13_isWay) (maxL := 2) (ret := (some .boolean)) (by decide) rfl ?_
  intro p e s m args below meth c s₁ B hml hv
  obtain ⟨rfl, hP, hK, hD, hT, hG⟩ := hv
  have hx := B.exec
  have hb := B.bytes
  have hr := B.returns
  have hts := atoms_spec (ws := wsX13_isWay) B.pre
  have hown : s.vm.findClass RX13 = some m.cls := findClass_of_methodNamed B.named
  have hlocks := B.notSynchronized
  have in12 : ∀ w ∈ u_ws RX12 TX12 48, w ∈ wsX13_isWay := fun w h => List.mem_cons_of_mem _ (List.mem_append_right _ h)
  have in13 : ∀ w ∈ u_ws RX13 TX13 29, w ∈ wsX13_isWay := fun w h => List.mem_cons_of_mem _ (List.mem_append_left _ (List.mem_append_right _ h))
  have hS : va_S A s.heap s.heap [] := va_S.rf
  have hl := lv_entry ([.ref (ad a0), .int x1]) (n := 2) (Nat.le_of_ble_eq_true rfl)
  rw [lg_entry_eq]
  generalize (lg_sl ([.ref (ad a0), .int x1]) ++ List.replicate (2 - (lg_sl ([.ref (ad a0), .int x1])).length) Slot.unset).toArray = ls at hl ⊢
  have hl : lv_has ls 2 [(0, .ref (ad a0)), (1, .int x1)] := hl
  unfold f_X13_isWay at h
  refine lv_aload_n hx hb dX13_isWay_0 rfl (lv_at hl 0 rfl) ?_
  rcases hN1 : gR M a0 3 with _ | b1
  · replace h := oc_n hN1 h
    refine r_get (T := TX13) (v := .null) hx hb hts in13 hown hK hP k0 (by decide) rfl 3 (by decide) (hts (.fieldLink RX13 431 "StoneWalkModel" "island" "LStoneWalkModel$Island;") (List.mem_of_getElem? (i := 1) (by decide +kernel))) rfl (t := 2) rfl (by show va_rf _ = _; rw [hN1]; rfl) dX13_isWay_1 ?_
    refine lv_ifnullN (tgt := 26) hx hb dX13_isWay_4 rfl ?_
    refine lv_iconst (v := 0) hx hb dX13_isWay_26 rfl ?_
    exact r_zret hx hb hr hlocks hP hK hD hT hG hS zb_0 (Option.some.inj h) rfl dX13_isWay_27
  · replace h := oc_s hN1 h
    have kb1 := hT.f k0 (k := 3) (t := 12) (n := 0) rfl hN1
    refine r_get (T := TX13) (v := .ref (ad b1)) hx hb hts in13 hown hK hP k0 (by decide) rfl 3 (by decide) (hts (.fieldLink RX13 431 "StoneWalkModel" "island" "LStoneWalkModel$Island;") (List.mem_of_getElem? (i := 1) (by decide +kernel))) rfl (t := 2) rfl (by show va_rf _ = _; rw [hN1]; rfl) dX13_isWay_1 ?_
    refine lv_ifnull hx hb dX13_isWay_4 ?_
    refine lv_iload_n hx hb dX13_isWay_7 rfl (lv_at hl 1 rfl) ?_
    refine lv_if_lt (tgt := 26) hx hb dX13_isWay_8 rfl (fun c2 => ?_) (fun c2 => ?_)
    · replace h := ite_t c2 h
      refine lv_iconst (v := 0) hx hb dX13_isWay_26 rfl ?_
      exact r_zret hx hb hr hlocks hP hK hD hT hG hS zb_0 (Option.some.inj h) rfl dX13_isWay_27
    · replace h := ite_f c2 h
      refine lv_iload_n hx hb dX13_isWay_11 rfl (lv_at hl 1 rfl) ?_
      refine lv_aload_n hx hb dX13_isWay_12 rfl (lv_at hl 0 rfl) ?_
      rcases hN3 : gR M a0 3 with _ | b3
      · replace h := oc_n hN3 h
        refine r_get (T := TX13) (v := .null) hx hb hts in13 hown hK hP k0 (by decide) rfl 3 (by decide) (hts (.fieldLink RX13 431 "StoneWalkModel" "island" "LStoneWalkModel$Island;") (List.mem_of_getElem? (i := 1) (by decide +kernel))) rfl (t := 2) rfl (by show va_rf _ = _; rw [hN3]; rfl) dX13_isWay_13 ?_
        exact absurd h (by simp)
      · replace h := oc_s hN3 h
        have kb3 := hT.f k0 (k := 3) (t := 12) (n := 0) rfl hN3
        refine r_get (T := TX13) (v := .ref (ad b3)) hx hb hts in13 hown hK hP k0 (by decide) rfl 3 (by decide) (hts (.fieldLink RX13 431 "StoneWalkModel" "island" "LStoneWalkModel$Island;") (List.mem_of_getElem? (i := 1) (by decide +kernel))) rfl (t := 2) rfl (by show va_rf _ = _; rw [hN3]; rfl) dX13_isWay_13 ?_
        refine r_getN (T := TX12) (v := .int (gI M b3 0)) hx hb hts in12 hown hK hP kb3 (by decide) rfl 0 (by decide) (hG.2.2.1 ("StoneWalkModel", 185, "StoneWalkModel$Island", "ways", "I", "StoneWalkModel") (List.mem_of_getElem? (i := 5) rfl)) rfl (t := 0) rfl rfl dX13_isWay_16 ?_
        refine lv_icmp_ge (tgt := 26) hx hb dX13_isWay_19 rfl (fun c4 => ?_) (fun c4 => ?_)
        · replace h := ite_t c4 h
          refine lv_iconst (v := 0) hx hb dX13_isWay_26 rfl ?_
          exact r_zret hx hb hr hlocks hP hK hD hT hG hS zb_0 (Option.some.inj h) rfl dX13_isWay_27
        · replace h := ite_f c4 h
          refine lv_iconst (v := 1) hx hb dX13_isWay_22 rfl ?_
          refine lv_goto (tgt := 27) hx hb dX13_isWay_23 rfl ?_
          exact r_zret hx hb hr hlocks hP hK hD hT hG hS zb_1 (Option.some.inj h) rfl dX13_isWay_27
set_option maxHeartbeats 4000000 in
set_option maxRecDepth 100000 in
theorem c_X13_isRoad {l : Launch} {D : va_G} {ad : Nat → Nat} {cy : Nat → ClassId} {A : Nat → Prop} {g : CG} {q : SE} (M : MM) (a0 : Nat) (x1 : Int32) (k0 : ok g a0 13 0) {Z : Int32} (h : f_X13_isRoad M a0 x1 = some Z) : Met l yX13_isRoad wsX13_isRoad ({ frames := 0, cells := 0, slots := 0, locals := 0 }) (va_Pc [.ref (ad a0), .int x1] (Wd D ad cy A g q M)) (va_Qi (fun r u => r = Z ∧ u = M ∧ zb r) (Wd D ad cy A g q) A) 0 0 A := by
  refine Met.ofW (cc := cX13_isRoad) (maxL := 2) (ret := (some .boolean)) (by decide) rfl ?_
  intro p e s m args below meth c s₁ B hml hv
  obtain ⟨rfl, hP, hK, hD, hT, hG⟩ := hv
  have hx := B.exec
  have hb := B.bytes
  have hr := B.returns
  have hts := atoms_spec (ws := wsX13_isRoad) B.pre
  have hown : s.vm.findClass RX13 = some m.cls := findClass_of_methodNamed B.named
  have hlocks := B.notSynchronized
  have in12 : ∀ w ∈ u_ws RX12 TX12 48, w ∈ wsX13_isRoad := fun w h => List.mem_cons_of_mem _ (List.mem_append_right _ h)
  have in13 : ∀ w ∈ u_ws RX13 TX13 29, w ∈ wsX13_isRoad := fun w h => List.mem_cons_of_mem _ (List.mem_append_left _ (List.mem_append_right _ h))
  have hS : va_S A s.heap s.heap [] := va_S.rf
  have hl := lv_entry ([.ref (ad a0), .int x1]) (n := 2) (Nat.le_of_ble_eq_true rfl)
  rw [lg_entry_eq]
  generalize (lg_sl ([.ref (ad a0), .int x1]) ++ List.replicate (2 - (lg_sl ([.ref (ad a0), .int x1])).length) Slot.unset).toArray = ls at hl ⊢
  have hl : lv_has ls 2 [(0, .ref (ad a0)), (1, .int x1)] := hl
  unfold f_X13_isRoad at h
  refine lv_aload_n hx hb dX13_isRoad_0 rfl (lv_at hl 0 rfl) ?_
  rcases hN1 : gR M a0 3 with _ | b1
  · replace h := oc_n hN1 h
    refine r_get (T := TX13) (v := .null) hx hb hts in13 hown hK hP k0 (by decide) rfl 3 (by decide) (hts (.fieldLink RX13 431 "StoneWalkModel" "island" "LStoneWalkModel$Island;") (List.mem_of_getElem? (i := 1) (by decide +kernel))) rfl (t := 2) rfl (by show va_rf _ = _; rw [hN1]; rfl) dX13_isRoad_1 ?_
    refine lv_ifnullN (tgt := 26) hx hb dX13_isRoad_4 rfl ?_
    refine lv_iconst (v := 0) hx hb dX13_isRoad_26 rfl ?_
    exact r_zret hx hb hr hlocks hP hK hD hT hG hS zb_0 (Option.some.inj h) rfl dX13_isRoad_27
  · replace h := oc_s hN1 h
    have kb1 := hT.f k0 (k := 3) (t := 12) (n := 0) rfl hN1
    refine r_get (T := TX13) (v := .ref (ad b1)) hx hb hts in13 hown hK hP k0 (by decide) rfl 3 (by decide) (hts (.fieldLink RX13 431 "StoneWalkModel" "island" "LStoneWalkModel$Island;") (List.mem_of_getElem? (i := 1) (by decide +kernel))) rfl (t := 2) rfl (by show va_rf _ = _; rw [hN1]; rfl) dX13_isRoad_1 ?_
    refine lv_ifnull hx hb dX13_isRoad_4 ?_
    refine lv_iload_n hx hb dX13_isRoad_7 rfl (lv_at hl 1 rfl) ?_
    refine lv_if_lt (tgt := 26) hx hb dX13_isRoad_8 rfl (fun c2 => ?_) (fun c2 => ?_)
    · replace h := ite_t c2 h
      refine lv_iconst (v := 0) hx hb dX13_isRoad_26 rfl ?_
      exact r_zret hx hb hr hlocks hP hK hD hT hG hS zb_0 (Option.some.inj h) rfl dX13_isRoad_27
    · replace h := ite_f c2 h
      refine lv_iload_n hx hb dX13_isRoad_11 rfl (lv_at hl 1 rfl) ?_
      refine lv_aload_n hx hb dX13_isRoad_12 rfl (lv_at hl 0 rfl) ?_
      rcases hN3 : gR M a0 3 with _ | b3
      · replace h := oc_n hN3 h
        refine r_get (T := TX13) (v := .null) hx hb hts in13 hown hK hP k0 (by decide) rfl 3 (by decide) (hts (.fieldLink RX13 431 "StoneWalkModel" "island" "LStoneWalkModel$Island;") (List.mem_of_getElem? (i := 1) (by decide +kernel))) rfl (t := 2) rfl (by show va_rf _ = _; rw [hN3]; rfl) dX13_isRoad_13 ?_
        exact absurd h (by simp)
      · replace h := oc_s hN3 h
        have kb3 := hT.f k0 (k := 3) (t := 12) (n := 0) rfl hN3
        refine r_get (T := TX13) (v := .ref (ad b3)) hx hb hts in13 hown hK hP k0 (by decide) rfl 3 (by decide) (hts (.fieldLink RX13 431 "StoneWalkModel" "island" "LStoneWalkModel$Island;") (List.mem_of_getElem? (i := 1) (by decide +kernel))) rfl (t := 2) rfl (by show va_rf _ = _; rw [hN3]; rfl) dX13_isRoad_13 ?_
        refine r_getN (T := TX12) (v := .int (gI M b3 1)) hx hb hts in12 hown hK hP kb3 (by decide) rfl 1 (by decide) (hG.2.2.1 ("StoneWalkModel", 188, "StoneWalkModel$Island", "roads", "I", "StoneWalkModel") (List.mem_of_getElem? (i := 6) rfl)) rfl (t := 0) rfl rfl dX13_isRoad_16 ?_
        refine lv_icmp_ge (tgt := 26) hx hb dX13_isRoad_19 rfl (fun c4 => ?_) (fun c4 => ?_)
        · replace h := ite_t c4 h
          refine lv_iconst (v := 0) hx hb dX13_isRoad_26 rfl ?_
          exact r_zret hx hb hr hlocks hP hK hD hT hG hS zb_0 (Option.some.inj h) rfl dX13_isRoad_27
        · replace h := ite_f c4 h
          refine lv_iconst (v := 1) hx hb dX13_isRoad_22 rfl ?_
          refine lv_goto (tgt := 27) hx hb dX13_isRoad_23 rfl ?_
          exact r_zret hx hb hr hlocks hP hK hD hT hG hS zb_1 (Option.some.inj h) rfl dX13_isRoad_27
set_option maxHeartbeats 4000000 in
set_option maxRecDepth 100000 in
theorem c_X13_isStatue {l : Launch} {D : va_G} {ad : Nat → Nat} {cy : Nat → ClassId} {A : Nat → Prop} {g : CG} {q : SE} (M : MM) (a0 : Nat) (x1 : Int32) (k0 : ok g a0 13 0) {Z : Int32} (h : f_X13_isStatue M a0 x1 = some Z) : Met l yX13_isStatue wsX13_isStatue ({ frames := 0, cells := 0, slots := 0, locals := 0 }) (va_Pc [.ref (ad a0), .int x1] (Wd D ad cy A g q M)) (va_Qi (fun r u => r = Z ∧ u = M ∧ zb r) (Wd D ad cy A g q) A) 0 0 A := by
  refine Met.ofW (cc := cX13_isStatue) (maxL := 2) (ret := (some .boolean)) (by decide) rfl ?_
  intro p e s m args below meth c s₁ B hml hv
  obtain ⟨rfl, hP, hK, hD, hT, hG⟩ := hv
  have hx := B.exec
  have hb := B.bytes
  have hr := B.returns
  have hts := atoms_spec (ws := wsX13_isStatue) B.pre
  have hown : s.vm.findClass RX13 = some m.cls := findClass_of_methodNamed B.named
  have hlocks := B.notSynchronized
  have in12 : ∀ w ∈ u_ws RX12 TX12 48, w ∈ wsX13_isStatue := fun w h => List.mem_cons_of_mem _ (List.mem_append_right _ h)
  have in13 : ∀ w ∈ u_ws RX13 TX13 29, w ∈ wsX13_isStatue := fun w h => List.mem_cons_of_mem _ (List.mem_append_left _ (List.mem_append_right _ h))
  have hS : va_S A s.heap s.heap [] := va_S.rf
  have hl := lv_entry ([.ref (ad a0), .int x1]) (n := 2) (Nat.le_of_ble_eq_true rfl)
  rw [lg_entry_eq]
  generalize (lg_sl ([.ref (ad a0), .int x1]) ++ List.replicate (2 - (lg_sl ([.ref (ad a0), .int x1])).length) Slot.unset).toArray = ls at hl ⊢
  have hl : lv_has ls 2 [(0, .ref (ad a0)), (1, .int x1)] := hl
  unfold f_X13_isStatue at h
  refine lv_aload_n hx hb dX13_isStatue_0 rfl (lv_at hl 0 rfl) ?_
  rcases hN1 : gR M a0 3 with _ | b1
  · replace h := oc_n hN1 h
    refine r_get (T := TX13) (v := .null) hx hb hts in13 hown hK hP k0 (by decide) rfl 3 (by decide) (hts (.fieldLink RX13 431 "StoneWalkModel" "island" "LStoneWalkModel$Island;") (List.mem_of_getElem? (i := 1) (by decide +kernel))) rfl (t := 2) rfl (by show va_rf _ = _; rw [hN1]; rfl) dX13_isStatue_1 ?_
    refine lv_ifnullN (tgt := 26) hx hb dX13_isStatue_4 rfl ?_
    refine lv_iconst (v := 0) hx hb dX13_isStatue_26 rfl ?_
    exact r_zret hx hb hr hlocks hP hK hD hT hG hS zb_0 (Option.some.inj h) rfl dX13_isStatue_27
  · replace h := oc_s hN1 h
    have kb1 := hT.f k0 (k := 3) (t := 12) (n := 0) rfl hN1
    refine r_get (T := TX13) (v := .ref (ad b1)) hx hb hts in13 hown hK hP k0 (by decide) rfl 3 (by decide) (hts (.fieldLink RX13 431 "StoneWalkModel" "island" "LStoneWalkModel$Island;") (List.mem_of_getElem? (i := 1) (by decide +kernel))) rfl (t := 2) rfl (by show va_rf _ = _; rw [hN1]; rfl) dX13_isStatue_1 ?_
    refine lv_ifnull hx hb dX13_isStatue_4 ?_
    refine lv_iload_n hx hb dX13_isStatue_7 rfl (lv_at hl 1 rfl) ?_
    refine lv_if_lt (tgt := 26) hx hb dX13_isStatue_8 rfl (fun c2 => ?_) (fun c2 => ?_)
    · replace h := ite_t c2 h
      refine lv_iconst (v := 0) hx hb dX13_isStatue_26 rfl ?_
      exact r_zret hx hb hr hlocks hP hK hD hT hG hS zb_0 (Option.some.inj h) rfl dX13_isStatue_27
    · replace h := ite_f c2 h
      refine lv_iload_n hx hb dX13_isStatue_11 rfl (lv_at hl 1 rfl) ?_
      refine lv_aload_n hx hb dX13_isStatue_12 rfl (lv_at hl 0 rfl) ?_
      rcases hN3 : gR M a0 3 with _ | b3
      · replace h := oc_n hN3 h
        refine r_get (T := TX13) (v := .null) hx hb hts in13 hown hK hP k0 (by decide) rfl 3 (by decide) (hts (.fieldLink RX13 431 "StoneWalkModel" "island" "LStoneWalkModel$Island;") (List.mem_of_getElem? (i := 1) (by decide +kernel))) rfl (t := 2) rfl (by show va_rf _ = _; rw [hN3]; rfl) dX13_isStatue_13 ?_
        exact absurd h (by simp)
      · replace h := oc_s hN3 h
        have kb3 := hT.f k0 (k := 3) (t := 12) (n := 0) rfl hN3
        refine r_get (T := TX13) (v := .ref (ad b3)) hx hb hts in13 hown hK hP k0 (by decide) rfl 3 (by decide) (hts (.fieldLink RX13 431 "StoneWalkModel" "island" "LStoneWalkModel$Island;") (List.mem_of_getElem? (i := 1) (by decide +kernel))) rfl (t := 2) rfl (by show va_rf _ = _; rw [hN3]; rfl) dX13_isStatue_13 ?_
        refine r_getN (T := TX12) (v := .int (gI M b3 2)) hx hb hts in12 hown hK hP kb3 (by decide) rfl 2 (by decide) (hG.2.2.1 ("StoneWalkModel", 191, "StoneWalkModel$Island", "statues", "I", "StoneWalkModel") (List.mem_of_getElem? (i := 7) rfl)) rfl (t := 0) rfl rfl dX13_isStatue_16 ?_
        refine lv_icmp_ge (tgt := 26) hx hb dX13_isStatue_19 rfl (fun c4 => ?_) (fun c4 => ?_)
        · replace h := ite_t c4 h
          refine lv_iconst (v := 0) hx hb dX13_isStatue_26 rfl ?_
          exact r_zret hx hb hr hlocks hP hK hD hT hG hS zb_0 (Option.some.inj h) rfl dX13_isStatue_27
        · replace h := ite_f c4 h
          refine lv_iconst (v := 1) hx hb dX13_isStatue_22 rfl ?_
          refine lv_goto (tgt := 27) hx hb dX13_isStatue_23 rfl ?_
          exact r_zret hx hb hr hlocks hP hK hD hT hG hS zb_1 (Option.some.inj h) rfl dX13_isStatue_27
set_option maxHeartbeats 4000000 in
set_option maxRecDepth 100000 in
theorem c_X13_isStory {l : Launch} {D : va_G} {ad : Nat → Nat} {cy : Nat → ClassId} {A : Nat → Prop} {g : CG} {q : SE} (M : MM) (a0 : Nat) (x1 : Int32) (k0 : ok g a0 13 0) {Z : Int32} (h : f_X13_isStory M a0 x1 = some Z) : Met l yX13_isStory wsX13_isStory ({ frames := 0, cells := 0, slots := 0, locals := 0 }) (va_Pc [.ref (ad a0), .int x1] (Wd D ad cy A g q M)) (va_Qi (fun r u => r = Z ∧ u = M ∧ zb r) (Wd D ad cy A g q) A) 0 0 A := by
  refine Met.ofW (cc := cX13_isStory) (maxL := 2) (ret := (some .boolean)) (by decide) rfl ?_
  intro p e s m args below meth c s₁ B hml hv
  obtain ⟨rfl, hP, hK, hD, hT, hG⟩ := hv
  have hx := B.exec
  have hb := B.bytes
  have hr := B.returns
  have hts := atoms_spec (ws := wsX13_isStory) B.pre
  have hown : s.vm.findClass RX13 = some m.cls := findClass_of_methodNamed B.named
  have hlocks := B.notSynchronized
  have in12 : ∀ w ∈ u_ws RX12 TX12 48, w ∈ wsX13_isStory := fun w h => List.mem_cons_of_mem _ (List.mem_append_right _ h)
  have in13 : ∀ w ∈ u_ws RX13 TX13 29, w ∈ wsX13_isStory := fun w h => List.mem_cons_of_mem _ (List.mem_append_left _ (List.mem_append_right _ h))
  have hS : va_S A s.heap s.heap [] := va_S.rf
  have hl := lv_entry ([.ref (ad a0), .int x1]) (n := 2) (Nat.le_of_ble_eq_true rfl)
  rw [lg_entry_eq]
  generalize (lg_sl ([.ref (ad a0), .int x1]) ++ List.replicate (2 - (lg_sl ([.ref (ad a0), .int x1])).length) Slot.unset).toArray = ls at hl ⊢
  have hl : lv_has ls 2 [(0, .ref (ad a0)), (1, .int x1)] := hl
  unfold f_X13_isStory at h
  refine lv_aload_n hx hb dX13_isStory_0 rfl (lv_at hl 0 rfl) ?_
  rcases hN1 : gR M a0 3 with _ | b1
  · replace h := oc_n hN1 h
    refine r_get (T := TX13) (v := .null) hx hb hts in13 hown hK hP k0 (by decide) rfl 3 (by decide) (hts (.fieldLink RX13 431 "StoneWalkModel" "island" "LStoneWalkModel$Island;") (List.mem_of_getElem? (i := 1) (by decide +kernel))) rfl (t := 2) rfl (by show va_rf _ = _; rw [hN1]; rfl) dX13_isStory_1 ?_
    refine lv_ifnullN (tgt := 26) hx hb dX13_isStory_4 rfl ?_
    refine lv_iconst (v := 0) hx hb dX13_isStory_26 rfl ?_
    exact r_zret hx hb hr hlocks hP hK hD hT hG hS zb_0 (Option.some.inj h) rfl dX13_isStory_27
  · replace h := oc_s hN1 h
    have kb1 := hT.f k0 (k := 3) (t := 12) (n := 0) rfl hN1
    refine r_get (T := TX13) (v := .ref (ad b1)) hx hb hts in13 hown hK hP k0 (by decide) rfl 3 (by decide) (hts (.fieldLink RX13 431 "StoneWalkModel" "island" "LStoneWalkModel$Island;") (List.mem_of_getElem? (i := 1) (by decide +kernel))) rfl (t := 2) rfl (by show va_rf _ = _; rw [hN1]; rfl) dX13_isStory_1 ?_
    refine lv_ifnull hx hb dX13_isStory_4 ?_
    refine lv_iload_n hx hb dX13_isStory_7 rfl (lv_at hl 1 rfl) ?_
    refine lv_if_lt (tgt := 26) hx hb dX13_isStory_8 rfl (fun c2 => ?_) (fun c2 => ?_)
    · replace h := ite_t c2 h
      refine lv_iconst (v := 0) hx hb dX13_isStory_26 rfl ?_
      exact r_zret hx hb hr hlocks hP hK hD hT hG hS zb_0 (Option.some.inj h) rfl dX13_isStory_27
    · replace h := ite_f c2 h
      refine lv_iload_n hx hb dX13_isStory_11 rfl (lv_at hl 1 rfl) ?_
      refine lv_aload_n hx hb dX13_isStory_12 rfl (lv_at hl 0 rfl) ?_
      rcases hN3 : gR M a0 3 with _ | b3
      · replace h := oc_n hN3 h
        refine r_get (T := TX13) (v := .null) hx hb hts in13 hown hK hP k0 (by decide) rfl 3 (by decide) (hts (.fieldLink RX13 431 "StoneWalkModel" "island" "LStoneWalkModel$Island;") (List.mem_of_getElem? (i := 1) (by decide +kernel))) rfl (t := 2) rfl (by show va_rf _ = _; rw [hN3]; rfl) dX13_isStory_13 ?_
        exact absurd h (by simp)
      · replace h := oc_s hN3 h
        have kb3 := hT.f k0 (k := 3) (t := 12) (n := 0) rfl hN3
        refine r_get (T := TX13) (v := .ref (ad b3)) hx hb hts in13 hown hK hP k0 (by decide) rfl 3 (by decide) (hts (.fieldLink RX13 431 "StoneWalkModel" "island" "LStoneWalkModel$Island;") (List.mem_of_getElem? (i := 1) (by decide +kernel))) rfl (t := 2) rfl (by show va_rf _ = _; rw [hN3]; rfl) dX13_isStory_13 ?_
        refine r_getN (T := TX12) (v := .int (gI M b3 5)) hx hb hts in12 hown hK hP kb3 (by decide) rfl 5 (by decide) (hG.2.2.1 ("StoneWalkModel", 371, "StoneWalkModel$Island", "stories", "I", "StoneWalkModel") (List.mem_of_getElem? (i := 36) rfl)) rfl (t := 0) rfl rfl dX13_isStory_16 ?_
        refine lv_icmp_ge (tgt := 26) hx hb dX13_isStory_19 rfl (fun c4 => ?_) (fun c4 => ?_)
        · replace h := ite_t c4 h
          refine lv_iconst (v := 0) hx hb dX13_isStory_26 rfl ?_
          exact r_zret hx hb hr hlocks hP hK hD hT hG hS zb_0 (Option.some.inj h) rfl dX13_isStory_27
        · replace h := ite_f c4 h
          refine lv_iconst (v := 1) hx hb dX13_isStory_22 rfl ?_
          refine lv_goto (tgt := 27) hx hb dX13_isStory_23 rfl ?_
          exact r_zret hx hb hr hlocks hP hK hD hT hG hS zb_1 (Option.some.inj h) rfl dX13_isStory_27
set_option maxHeartbeats 4000000 in
set_option maxRecDepth 100000 in
theorem c_X13_canGo {l : Launch} {D : va_G} {ad : Nat → Nat} {cy : Nat → ClassId} {A : Nat → Prop} {g : CG} {q : SE} (M : MM) (x0 : Int32) (x1 : Int32) (x2 : Int32) (x3 : Int32) (x4 : Int32) {Z : Int32} (h : f_X13_canGo M x0 x1 x2 x3 x4 = some Z) : Met l yX13_canGo wsX13_canGo ({ frames := 1, cells := 0, slots := 0, locals := 22 }) (va_Pc [.int x0, .int x1, .int x2, .int x3, .int x4] (Wd D ad cy A g q M)) (va_Qi (fun r u => r = Z ∧ u = M ∧ zb r) (Wd D ad cy A g q) A) 0 0 A := by
  refine Met.ofW (cc := cX13_canGo) (maxL := 5) (ret := (some .boolean)) (by decide) rfl ?_
  intro p e s m args below meth c s₁ B hml hv
  obtain ⟨rfl, hP, hK, hD, hT, hG⟩ := hv
  have hx := B.exec
  have hb := B.bytes
  have hr := B.returns
  have hts := atoms_spec (ws := wsX13_canGo) B.pre
  have hown : s.vm.findClass RX13 = some m.cls := findClass_of_methodNamed B.named
  have hlocks := B.notSynchronized
  have hS : va_S A s.heap s.heap [] := va_S.rf
  have hl := lv_entry ([.int x0, .int x1, .int x2, .int x3, .int x4]) (n := 5) (Nat.le_of_ble_eq_true rfl)
  rw [lg_entry_eq]
  generalize (lg_sl ([.int x0, .int x1, .int x2, .int x3, .int x4]) ++ List.replicate (5 - (lg_sl ([.int x0, .int x1, .int x2, .int x3, .int x4])).length) Slot.unset).toArray = ls at hl ⊢
  have hl : lv_has ls 5 [(0, .int x0), (1, .int x1), (2, .int x2), (3, .int x3), (4, .int x4)] := hl
  unfold f_X13_canGo at h
  refine lv_iload_n hx hb dX13_canGo_0 rfl (lv_at hl 0 rfl) ?_
  refine lv_if_ne (tgt := 42) hx hb dX13_canGo_1 rfl (fun c1 => ?_) (fun c1 => ?_)
  · replace h := ite_f c1 h
    refine lv_iload_n hx hb dX13_canGo_42 rfl (lv_at hl 0 rfl) ?_
    refine lv_iconst (v := 1) hx hb dX13_canGo_43 rfl ?_
    refine lv_icmp_ne (tgt := 57) hx hb dX13_canGo_44 rfl (fun c2 => ?_) (fun c2 => ?_)
    · replace h := ite_f c2 h
      refine lv_iload_n hx hb dX13_canGo_57 rfl (lv_at hl 0 rfl) ?_
      refine lv_iconst (v := 2) hx hb dX13_canGo_58 rfl ?_
      refine lv_icmp_ne (tgt := 85) hx hb dX13_canGo_59 rfl (fun c3 => ?_) (fun c3 => ?_)
      · replace h := ite_f c3 h
        refine lv_iload_n hx hb dX13_canGo_85 rfl (lv_at hl 1 rfl) ?_
        refine lv_bipush (v := 20) hx hb dX13_canGo_86 rfl ?_
        refine lv_icmp_gt (tgt := 102) hx hb dX13_canGo_88 rfl (fun c4 => ?_) (fun c4 => ?_)
        · replace h := ite_t c4 h
          refine lv_iconst (v := 0) hx hb dX13_canGo_102 rfl ?_
          exact r_zret hx hb hr hlocks hP hK hD hT hG hS zb_0 (Option.some.inj h) rfl dX13_canGo_103
        · replace h := ite_f c4 h
          refine lv_iload hx hb dX13_canGo_91 (lv_at hl 4 rfl) ?_
          refine lv_bipush (v := 12) hx hb dX13_canGo_93 rfl ?_
          refine lv_icmp_gt (tgt := 102) hx hb dX13_canGo_95 rfl (fun c5 => ?_) (fun c5 => ?_)
          · replace h := ite_t c5 h
            refine lv_iconst (v := 0) hx hb dX13_canGo_102 rfl ?_
            exact r_zret hx hb hr hlocks hP hK hD hT hG hS zb_0 (Option.some.inj h) rfl dX13_canGo_103
          · replace h := ite_f c5 h
            refine lv_iconst (v := 1) hx hb dX13_canGo_98 rfl ?_
            refine lv_goto (tgt := 103) hx hb dX13_canGo_99 rfl ?_
            exact r_zret hx hb hr hlocks hP hK hD hT hG hS zb_1 (Option.some.inj h) rfl dX13_canGo_103
      · replace h := ite_t c3 h
        refine lv_iload_n hx hb dX13_canGo_62 rfl (lv_at hl 1 rfl) ?_
        refine lv_bipush (v := 30) hx hb dX13_canGo_63 rfl ?_
        refine lv_icmp_gt (tgt := 83) hx hb dX13_canGo_65 rfl (fun c6 => ?_) (fun c6 => ?_)
        · replace h := ite_t c6 h
          refine lv_iconst (v := 0) hx hb dX13_canGo_83 rfl ?_
          exact r_zret hx hb hr hlocks hP hK hD hT hG hS zb_0 (Option.some.inj h) rfl dX13_canGo_84
        · replace h := ite_f c6 h
          refine lv_iload hx hb dX13_canGo_68 (lv_at hl 4 rfl) ?_
          refine lv_bipush (v := (-3)) hx hb dX13_canGo_70 rfl ?_
          refine lv_iconst (v := 5) hx hb dX13_canGo_72 rfl ?_
          obtain ⟨z7, h7, h⟩ := ob_some h
          refine k_z (va_runS (As := [.int x4, .int (-3), .int 5]) (rest := []) ⟨hx, hb, hml, hown, hts⟩ (c_X13_in (l := l) M x4 (-3) 5 h7) (va_cwS 3 hts gX13_canGo_X13_in rfl rfl rfl hdS_X13_in ⟨Nat.le_of_ble_eq_true rfl, Nat.le_of_ble_eq_true rfl⟩) (pS hP hK hD hT hG hS) rfl rfl hl.1 rfl (lv_room (Nat.le_of_ble_eq_true rfl)) dX13_canGo_73 ⟨Nat.zero_le _, Nat.zero_le _⟩) hS (fun H locs hz7 hP hD hT hS => ?_)
          refine lv_if_eq (tgt := 83) hx hb dX13_canGo_76 rfl (fun c8 => ?_) (fun c8 => ?_)
          · replace h := ite_t c8 h
            refine lv_iconst (v := 0) hx hb dX13_canGo_83 rfl ?_
            exact r_zret hx hb hr hlocks hP hK hD hT hG hS zb_0 (Option.some.inj h) rfl dX13_canGo_84
          · replace h := ite_f c8 h
            refine lv_iconst (v := 1) hx hb dX13_canGo_79 rfl ?_
            refine lv_goto (tgt := 84) hx hb dX13_canGo_80 rfl ?_
            exact r_zret hx hb hr hlocks hP hK hD hT hG hS zb_1 (Option.some.inj h) rfl dX13_canGo_84
    · replace h := ite_t c2 h
      refine lv_iload hx hb dX13_canGo_47 (lv_at hl 4 rfl) ?_
      refine lv_bipush (v := (-6)) hx hb dX13_canGo_49 rfl ?_
      refine lv_bipush (v := 8) hx hb dX13_canGo_51 rfl ?_
      obtain ⟨z9, h9, h⟩ := ob_some h
      refine k_z (va_runS (As := [.int x4, .int (-6), .int 8]) (rest := []) ⟨hx, hb, hml, hown, hts⟩ (c_X13_in (l := l) M x4 (-6) 8 h9) (va_cwS 3 hts gX13_canGo_X13_in rfl rfl rfl hdS_X13_in ⟨Nat.le_of_ble_eq_true rfl, Nat.le_of_ble_eq_true rfl⟩) (pS hP hK hD hT hG hS) rfl rfl hl.1 rfl (lv_room (Nat.le_of_ble_eq_true rfl)) dX13_canGo_53 ⟨Nat.zero_le _, Nat.zero_le _⟩) hS (fun H locs hz9 hP hD hT hS => ?_)
      exact r_zret hx hb hr hlocks hP hK hD hT hG hS hz9 (Option.some.inj h) rfl dX13_canGo_56
  · replace h := ite_t c1 h
    refine lv_iload_n hx hb dX13_canGo_4 rfl (lv_at hl 2 rfl) ?_
    refine lv_iconst (v := 5) hx hb dX13_canGo_5 rfl ?_
    refine lv_bipush (v := 25) hx hb dX13_canGo_6 rfl ?_
    obtain ⟨z10, h10, h⟩ := ob_some h
    refine k_z (va_runS (As := [.int x2, .int 5, .int 25]) (rest := []) ⟨hx, hb, hml, hown, hts⟩ (c_X13_in (l := l) M x2 5 25 h10) (va_cwS 3 hts gX13_canGo_X13_in rfl rfl rfl hdS_X13_in ⟨Nat.le_of_ble_eq_true rfl, Nat.le_of_ble_eq_true rfl⟩) (pS hP hK hD hT hG hS) rfl rfl hl.1 rfl (lv_room (Nat.le_of_ble_eq_true rfl)) dX13_canGo_8 ⟨Nat.zero_le _, Nat.zero_le _⟩) hS (fun H locs hz10 hP hD hT hS => ?_)
    refine lv_if_eq (tgt := 40) hx hb dX13_canGo_11 rfl (fun c11 => ?_) (fun c11 => ?_)
    · replace h := ite_t c11 h
      refine lv_iconst (v := 0) hx hb dX13_canGo_40 rfl ?_
      exact r_zret hx hb hr hlocks hP hK hD hT hG hS zb_0 (Option.some.inj h) rfl dX13_canGo_41
    · replace h := ite_f c11 h
      refine lv_iload_n hx hb dX13_canGo_14 rfl (lv_at hl 3 rfl) ?_
      refine lv_iconst (v := 3) hx hb dX13_canGo_15 rfl ?_
      refine lv_icmp_lt (tgt := 40) hx hb dX13_canGo_16 rfl (fun c12 => ?_) (fun c12 => ?_)
      · replace h := ite_t c12 h
        refine lv_iconst (v := 0) hx hb dX13_canGo_40 rfl ?_
        exact r_zret hx hb hr hlocks hP hK hD hT hG hS zb_0 (Option.some.inj h) rfl dX13_canGo_41
      · replace h := ite_f c12 h
        refine lv_iload hx hb dX13_canGo_19 (lv_at hl 4 rfl) ?_
        refine lv_iload_n hx hb dX13_canGo_21 rfl (lv_at hl 2 rfl) ?_
        refine lv_iconst (v := 2) hx hb dX13_canGo_22 rfl ?_
        refine lv_idiv hx hb dX13_canGo_23 (by decide) ?_
        refine lv_icmp_gt (tgt := 40) hx hb dX13_canGo_24 rfl (fun c13 => ?_) (fun c13 => ?_)
        · replace h := ite_t c13 h
          refine lv_iconst (v := 0) hx hb dX13_canGo_40 rfl ?_
          exact r_zret hx hb hr hlocks hP hK hD hT hG hS zb_0 (Option.some.inj h) rfl dX13_canGo_41
        · replace h := ite_f c13 h
          refine lv_iload hx hb dX13_canGo_27 (lv_at hl 4 rfl) ?_
          refine lv_iload_n hx hb dX13_canGo_29 rfl (lv_at hl 2 rfl) ?_
          refine lv_iconst (v := 4) hx hb dX13_canGo_30 rfl ?_
          refine lv_idiv hx hb dX13_canGo_31 (by decide) ?_
          refine lv_ineg hx hb dX13_canGo_32 ?_
          refine lv_icmp_lt (tgt := 40) hx hb dX13_canGo_33 rfl (fun c14 => ?_) (fun c14 => ?_)
          · replace h := ite_t c14 h
            refine lv_iconst (v := 0) hx hb dX13_canGo_40 rfl ?_
            exact r_zret hx hb hr hlocks hP hK hD hT hG hS zb_0 (Option.some.inj h) rfl dX13_canGo_41
          · replace h := ite_f c14 h
            refine lv_iconst (v := 1) hx hb dX13_canGo_36 rfl ?_
            refine lv_goto (tgt := 41) hx hb dX13_canGo_37 rfl ?_
            exact r_zret hx hb hr hlocks hP hK hD hT hG hS zb_1 (Option.some.inj h) rfl dX13_canGo_41
set_option maxHeartbeats 4000000 in
set_option maxRecDepth 100000 in
theorem c_X13_canBy {l : Launch} {D : va_G} {ad : Nat → Nat} {cy : Nat → ClassId} {A : Nat → Prop} {g : CG} {q : SE} (M : MM) (a0 : Nat) (x1 : Int32) (x2 : Int32) (x3 : Int32) (k0 : ok g a0 13 0) {Z : Int32} (h : f_X13_canBy M a0 x1 x2 x3 = some Z) : Met l yX13_canBy wsX13_canBy ({ frames := 2, cells := 0, slots := 0, locals := 46 }) (va_Pc [.ref (ad a0), .int x1, .int x2, .int x3] (Wd D ad cy A g q M)) (va_Qi (fun r u => r = Z ∧ u = M ∧ zb r) (Wd D ad cy A g q) A) 0 0 A := by
  refine Met.ofW (cc := cX13_canBy) (maxL := 4) (ret := (some .boolean)) (by decide) rfl ?_
  intro p e s m args below meth c s₁ B hml hv
  obtain ⟨rfl, hP, hK, hD, hT, hG⟩ := hv
  have hx := B.exec
  have hb := B.bytes
  have hr := B.returns
  have hts := atoms_spec (ws := wsX13_canBy) B.pre
  have hown : s.vm.findClass RX13 = some m.cls := findClass_of_methodNamed B.named
  have hlocks := B.notSynchronized
  have in12 : ∀ w ∈ u_ws RX12 TX12 48, w ∈ wsX13_canBy := fun w h => List.mem_cons_of_mem _ (List.mem_append_right _ h)
  have in13 : ∀ w ∈ u_ws RX13 TX13 29, w ∈ wsX13_canBy := fun w h => List.mem_cons_of_mem _ (List.mem_append_left _ (List.mem_append_right _ h))
  have hS : va_S A s.heap s.heap [] := va_S.rf
  have hl := lv_entry ([.ref (ad a0), .int x1, .int x2, .int x3]) (n := 4) (Nat.le_of_ble_eq_true rfl)
  rw [lg_entry_eq]
  generalize (lg_sl ([.ref (ad a0), .int x1, .int x2, .int x3]) ++ List.replicate (4 - (lg_sl ([.ref (ad a0), .int x1, .int x2, .int x3])).length) Slot.unset).toArray = ls at hl ⊢
  have hl : lv_has ls 4 [(0, .ref (ad a0)), (1, .int x1), (2, .int x2), (3, .int x3)] := hl
  unfold f_X13_canBy at h
  refine lv_aload_n hx hb dX13_canBy_0 rfl (lv_at hl 0 rfl) ?_
  rcases hN1 : gR M a0 3 with _ | b1
  · replace h := oc_n hN1 h
    refine r_get (T := TX13) (v := .null) hx hb hts in13 hown hK hP k0 (by decide) rfl 3 (by decide) (hts (.fieldLink RX13 431 "StoneWalkModel" "island" "LStoneWalkModel$Island;") (List.mem_of_getElem? (i := 1) (by decide +kernel))) rfl (t := 2) rfl (by show va_rf _ = _; rw [hN1]; rfl) dX13_canBy_1 ?_
    exact absurd h (by simp)
  · replace h := oc_s hN1 h
    have kb1 := hT.f k0 (k := 3) (t := 12) (n := 0) rfl hN1
    refine r_get (T := TX13) (v := .ref (ad b1)) hx hb hts in13 hown hK hP k0 (by decide) rfl 3 (by decide) (hts (.fieldLink RX13 431 "StoneWalkModel" "island" "LStoneWalkModel$Island;") (List.mem_of_getElem? (i := 1) (by decide +kernel))) rfl (t := 2) rfl (by show va_rf _ = _; rw [hN1]; rfl) dX13_canBy_1 ?_
    rcases hN2 : gR M b1 9 with _ | b2
    · exact absurd (oc_n hN2 h) (by simp)
    replace h := oc_s hN2 h
    have kb2 := hT.f kb1 (k := 9) (t := 15) (n := 4) rfl hN2
    refine r_getN (T := TX12) (v := .ref (ad b2)) hx hb hts in12 hown hK hP kb1 (by decide) rfl 9 (by decide) (hG.2.2.1 ("StoneWalkModel", 247, "StoneWalkModel$Island", "kind", "[I", "StoneWalkModel") (List.mem_of_getElem? (i := 8) rfl)) rfl (t := 2) rfl (by show va_rf _ = _; rw [hN2]; rfl) dX13_canBy_4 ?_
    refine lv_iload_n hx hb dX13_canBy_7 rfl (lv_at hl 1 rfl) ?_
    obtain ⟨hn3, h⟩ := chk_some h
    refine r_iald hx hb hK hP kb2 hn3 dX13_canBy_8 ?_
    refine lv_aload_n hx hb dX13_canBy_9 rfl (lv_at hl 0 rfl) ?_
    rcases hN4 : gR M a0 3 with _ | b4
    · replace h := oc_n hN4 h
      refine r_get (T := TX13) (v := .null) hx hb hts in13 hown hK hP k0 (by decide) rfl 3 (by decide) (hts (.fieldLink RX13 431 "StoneWalkModel" "island" "LStoneWalkModel$Island;") (List.mem_of_getElem? (i := 1) (by decide +kernel))) rfl (t := 2) rfl (by show va_rf _ = _; rw [hN4]; rfl) dX13_canBy_10 ?_
      exact absurd h (by simp)
    · replace h := oc_s hN4 h
      have kb4 := hT.f k0 (k := 3) (t := 12) (n := 0) rfl hN4
      refine r_get (T := TX13) (v := .ref (ad b4)) hx hb hts in13 hown hK hP k0 (by decide) rfl 3 (by decide) (hts (.fieldLink RX13 431 "StoneWalkModel" "island" "LStoneWalkModel$Island;") (List.mem_of_getElem? (i := 1) (by decide +kernel))) rfl (t := 2) rfl (by show va_rf _ = _; rw [hN4]; rfl) dX13_canBy_10 ?_
      rcases hN5 : gR M b4 15 with _ | b5
      · exact absurd (oc_n hN5 h) (by simp)
      replace h := oc_s hN5 h
      have kb5 := hT.f kb4 (k := 15) (t := 15) (n := 10) rfl hN5
      refine r_getN (T := TX12) (v := .ref (ad b5)) hx hb hts in12 hown hK hP kb4 (by decide) rfl 15 (by decide) (hG.2.2.1 ("StoneWalkModel", 301, "StoneWalkModel$Island", "tons", "[I", "StoneWalkModel") (List.mem_of_getElem? (i := 15) rfl)) rfl (t := 2) rfl (by show va_rf _ = _; rw [hN5]; rfl) dX13_canBy_13 ?_
      refine lv_iload_n hx hb dX13_canBy_16 rfl (lv_at hl 2 rfl) ?_
      obtain ⟨hn6, h⟩ := chk_some h
      refine r_iald hx hb hK hP kb5 hn6 dX13_canBy_17 ?_
      refine lv_aload_n hx hb dX13_canBy_18 rfl (lv_at hl 0 rfl) ?_
      rcases hN7 : gR M a0 3 with _ | b7
      · replace h := oc_n hN7 h
        refine r_get (T := TX13) (v := .null) hx hb hts in13 hown hK hP k0 (by decide) rfl 3 (by decide) (hts (.fieldLink RX13 431 "StoneWalkModel" "island" "LStoneWalkModel$Island;") (List.mem_of_getElem? (i := 1) (by decide +kernel))) rfl (t := 2) rfl (by show va_rf _ = _; rw [hN7]; rfl) dX13_canBy_19 ?_
        exact absurd h (by simp)
      · replace h := oc_s hN7 h
        have kb7 := hT.f k0 (k := 3) (t := 12) (n := 0) rfl hN7
        refine r_get (T := TX13) (v := .ref (ad b7)) hx hb hts in13 hown hK hP k0 (by decide) rfl 3 (by decide) (hts (.fieldLink RX13 431 "StoneWalkModel" "island" "LStoneWalkModel$Island;") (List.mem_of_getElem? (i := 1) (by decide +kernel))) rfl (t := 2) rfl (by show va_rf _ = _; rw [hN7]; rfl) dX13_canBy_19 ?_
        rcases hN8 : gR M b7 16 with _ | b8
        · exact absurd (oc_n hN8 h) (by simp)
        replace h := oc_s hN8 h
        have kb8 := hT.f kb7 (k := 16) (t := 15) (n := 10) rfl hN8
        refine r_getN (T := TX12) (v := .ref (ad b8)) hx hb hts in12 hown hK hP kb7 (by decide) rfl 16 (by decide) (hG.2.2.1 ("StoneWalkModel", 303, "StoneWalkModel$Island", "lean", "[I", "StoneWalkModel") (List.mem_of_getElem? (i := 16) rfl)) rfl (t := 2) rfl (by show va_rf _ = _; rw [hN8]; rfl) dX13_canBy_22 ?_
        refine lv_iload_n hx hb dX13_canBy_25 rfl (lv_at hl 2 rfl) ?_
        obtain ⟨hn9, h⟩ := chk_some h
        refine r_iald hx hb hK hP kb8 hn9 dX13_canBy_26 ?_
        refine lv_aload_n hx hb dX13_canBy_27 rfl (lv_at hl 0 rfl) ?_
        rcases hN10 : gR M a0 3 with _ | b10
        · replace h := oc_n hN10 h
          refine r_get (T := TX13) (v := .null) hx hb hts in13 hown hK hP k0 (by decide) rfl 3 (by decide) (hts (.fieldLink RX13 431 "StoneWalkModel" "island" "LStoneWalkModel$Island;") (List.mem_of_getElem? (i := 1) (by decide +kernel))) rfl (t := 2) rfl (by show va_rf _ = _; rw [hN10]; rfl) dX13_canBy_28 ?_
          exact absurd h (by simp)
        · replace h := oc_s hN10 h
          have kb10 := hT.f k0 (k := 3) (t := 12) (n := 0) rfl hN10
          refine r_get (T := TX13) (v := .ref (ad b10)) hx hb hts in13 hown hK hP k0 (by decide) rfl 3 (by decide) (hts (.fieldLink RX13 431 "StoneWalkModel" "island" "LStoneWalkModel$Island;") (List.mem_of_getElem? (i := 1) (by decide +kernel))) rfl (t := 2) rfl (by show va_rf _ = _; rw [hN10]; rfl) dX13_canBy_28 ?_
          rcases hN11 : gR M b10 17 with _ | b11
          · exact absurd (oc_n hN11 h) (by simp)
          replace h := oc_s hN11 h
          have kb11 := hT.f kb10 (k := 17) (t := 15) (n := 10) rfl hN11
          refine r_getN (T := TX12) (v := .ref (ad b11)) hx hb hts in12 hown hK hP kb10 (by decide) rfl 17 (by decide) (hG.2.2.1 ("StoneWalkModel", 305, "StoneWalkModel$Island", "edge", "[I", "StoneWalkModel") (List.mem_of_getElem? (i := 17) rfl)) rfl (t := 2) rfl (by show va_rf _ = _; rw [hN11]; rfl) dX13_canBy_31 ?_
          refine lv_iload_n hx hb dX13_canBy_34 rfl (lv_at hl 2 rfl) ?_
          obtain ⟨hn12, h⟩ := chk_some h
          refine r_iald hx hb hK hP kb11 hn12 dX13_canBy_35 ?_
          refine lv_iload_n hx hb dX13_canBy_36 rfl (lv_at hl 3 rfl) ?_
          obtain ⟨z13, h13, h⟩ := ob_some h
          refine k_z (va_runS (As := [.int (gI M b2 (ix x1)), .int (gI M b5 (ix x2)), .int (gI M b8 (ix x2)), .int (gI M b11 (ix x2)), .int x3]) (rest := []) ⟨hx, hb, hml, hown, hts⟩ (c_X13_canGo (l := l) M (gI M b2 (ix x1)) (gI M b5 (ix x2)) (gI M b8 (ix x2)) (gI M b11 (ix x2)) x3 h13) (va_cwS 5 hts gX13_canBy_X13_canGo rfl rfl rfl hdS_X13_canGo ⟨Nat.le_of_ble_eq_true rfl, Nat.le_of_ble_eq_true rfl⟩) (pS hP hK hD hT hG hS) rfl rfl hl.1 rfl (lv_room (Nat.le_of_ble_eq_true rfl)) dX13_canBy_37 ⟨Nat.zero_le _, Nat.zero_le _⟩) hS (fun H locs hz13 hP hD hT hS => ?_)
          exact r_zret hx hb hr hlocks hP hK hD hT hG hS hz13 (Option.some.inj h) rfl dX13_canBy_40
set_option maxHeartbeats 4000000 in
set_option maxRecDepth 100000 in
theorem c_X13_refusesSlope {l : Launch} {D : va_G} {ad : Nat → Nat} {cy : Nat → ClassId} {A : Nat → Prop} {g : CG} {q : SE} (M : MM) (a0 : Nat) (x1 : Int32) (x2 : Int32) (x3 : Int32) (k0 : ok g a0 13 0) {Z : Int32} (h : f_X13_refusesSlope M a0 x1 x2 x3 = some Z) : Met l yX13_refusesSlope wsX13_refusesSlope ({ frames := 1, cells := 0, slots := 0, locals := 22 }) (va_Pc [.ref (ad a0), .int x1, .int x2, .int x3] (Wd D ad cy A g q M)) (va_Qi (fun r u => r = Z ∧ u = M) (Wd D ad cy A g q) A) 0 0 A := by
  refine Met.ofW (cc := cX13_refusesSlope) (maxL := 4) (ret := (some .int)) (by decide) rfl ?_
  intro p e s m args below meth c s₁ B hml hv
  obtain ⟨rfl, hP, hK, hD, hT, hG⟩ := hv
  have hx := B.exec
  have hb := B.bytes
  have hr := B.returns
  have hts := atoms_spec (ws := wsX13_refusesSlope) B.pre
  have hown : s.vm.findClass RX13 = some m.cls := findClass_of_methodNamed B.named
  have hlocks := B.notSynchronized
  have hS : va_S A s.heap s.heap [] := va_S.rf
  have hl := lv_entry ([.ref (ad a0), .int x1, .int x2, .int x3]) (n := 4) (Nat.le_of_ble_eq_true rfl)
  rw [lg_entry_eq]
  generalize (lg_sl ([.ref (ad a0), .int x1, .int x2, .int x3]) ++ List.replicate (4 - (lg_sl ([.ref (ad a0), .int x1, .int x2, .int x3])).length) Slot.unset).toArray = ls at hl ⊢
  have hl : lv_has ls 4 [(0, .ref (ad a0)), (1, .int x1), (2, .int x2), (3, .int x3)] := hl
  unfold f_X13_refusesSlope at h
  refine lv_aload_n hx hb dX13_refusesSlope_0 rfl (lv_at hl 0 rfl) ?_
  refine lv_iload_n hx hb dX13_refusesSlope_1 rfl (lv_at hl 1 rfl) ?_
  obtain ⟨z1, h1, h⟩ := ob_some h
  refine k_z (va_runV (As := [.int x1]) (rest := []) ⟨hx, hb, hml, hown, hts⟩ (c_X13_isWay (l := l) M a0 x1 k0 h1) (cwV 1 hts gX13_refusesSlope_X13_isWay rfl rfl rfl hdV_X13_isWay ⟨Nat.le_of_ble_eq_true rfl, Nat.le_of_ble_eq_true rfl⟩) (pV (T := TX13) hP hK hD hT hG hS k0 (by decide) rfl) rfl rfl hl.1 rfl (lv_room (Nat.le_of_ble_eq_true rfl)) dX13_refusesSlope_2 ⟨Nat.zero_le _, Nat.zero_le _⟩) hS (fun H locs hz1 hP hD hT hS => ?_)
  refine lv_if_eq (tgt := 16) hx hb dX13_refusesSlope_5 rfl (fun c2 => ?_) (fun c2 => ?_)
  · replace h := ite_t c2 h
    refine lv_iconst (v := 1) hx hb dX13_refusesSlope_16 rfl ?_
    refine lv_goto (tgt := 36) hx hb dX13_refusesSlope_17 rfl ?_
    exact r_iret hx hb hr hlocks hP hK hD hT hG hS (Option.some.inj h) rfl dX13_refusesSlope_36
  · replace h := ite_f c2 h
    refine lv_aload_n hx hb dX13_refusesSlope_8 rfl (lv_at hl 0 rfl) ?_
    refine lv_iload_n hx hb dX13_refusesSlope_9 rfl (lv_at hl 2 rfl) ?_
    obtain ⟨z3, h3, h⟩ := ob_some h
    refine k_z (va_runV (As := [.int x2]) (rest := []) ⟨hx, hb, hml, hown, hts⟩ (c_X13_isStatue (l := l) M a0 x2 k0 h3) (cwV 1 hts gX13_refusesSlope_X13_isStatue rfl rfl rfl hdV_X13_isStatue ⟨Nat.le_of_ble_eq_true rfl, Nat.le_of_ble_eq_true rfl⟩) (pV (T := TX13) hP hK hD hT hG hS k0 (by decide) rfl) rfl rfl hl.1 rfl (lv_room (Nat.le_of_ble_eq_true rfl)) dX13_refusesSlope_10 ⟨Nat.zero_le _, Nat.zero_le _⟩) hS (fun H locs hz3 hP hD hT hS => ?_)
    refine lv_if_ne (tgt := 20) hx hb dX13_refusesSlope_13 rfl (fun c4 => ?_) (fun c4 => ?_)
    · replace h := ite_f c4 h
      refine lv_iload_n hx hb dX13_refusesSlope_20 rfl (lv_at hl 3 rfl) ?_
      refine lv_bipush (v := (-20)) hx hb dX13_refusesSlope_21 rfl ?_
      refine lv_bipush (v := 20) hx hb dX13_refusesSlope_23 rfl ?_
      obtain ⟨z5, h5, h⟩ := ob_some h
      refine k_z (va_runS (As := [.int x3, .int (-20), .int 20]) (rest := []) ⟨hx, hb, hml, hown, hts⟩ (c_X13_in (l := l) M x3 (-20) 20 h5) (va_cwS 3 hts gX13_refusesSlope_X13_in rfl rfl rfl hdS_X13_in ⟨Nat.le_of_ble_eq_true rfl, Nat.le_of_ble_eq_true rfl⟩) (pS hP hK hD hT hG hS) rfl rfl hl.1 rfl (lv_room (Nat.le_of_ble_eq_true rfl)) dX13_refusesSlope_25 ⟨Nat.zero_le _, Nat.zero_le _⟩) hS (fun H locs hz5 hP hD hT hS => ?_)
      refine lv_if_eq (tgt := 35) hx hb dX13_refusesSlope_28 rfl (fun c6 => ?_) (fun c6 => ?_)
      · replace h := ite_t c6 h
        refine lv_iconst (v := 2) hx hb dX13_refusesSlope_35 rfl ?_
        exact r_iret hx hb hr hlocks hP hK hD hT hG hS (Option.some.inj h) rfl dX13_refusesSlope_36
      · replace h := ite_f c6 h
        refine lv_iconst (v := 0) hx hb dX13_refusesSlope_31 rfl ?_
        refine lv_goto (tgt := 36) hx hb dX13_refusesSlope_32 rfl ?_
        exact r_iret hx hb hr hlocks hP hK hD hT hG hS (Option.some.inj h) rfl dX13_refusesSlope_36
    · replace h := ite_t c4 h
      refine lv_iconst (v := 1) hx hb dX13_refusesSlope_16 rfl ?_
      refine lv_goto (tgt := 36) hx hb dX13_refusesSlope_17 rfl ?_
      exact r_iret hx hb hr hlocks hP hK hD hT hG hS (Option.some.inj h) rfl dX13_refusesSlope_36
set_option maxHeartbeats 4000000 in
set_option maxRecDepth 100000 in
theorem c_X13_can {l : Launch} {D : va_G} {ad : Nat → Nat} {cy : Nat → ClassId} {A : Nat → Prop} {g : CG} {q : SE} (M : MM) (a0 : Nat) (x1 : Int32) (x2 : Int32) (x3 : Int32) (k0 : ok g a0 13 0) {Z : (Int32 × MM)} (h : f_X13_can M a0 x1 x2 x3 = some Z) : Met l yX13_can wsX13_can ({ frames := 3, cells := 0, slots := 0, locals := 69 }) (va_Pc [.ref (ad a0), .int x1, .int x2, .int x3] (Wd D ad cy A g q M)) (va_Qi (fun r u => r = Z.1 ∧ u = Z.2) (Wd D ad cy A g q) A) 0 0 A := by
  refine Met.ofW (cc := cX13_can) (maxL := 5) (ret := (some .int)) (by decide) rfl ?_
  intro p e s m args below meth c s₁ B hml hv
  obtain ⟨rfl, hP, hK, hD, hT, hG⟩ := hv
  have hx := B.exec
  have hb := B.bytes
  have hr := B.returns
  have hts := atoms_spec (ws := wsX13_can) B.pre
  have hown : s.vm.findClass RX13 = some m.cls := findClass_of_methodNamed B.named
  have hlocks := B.notSynchronized
  have in13 : ∀ w ∈ u_ws RX13 TX13 29, w ∈ wsX13_can := fun w h => List.mem_cons_of_mem _ (List.mem_append_left _ (List.mem_append_right _ h))
  have hS : va_S A s.heap s.heap [] := va_S.rf
  have hl := lv_entry ([.ref (ad a0), .int x1, .int x2, .int x3]) (n := 5) (Nat.le_of_ble_eq_true rfl)
  rw [lg_entry_eq]
  generalize (lg_sl ([.ref (ad a0), .int x1, .int x2, .int x3]) ++ List.replicate (5 - (lg_sl ([.ref (ad a0), .int x1, .int x2, .int x3])).length) Slot.unset).toArray = ls at hl ⊢
  have hl : lv_has ls 5 [(0, .ref (ad a0)), (1, .int x1), (2, .int x2), (3, .int x3)] := hl
  unfold f_X13_can at h
  refine lv_aload_n hx hb dX13_can_0 rfl (lv_at hl 0 rfl) ?_
  refine lv_iconst (v := 0) hx hb dX13_can_1 rfl ?_
  refine r_putI (T := TX13) (ty := .int) (v := 0) hx hb hts in13 tyX13 tyX13_ok nmX13 hown hK hP hD hT hS k0 (by decide) rfl 0 (by decide) (hts (.fieldLink RX13 30 "StoneWalkModel" "thrown" "I") (List.mem_of_getElem? (i := 1) (by decide +kernel))) rfl rfl (tyX13_ok 0 (by decide)) rfl rfl rfl dX13_can_2 (fun H locs hP hD hT hS => ?_)
  generalize pI M a0 0 0 = Mg1 at h hP hD hT ⊢
  refine lv_aload_n hx hb dX13_can_5 rfl (lv_at hl 0 rfl) ?_
  refine lv_iload_n hx hb dX13_can_6 rfl (lv_at hl 1 rfl) ?_
  refine lv_iload_n hx hb dX13_can_7 rfl (lv_at hl 2 rfl) ?_
  refine lv_iload_n hx hb dX13_can_8 rfl (lv_at hl 3 rfl) ?_
  obtain ⟨z1, h1, h⟩ := ob_some h
  refine k_i (va_runV (As := [.int x1, .int x2, .int x3]) (rest := []) ⟨hx, hb, hml, hown, hts⟩ (c_X13_refusesSlope (l := l) Mg1 a0 x1 x2 x3 k0 h1) (cwV 3 hts gX13_can_X13_refusesSlope rfl rfl rfl hdV_X13_refusesSlope ⟨Nat.le_of_ble_eq_true rfl, Nat.le_of_ble_eq_true rfl⟩) (pV (T := TX13) hP hK hD hT hG hS k0 (by decide) rfl) rfl rfl hl.1 rfl (lv_room (Nat.le_of_ble_eq_true rfl)) dX13_can_9 ⟨Nat.zero_le _, Nat.zero_le _⟩) hS (fun H locs hP hD hT hS => ?_)
  refine lv_istore (lv' := [(4, .int z1), (0, .ref (ad a0)), (1, .int x1), (2, .int x2), (3, .int x3)]) hx hb dX13_can_12 hl (by decide) rfl (fun ls hl => ?_)
  refine lv_iload hx hb dX13_can_14 (lv_at hl 0 rfl) ?_
  refine lv_if_le (tgt := 28) hx hb dX13_can_16 rfl (fun c2 => ?_) (fun c2 => ?_)
  · replace h := ite_t c2 h
    refine lv_aload_n hx hb dX13_can_28 rfl (lv_at hl 1 rfl) ?_
    refine lv_aload_n hx hb dX13_can_29 rfl (lv_at hl 1 rfl) ?_
    refine lv_iload_n hx hb dX13_can_30 rfl (lv_at hl 2 rfl) ?_
    refine lv_iload_n hx hb dX13_can_31 rfl (lv_at hl 3 rfl) ?_
    refine lv_iload_n hx hb dX13_can_32 rfl (lv_at hl 4 rfl) ?_
    obtain ⟨z3, h3, h⟩ := ob_some h
    refine k_z (va_runV (As := [.int x1, .int x2, .int x3]) (rest := [.ref (ad a0)]) ⟨hx, hb, hml, hown, hts⟩ (c_X13_canBy (l := l) Mg1 a0 x1 x2 x3 k0 h3) (cwV 3 hts gX13_can_X13_canBy rfl rfl rfl hdV_X13_canBy ⟨Nat.le_of_ble_eq_true rfl, Nat.le_of_ble_eq_true rfl⟩) (pV (T := TX13) hP hK hD hT hG hS k0 (by decide) rfl) rfl rfl hl.1 rfl (lv_room (Nat.le_of_ble_eq_true rfl)) dX13_can_33 ⟨Nat.zero_le _, Nat.zero_le _⟩) hS (fun H locs hz3 hP hD hT hS => ?_)
    refine lv_if_eq (tgt := 43) hx hb dX13_can_36 rfl (fun c4 => ?_) (fun c4 => ?_)
    · replace h := ite_t c4 h
      refine lv_iconst (v := 0) hx hb dX13_can_43 rfl ?_
      obtain ⟨z5, h5, h⟩ := ob_some h
      refine k_i (va_runV (As := [.int 0]) (rest := []) ⟨hx, hb, hml, hown, hts⟩ (c_X13_done (l := l) Mg1 a0 0 k0 h5) (cwV 1 hts gX13_can_X13_done rfl rfl rfl hdV_X13_done ⟨Nat.le_of_ble_eq_true rfl, Nat.le_of_ble_eq_true rfl⟩) (pV (T := TX13) hP hK hD hT hG hS k0 (by decide) rfl) rfl rfl hl.1 rfl (lv_room (Nat.le_of_ble_eq_true rfl)) dX13_can_44 ⟨Nat.zero_le _, Nat.zero_le _⟩) hS (fun H locs hP hD hT hS => ?_)
      have hZ := Option.some.inj h
      have hZ1 := congrArg Prod.fst hZ
      have hZ2 := congrArg Prod.snd hZ
      exact r_iret hx hb hr hlocks hP hK hD hT hG hS hZ1 hZ2 dX13_can_47
    · replace h := ite_f c4 h
      refine lv_iconst (v := 1) hx hb dX13_can_39 rfl ?_
      refine lv_goto (tgt := 44) hx hb dX13_can_40 rfl ?_
      obtain ⟨z6, h6, h⟩ := ob_some h
      refine k_i (va_runV (As := [.int 1]) (rest := []) ⟨hx, hb, hml, hown, hts⟩ (c_X13_done (l := l) Mg1 a0 1 k0 h6) (cwV 1 hts gX13_can_X13_done rfl rfl rfl hdV_X13_done ⟨Nat.le_of_ble_eq_true rfl, Nat.le_of_ble_eq_true rfl⟩) (pV (T := TX13) hP hK hD hT hG hS k0 (by decide) rfl) rfl rfl hl.1 rfl (lv_room (Nat.le_of_ble_eq_true rfl)) dX13_can_44 ⟨Nat.zero_le _, Nat.zero_le _⟩) hS (fun H locs hP hD hT hS => ?_)
      have hZ := Option.some.inj h
      have hZ1 := congrArg Prod.fst hZ
      have hZ2 := congrArg Prod.snd hZ
      exact r_iret hx hb hr hlocks hP hK hD hT hG hS hZ1 hZ2 dX13_can_47
  · replace h := ite_f c2 h
    refine lv_aload_n hx hb dX13_can_19 rfl (lv_at hl 1 rfl) ?_
    refine lv_iload hx hb dX13_can_20 (lv_at hl 0 rfl) ?_
    obtain ⟨z7, h7, h⟩ := ob_some h
    refine k_i (va_runV (As := [.int z1]) (rest := []) ⟨hx, hb, hml, hown, hts⟩ (c_X13_refused (l := l) Mg1 a0 z1 k0 h7) (cwV 1 hts gX13_can_X13_refused rfl rfl rfl hdV_X13_refused ⟨Nat.le_of_ble_eq_true rfl, Nat.le_of_ble_eq_true rfl⟩) (pV (T := TX13) hP hK hD hT hG hS k0 (by decide) rfl) rfl rfl hl.1 rfl (lv_room (Nat.le_of_ble_eq_true rfl)) dX13_can_22 ⟨Nat.zero_le _, Nat.zero_le _⟩) hS (fun H locs hP hD hT hS => ?_)
    refine lv_goto (tgt := 47) hx hb dX13_can_25 rfl ?_
    have hZ := Option.some.inj h
    have hZ1 := congrArg Prod.fst hZ
    have hZ2 := congrArg Prod.snd hZ
    exact r_iret hx hb hr hlocks hP hK hD hT hG hS hZ1 hZ2 dX13_can_47
set_option maxHeartbeats 4000000 in
set_option maxRecDepth 100000 in
theorem c_X13_canOn {l : Launch} {D : va_G} {ad : Nat → Nat} {cy : Nat → ClassId} {A : Nat → Prop} {g : CG} {q : SE} (M : MM) (a0 : Nat) (x1 : Int32) (x2 : Int32) (x3 : Int32) (k0 : ok g a0 13 0) {Z : (Int32 × MM)} (h : f_X13_canOn M a0 x1 x2 x3 = some Z) : Met l yX13_canOn wsX13_canOn ({ frames := 3, cells := 0, slots := 0, locals := 69 }) (va_Pc [.ref (ad a0), .int x1, .int x2, .int x3] (Wd D ad cy A g q M)) (va_Qi (fun r u => r = Z.1 ∧ u = Z.2) (Wd D ad cy A g q) A) 0 0 A := by
  refine Met.ofW (cc := cX13_canOn) (maxL := 6) (ret := (some .int)) (by decide) rfl ?_
  intro p e s m args below meth c s₁ B hml hv
  obtain ⟨rfl, hP, hK, hD, hT, hG⟩ := hv
  have hx := B.exec
  have hb := B.bytes
  have hr := B.returns
  have hts := atoms_spec (ws := wsX13_canOn) B.pre
  have hown : s.vm.findClass RX13 = some m.cls := findClass_of_methodNamed B.named
  have hlocks := B.notSynchronized
  have in12 : ∀ w ∈ u_ws RX12 TX12 48, w ∈ wsX13_canOn := fun w h => List.mem_cons_of_mem _ (List.mem_append_right _ h)
  have in13 : ∀ w ∈ u_ws RX13 TX13 29, w ∈ wsX13_canOn := fun w h => List.mem_cons_of_mem _ (List.mem_append_left _ (List.mem_append_right _ h))
  have hS : va_S A s.heap s.heap [] := va_S.rf
  have hl := lv_entry ([.ref (ad a0), .int x1, .int x2, .int x3]) (n := 6) (Nat.le_of_ble_eq_true rfl)
  rw [lg_entry_eq]
  generalize (lg_sl ([.ref (ad a0), .int x1, .int x2, .int x3]) ++ List.replicate (6 - (lg_sl ([.ref (ad a0), .int x1, .int x2, .int x3])).length) Slot.unset).toArray = ls at hl ⊢
  have hl : lv_has ls 6 [(0, .ref (ad a0)), (1, .int x1), (2, .int x2), (3, .int x3)] := hl
  unfold f_X13_canOn at h
  refine lv_aload_n hx hb dX13_canOn_0 rfl (lv_at hl 0 rfl) ?_
  refine lv_iconst (v := 0) hx hb dX13_canOn_1 rfl ?_
  refine r_putI (T := TX13) (ty := .int) (v := 0) hx hb hts in13 tyX13 tyX13_ok nmX13 hown hK hP hD hT hS k0 (by decide) rfl 0 (by decide) (hts (.fieldLink RX13 30 "StoneWalkModel" "thrown" "I") (List.mem_of_getElem? (i := 1) (by decide +kernel))) rfl rfl (tyX13_ok 0 (by decide)) rfl rfl rfl dX13_canOn_2 (fun H locs hP hD hT hS => ?_)
  generalize pI M a0 0 0 = Mg1 at h hP hD hT ⊢
  refine lv_aload_n hx hb dX13_canOn_5 rfl (lv_at hl 0 rfl) ?_
  refine lv_iload_n hx hb dX13_canOn_6 rfl (lv_at hl 1 rfl) ?_
  obtain ⟨z1, h1, h⟩ := ob_some h
  refine k_z (va_runV (As := [.int x1]) (rest := []) ⟨hx, hb, hml, hown, hts⟩ (c_X13_isWay (l := l) Mg1 a0 x1 k0 h1) (cwV 1 hts gX13_canOn_X13_isWay rfl rfl rfl hdV_X13_isWay ⟨Nat.le_of_ble_eq_true rfl, Nat.le_of_ble_eq_true rfl⟩) (pV (T := TX13) hP hK hD hT hG hS k0 (by decide) rfl) rfl rfl hl.1 rfl (lv_room (Nat.le_of_ble_eq_true rfl)) dX13_canOn_7 ⟨Nat.zero_le _, Nat.zero_le _⟩) hS (fun H locs hz1 hP hD hT hS => ?_)
  refine lv_if_eq (tgt := 29) hx hb dX13_canOn_10 rfl (fun c2 => ?_) (fun c2 => ?_)
  · replace h := ite_t c2 h
    refine lv_aload_n hx hb dX13_canOn_29 rfl (lv_at hl 0 rfl) ?_
    refine lv_iconst (v := 1) hx hb dX13_canOn_30 rfl ?_
    obtain ⟨z3, h3, h⟩ := ob_some h
    refine k_i (va_runV (As := [.int 1]) (rest := []) ⟨hx, hb, hml, hown, hts⟩ (c_X13_refused (l := l) Mg1 a0 1 k0 h3) (cwV 1 hts gX13_canOn_X13_refused rfl rfl rfl hdV_X13_refused ⟨Nat.le_of_ble_eq_true rfl, Nat.le_of_ble_eq_true rfl⟩) (pV (T := TX13) hP hK hD hT hG hS k0 (by decide) rfl) rfl rfl hl.1 rfl (lv_room (Nat.le_of_ble_eq_true rfl)) dX13_canOn_31 ⟨Nat.zero_le _, Nat.zero_le _⟩) hS (fun H locs hP hD hT hS => ?_)
    have hZ := Option.some.inj h
    have hZ1 := congrArg Prod.fst hZ
    have hZ2 := congrArg Prod.snd hZ
    exact r_iret hx hb hr hlocks hP hK hD hT hG hS hZ1 hZ2 dX13_canOn_34
  · replace h := ite_f c2 h
    refine lv_aload_n hx hb dX13_canOn_13 rfl (lv_at hl 0 rfl) ?_
    refine lv_iload_n hx hb dX13_canOn_14 rfl (lv_at hl 2 rfl) ?_
    obtain ⟨z4, h4, h⟩ := ob_some h
    refine k_z (va_runV (As := [.int x2]) (rest := []) ⟨hx, hb, hml, hown, hts⟩ (c_X13_isStatue (l := l) Mg1 a0 x2 k0 h4) (cwV 1 hts gX13_canOn_X13_isStatue rfl rfl rfl hdV_X13_isStatue ⟨Nat.le_of_ble_eq_true rfl, Nat.le_of_ble_eq_true rfl⟩) (pV (T := TX13) hP hK hD hT hG hS k0 (by decide) rfl) rfl rfl hl.1 rfl (lv_room (Nat.le_of_ble_eq_true rfl)) dX13_canOn_15 ⟨Nat.zero_le _, Nat.zero_le _⟩) hS (fun H locs hz4 hP hD hT hS => ?_)
    refine lv_if_eq (tgt := 29) hx hb dX13_canOn_18 rfl (fun c5 => ?_) (fun c5 => ?_)
    · replace h := ite_t c5 h
      refine lv_aload_n hx hb dX13_canOn_29 rfl (lv_at hl 0 rfl) ?_
      refine lv_iconst (v := 1) hx hb dX13_canOn_30 rfl ?_
      obtain ⟨z6, h6, h⟩ := ob_some h
      refine k_i (va_runV (As := [.int 1]) (rest := []) ⟨hx, hb, hml, hown, hts⟩ (c_X13_refused (l := l) Mg1 a0 1 k0 h6) (cwV 1 hts gX13_canOn_X13_refused rfl rfl rfl hdV_X13_refused ⟨Nat.le_of_ble_eq_true rfl, Nat.le_of_ble_eq_true rfl⟩) (pV (T := TX13) hP hK hD hT hG hS k0 (by decide) rfl) rfl rfl hl.1 rfl (lv_room (Nat.le_of_ble_eq_true rfl)) dX13_canOn_31 ⟨Nat.zero_le _, Nat.zero_le _⟩) hS (fun H locs hP hD hT hS => ?_)
      have hZ := Option.some.inj h
      have hZ1 := congrArg Prod.fst hZ
      have hZ2 := congrArg Prod.snd hZ
      exact r_iret hx hb hr hlocks hP hK hD hT hG hS hZ1 hZ2 dX13_canOn_34
    · replace h := ite_f c5 h
      refine lv_aload_n hx hb dX13_canOn_21 rfl (lv_at hl 0 rfl) ?_
      refine lv_iload_n hx hb dX13_canOn_22 rfl (lv_at hl 3 rfl) ?_
      obtain ⟨z7, h7, h⟩ := ob_some h
      refine k_z (va_runV (As := [.int x3]) (rest := []) ⟨hx, hb, hml, hown, hts⟩ (c_X13_isRoad (l := l) Mg1 a0 x3 k0 h7) (cwV 1 hts gX13_canOn_X13_isRoad rfl rfl rfl hdV_X13_isRoad ⟨Nat.le_of_ble_eq_true rfl, Nat.le_of_ble_eq_true rfl⟩) (pV (T := TX13) hP hK hD hT hG hS k0 (by decide) rfl) rfl rfl hl.1 rfl (lv_room (Nat.le_of_ble_eq_true rfl)) dX13_canOn_23 ⟨Nat.zero_le _, Nat.zero_le _⟩) hS (fun H locs hz7 hP hD hT hS => ?_)
      refine lv_if_ne (tgt := 35) hx hb dX13_canOn_26 rfl (fun c8 => ?_) (fun c8 => ?_)
      · replace h := ite_f c8 h
        refine lv_iconst (v := 0) hx hb dX13_canOn_35 rfl ?_
        refine lv_istore (lv' := [(4, .int 0), (0, .ref (ad a0)), (1, .int x1), (2, .int x2), (3, .int x3)]) hx hb dX13_canOn_36 hl (by decide) rfl (fun ls hl => ?_)
        refine lv_iconst (v := 0) hx hb dX13_canOn_38 rfl ?_
        refine lv_istore (lv' := [(5, .int 0), (4, .int 0), (0, .ref (ad a0)), (1, .int x1), (2, .int x2), (3, .int x3)]) hx hb dX13_canOn_39 hl (by decide) rfl (fun ls hl => ?_)
        have L9 : ∀ n9 : Nat, ∀ (M9 : MM) (y9_0 : Nat) (y9_1 : Int32) (y9_2 : Int32) (y9_3 : Int32) (y9_4 : Int32) (y9_5 : Int32) (ky9_0 : ok g y9_0 13 0) (H : Heap) (locs : List Loc), f_X13_canOn_L41 n9 M9 y9_0 y9_1 y9_2 y9_3 y9_4 y9_5 = some Z → va_P D vwCl (wd ad cy g M9) H → va_D A (wd ad cy g M9) → WT g M9 → va_S A s.heap H locs → ∀ (ls : Array Slot), lv_has ls 6 [(0, .ref (ad y9_0)), (1, .int y9_1), (2, .int y9_2), (3, .int y9_3), (4, .int y9_4), (5, .int y9_5)] → W p l e ((headSpec wsX13_canOn ({ frames := 3, cells := 0, slots := 0, locals := 69 })).room) s m (([.ref (ad a0), .int x1, .int x2, .int x3] : List Value).toArray) below meth c H locs 0 0 (MQ below (va_Qi (fun r u => r = Z.1 ∧ u = Z.2) (Wd D ad cy A g q) A) ([.ref (ad a0), .int x1, .int x2, .int x3]).toArray s 0 0 A) (F0 m 41 ls []) := by
          intro n9
          induction n9 with
          | zero => intro M9 y9_0 y9_1 y9_2 y9_3 y9_4 y9_5 ky9_0 H locs h; exact absurd h (by simp [f_X13_canOn_L41])
          | succ n9 ih9 =>
            intro M9 y9_0 y9_1 y9_2 y9_3 y9_4 y9_5 ky9_0 H locs h hP hD hT hS ls hl
            rw [f_X13_canOn_L41] at h
            refine lv_iload hx hb dX13_canOn_41 (lv_at hl 5 rfl) ?_
            refine lv_aload_n hx hb dX13_canOn_43 rfl (lv_at hl 0 rfl) ?_
            rcases hN10 : gR M9 y9_0 3 with _ | b10
            · replace h := oc_n hN10 h
              refine r_get (T := TX13) (v := .null) hx hb hts in13 hown hK hP ky9_0 (by decide) rfl 3 (by decide) (hts (.fieldLink RX13 431 "StoneWalkModel" "island" "LStoneWalkModel$Island;") (List.mem_of_getElem? (i := 2) (by decide +kernel))) rfl (t := 2) rfl (by show va_rf _ = _; rw [hN10]; rfl) dX13_canOn_44 ?_
              exact absurd h (by simp)
            · replace h := oc_s hN10 h
              have kb10 := hT.f ky9_0 (k := 3) (t := 12) (n := 0) rfl hN10
              refine r_get (T := TX13) (v := .ref (ad b10)) hx hb hts in13 hown hK hP ky9_0 (by decide) rfl 3 (by decide) (hts (.fieldLink RX13 431 "StoneWalkModel" "island" "LStoneWalkModel$Island;") (List.mem_of_getElem? (i := 2) (by decide +kernel))) rfl (t := 2) rfl (by show va_rf _ = _; rw [hN10]; rfl) dX13_canOn_44 ?_
              rcases hN11 : gR M9 b10 13 with _ | b11
              · exact absurd (oc_n hN11 h) (by simp)
              replace h := oc_s hN11 h
              have kb11 := hT.f kb10 (k := 13) (t := 15) (n := 3) rfl hN11
              refine r_getN (T := TX12) (v := .ref (ad b11)) hx hb hts in12 hown hK hP kb10 (by decide) rfl 13 (by decide) (hG.2.2.1 ("StoneWalkModel", 266, "StoneWalkModel$Island", "slopes", "[I", "StoneWalkModel") (List.mem_of_getElem? (i := 13) rfl)) rfl (t := 2) rfl (by show va_rf _ = _; rw [hN11]; rfl) dX13_canOn_47 ?_
              refine lv_iload_n hx hb dX13_canOn_50 rfl (lv_at hl 3 rfl) ?_
              obtain ⟨hn12, h⟩ := chk_some h
              refine r_iald hx hb hK hP kb11 hn12 dX13_canOn_51 ?_
              refine lv_icmp_ge (tgt := 93) hx hb dX13_canOn_52 rfl (fun c13 => ?_) (fun c13 => ?_)
              · replace h := ite_t c13 h
                refine lv_aload_n hx hb dX13_canOn_93 rfl (lv_at hl 0 rfl) ?_
                refine lv_iload hx hb dX13_canOn_94 (lv_at hl 4 rfl) ?_
                obtain ⟨z14, h14, h⟩ := ob_some h
                refine k_i (va_runV (As := [.int y9_4]) (rest := []) ⟨hx, hb, hml, hown, hts⟩ (c_X13_done (l := l) M9 y9_0 y9_4 ky9_0 h14) (cwV 1 hts gX13_canOn_X13_done rfl rfl rfl hdV_X13_done ⟨Nat.le_of_ble_eq_true rfl, Nat.le_of_ble_eq_true rfl⟩) (pV (T := TX13) hP hK hD hT hG hS ky9_0 (by decide) rfl) rfl rfl hl.1 rfl (lv_room (Nat.le_of_ble_eq_true rfl)) dX13_canOn_96 ⟨Nat.zero_le _, Nat.zero_le _⟩) hS (fun H locs hP hD hT hS => ?_)
                have hZ := Option.some.inj h
                have hZ1 := congrArg Prod.fst hZ
                have hZ2 := congrArg Prod.snd hZ
                exact r_iret hx hb hr hlocks hP hK hD hT hG hS hZ1 hZ2 dX13_canOn_99
              · replace h := ite_f c13 h
                refine lv_iload hx hb dX13_canOn_55 (lv_at hl 4 rfl) ?_
                refine lv_aload_n hx hb dX13_canOn_57 rfl (lv_at hl 0 rfl) ?_
                refine lv_iload_n hx hb dX13_canOn_58 rfl (lv_at hl 1 rfl) ?_
                refine lv_iload_n hx hb dX13_canOn_59 rfl (lv_at hl 2 rfl) ?_
                refine lv_aload_n hx hb dX13_canOn_60 rfl (lv_at hl 0 rfl) ?_
                rcases hN15 : gR M9 y9_0 3 with _ | b15
                · replace h := oc_n hN15 h
                  refine r_get (T := TX13) (v := .null) hx hb hts in13 hown hK hP ky9_0 (by decide) rfl 3 (by decide) (hts (.fieldLink RX13 431 "StoneWalkModel" "island" "LStoneWalkModel$Island;") (List.mem_of_getElem? (i := 2) (by decide +kernel))) rfl (t := 2) rfl (by show va_rf _ = _; rw [hN15]; rfl) dX13_canOn_61 ?_
                  refine lv_iload_n hx hb dX13_canOn_64 rfl (lv_at hl 3 rfl) ?_
                  refine lv_iload hx hb dX13_canOn_65 (lv_at hl 5 rfl) ?_
                  exact absurd h (by simp)
                · replace h := oc_s hN15 h
                  have kb15 := hT.f ky9_0 (k := 3) (t := 12) (n := 0) rfl hN15
                  refine r_get (T := TX13) (v := .ref (ad b15)) hx hb hts in13 hown hK hP ky9_0 (by decide) rfl 3 (by decide) (hts (.fieldLink RX13 431 "StoneWalkModel" "island" "LStoneWalkModel$Island;") (List.mem_of_getElem? (i := 2) (by decide +kernel))) rfl (t := 2) rfl (by show va_rf _ = _; rw [hN15]; rfl) dX13_canOn_61 ?_
                  refine lv_iload_n hx hb dX13_canOn_64 rfl (lv_at hl 3 rfl) ?_
                  refine lv_iload hx hb dX13_canOn_65 (lv_at hl 5 rfl) ?_
                  obtain ⟨z16, h16, h⟩ := ob_some h
                  refine k_i (va_runV (As := [.int y9_3, .int y9_5]) (rest := [.int y9_2, .int y9_1, .ref (ad y9_0), .int y9_4]) ⟨hx, hb, hml, hown, hts⟩ (c_X12_slopeAt (l := l) M9 b15 y9_3 y9_5 kb15 h16) (cwV 2 hts gX13_canOn_X12_slopeAt rfl rfl rfl hdV_X12_slopeAt ⟨Nat.le_of_ble_eq_true rfl, Nat.le_of_ble_eq_true rfl⟩) (pV (T := TX12) hP hK hD hT hG hS kb15 (by decide) rfl) rfl rfl hl.1 rfl (lv_room (Nat.le_of_ble_eq_true rfl)) dX13_canOn_67 ⟨Nat.zero_le _, Nat.zero_le _⟩) hS (fun H locs hP hD hT hS => ?_)
                  obtain ⟨z17, h17, h⟩ := ob_some h
                  refine k_z (va_runV (As := [.int y9_1, .int y9_2, .int z16]) (rest := [.int y9_4]) ⟨hx, hb, hml, hown, hts⟩ (c_X13_canBy (l := l) M9 y9_0 y9_1 y9_2 z16 ky9_0 h17) (cwV 3 hts gX13_canOn_X13_canBy rfl rfl rfl hdV_X13_canBy ⟨Nat.le_of_ble_eq_true rfl, Nat.le_of_ble_eq_true rfl⟩) (pV (T := TX13) hP hK hD hT hG hS ky9_0 (by decide) rfl) rfl rfl hl.1 rfl (lv_room (Nat.le_of_ble_eq_true rfl)) dX13_canOn_70 ⟨Nat.zero_le _, Nat.zero_le _⟩) hS (fun H locs hz17 hP hD hT hS => ?_)
                  refine lv_if_eq (tgt := 83) hx hb dX13_canOn_73 rfl (fun c18 => ?_) (fun c18 => ?_)
                  · replace h := ite_t c18 h
                    refine lv_iconst (v := 0) hx hb dX13_canOn_83 rfl ?_
                    refine lv_ior hx hb dX13_canOn_84 ?_
                    refine lv_istore (lv' := [(4, .int (y9_4 ||| 0)), (0, .ref (ad y9_0)), (1, .int y9_1), (2, .int y9_2), (3, .int y9_3), (5, .int y9_5)]) hx hb dX13_canOn_85 hl (by decide) rfl (fun ls hl => ?_)
                    refine lv_iinc (v := y9_5 + 1) (lv' := [(5, .int (y9_5 + 1)), (4, .int (y9_4 ||| 0)), (0, .ref (ad y9_0)), (1, .int y9_1), (2, .int y9_2), (3, .int y9_3)]) hx hb dX13_canOn_87 hl (k := 5) rfl rfl (by decide) rfl (fun ls hl => ?_)
                    refine lv_goto (tgt := 41) hx hb dX13_canOn_90 rfl ?_
                    exact ih9 M9 y9_0 y9_1 y9_2 y9_3 (y9_4 ||| 0) (y9_5 + 1) ky9_0 _ _ h hP hD hT hS ls (lv_sub hl [2, 3, 4, 5, 1, 0] rfl)
                  · replace h := ite_f c18 h
                    refine lv_iconst (v := 1) hx hb dX13_canOn_76 rfl ?_
                    refine lv_iload hx hb dX13_canOn_77 (lv_at hl 5 rfl) ?_
                    refine lv_ishl hx hb dX13_canOn_79 ?_
                    refine lv_goto (tgt := 84) hx hb dX13_canOn_80 rfl ?_
                    refine lv_ior hx hb dX13_canOn_84 ?_
                    refine lv_istore (lv' := [(4, .int (y9_4 ||| (1 <<< (y9_5 &&& 31)))), (0, .ref (ad y9_0)), (1, .int y9_1), (2, .int y9_2), (3, .int y9_3), (5, .int y9_5)]) hx hb dX13_canOn_85 hl (by decide) rfl (fun ls hl => ?_)
                    refine lv_iinc (v := y9_5 + 1) (lv' := [(5, .int (y9_5 + 1)), (4, .int (y9_4 ||| (1 <<< (y9_5 &&& 31)))), (0, .ref (ad y9_0)), (1, .int y9_1), (2, .int y9_2), (3, .int y9_3)]) hx hb dX13_canOn_87 hl (k := 5) rfl rfl (by decide) rfl (fun ls hl => ?_)
                    refine lv_goto (tgt := 41) hx hb dX13_canOn_90 rfl ?_
                    exact ih9 M9 y9_0 y9_1 y9_2 y9_3 (y9_4 ||| (1 <<< (y9_5 &&& 31))) (y9_5 + 1) ky9_0 _ _ h hP hD hT hS ls (lv_sub hl [2, 3, 4, 5, 1, 0] rfl)
        exact L9 FU Mg1 a0 x1 x2 x3 0 0 k0 _ _ h hP hD hT hS ls (lv_sub hl [2, 3, 4, 5, 1, 0] rfl)
      · replace h := ite_t c8 h
        refine lv_aload_n hx hb dX13_canOn_29 rfl (lv_at hl 0 rfl) ?_
        refine lv_iconst (v := 1) hx hb dX13_canOn_30 rfl ?_
        obtain ⟨z19, h19, h⟩ := ob_some h
        refine k_i (va_runV (As := [.int 1]) (rest := []) ⟨hx, hb, hml, hown, hts⟩ (c_X13_refused (l := l) Mg1 a0 1 k0 h19) (cwV 1 hts gX13_canOn_X13_refused rfl rfl rfl hdV_X13_refused ⟨Nat.le_of_ble_eq_true rfl, Nat.le_of_ble_eq_true rfl⟩) (pV (T := TX13) hP hK hD hT hG hS k0 (by decide) rfl) rfl rfl hl.1 rfl (lv_room (Nat.le_of_ble_eq_true rfl)) dX13_canOn_31 ⟨Nat.zero_le _, Nat.zero_le _⟩) hS (fun H locs hP hD hT hS => ?_)
        have hZ := Option.some.inj h
        have hZ1 := congrArg Prod.fst hZ
        have hZ2 := congrArg Prod.snd hZ
        exact r_iret hx hb hr hlocks hP hK hD hT hG hS hZ1 hZ2 dX13_canOn_34
set_option maxHeartbeats 4000000 in
set_option maxRecDepth 100000 in
theorem c_X13_steepest {l : Launch} {D : va_G} {ad : Nat → Nat} {cy : Nat → ClassId} {A : Nat → Prop} {g : CG} {q : SE} (M : MM) (a0 : Nat) (x1 : Int32) (x2 : Int32) (x3 : Int32) (k0 : ok g a0 13 0) {Z : (Int32 × MM)} (h : f_X13_steepest M a0 x1 x2 x3 = some Z) : Met l yX13_steepest wsX13_steepest ({ frames := 3, cells := 0, slots := 0, locals := 69 }) (va_Pc [.ref (ad a0), .int x1, .int x2, .int x3] (Wd D ad cy A g q M)) (va_Qi (fun r u => r = Z.1 ∧ u = Z.2) (Wd D ad cy A g q) A) 0 0 A := by
  refine Met.ofW (cc := cX13_steepest) (maxL := 6) (ret := (some .int)) (by decide) rfl ?_
  intro p e s m args below meth c s₁ B hml hv
  obtain ⟨rfl, hP, hK, hD, hT, hG⟩ := hv
  have hx := B.exec
  have hb := B.bytes
  have hr := B.returns
  have hts := atoms_spec (ws := wsX13_steepest) B.pre
  have hown : s.vm.findClass RX13 = some m.cls := findClass_of_methodNamed B.named
  have hlocks := B.notSynchronized
  have in13 : ∀ w ∈ u_ws RX13 TX13 29, w ∈ wsX13_steepest := fun w h => List.mem_cons_of_mem _ (List.mem_append_left _ (List.mem_append_right _ h))
  have hS : va_S A s.heap s.heap [] := va_S.rf
  have hl := lv_entry ([.ref (ad a0), .int x1, .int x2, .int x3]) (n := 6) (Nat.le_of_ble_eq_true rfl)
  rw [lg_entry_eq]
  generalize (lg_sl ([.ref (ad a0), .int x1, .int x2, .int x3]) ++ List.replicate (6 - (lg_sl ([.ref (ad a0), .int x1, .int x2, .int x3])).length) Slot.unset).toArray = ls at hl ⊢
  have hl : lv_has ls 6 [(0, .ref (ad a0)), (1, .int x1), (2, .int x2), (3, .int x3)] := hl
  unfold f_X13_steepest at h
  refine lv_aload_n hx hb dX13_steepest_0 rfl (lv_at hl 0 rfl) ?_
  refine lv_iconst (v := 0) hx hb dX13_steepest_1 rfl ?_
  refine r_putI (T := TX13) (ty := .int) (v := 0) hx hb hts in13 tyX13 tyX13_ok nmX13 hown hK hP hD hT hS k0 (by decide) rfl 0 (by decide) (hts (.fieldLink RX13 30 "StoneWalkModel" "thrown" "I") (List.mem_of_getElem? (i := 1) (by decide +kernel))) rfl rfl (tyX13_ok 0 (by decide)) rfl rfl rfl dX13_steepest_2 (fun H locs hP hD hT hS => ?_)
  generalize pI M a0 0 0 = Mg1 at h hP hD hT ⊢
  refine lv_aload_n hx hb dX13_steepest_5 rfl (lv_at hl 0 rfl) ?_
  refine lv_iload_n hx hb dX13_steepest_6 rfl (lv_at hl 1 rfl) ?_
  obtain ⟨z1, h1, h⟩ := ob_some h
  refine k_z (va_runV (As := [.int x1]) (rest := []) ⟨hx, hb, hml, hown, hts⟩ (c_X13_isWay (l := l) Mg1 a0 x1 k0 h1) (cwV 1 hts gX13_steepest_X13_isWay rfl rfl rfl hdV_X13_isWay ⟨Nat.le_of_ble_eq_true rfl, Nat.le_of_ble_eq_true rfl⟩) (pV (T := TX13) hP hK hD hT hG hS k0 (by decide) rfl) rfl rfl hl.1 rfl (lv_room (Nat.le_of_ble_eq_true rfl)) dX13_steepest_7 ⟨Nat.zero_le _, Nat.zero_le _⟩) hS (fun H locs hz1 hP hD hT hS => ?_)
  refine lv_if_eq (tgt := 21) hx hb dX13_steepest_10 rfl (fun c2 => ?_) (fun c2 => ?_)
  · replace h := ite_t c2 h
    refine lv_aload_n hx hb dX13_steepest_21 rfl (lv_at hl 0 rfl) ?_
    refine lv_iconst (v := 1) hx hb dX13_steepest_22 rfl ?_
    obtain ⟨z3, h3, h⟩ := ob_some h
    refine k_i (va_runV (As := [.int 1]) (rest := []) ⟨hx, hb, hml, hown, hts⟩ (c_X13_lost (l := l) Mg1 a0 1 k0 h3) (cwV 1 hts gX13_steepest_X13_lost rfl rfl rfl hdV_X13_lost ⟨Nat.le_of_ble_eq_true rfl, Nat.le_of_ble_eq_true rfl⟩) (pV (T := TX13) hP hK hD hT hG hS k0 (by decide) rfl) rfl rfl hl.1 rfl (lv_room (Nat.le_of_ble_eq_true rfl)) dX13_steepest_23 ⟨Nat.zero_le _, Nat.zero_le _⟩) hS (fun H locs hP hD hT hS => ?_)
    have hZ := Option.some.inj h
    have hZ1 := congrArg Prod.fst hZ
    have hZ2 := congrArg Prod.snd hZ
    exact r_iret hx hb hr hlocks hP hK hD hT hG hS hZ1 hZ2 dX13_steepest_26
  · replace h := ite_f c2 h
    refine lv_aload_n hx hb dX13_steepest_13 rfl (lv_at hl 0 rfl) ?_
    refine lv_iload_n hx hb dX13_steepest_14 rfl (lv_at hl 2 rfl) ?_
    obtain ⟨z4, h4, h⟩ := ob_some h
    refine k_z (va_runV (As := [.int x2]) (rest := []) ⟨hx, hb, hml, hown, hts⟩ (c_X13_isStatue (l := l) Mg1 a0 x2 k0 h4) (cwV 1 hts gX13_steepest_X13_isStatue rfl rfl rfl hdV_X13_isStatue ⟨Nat.le_of_ble_eq_true rfl, Nat.le_of_ble_eq_true rfl⟩) (pV (T := TX13) hP hK hD hT hG hS k0 (by decide) rfl) rfl rfl hl.1 rfl (lv_room (Nat.le_of_ble_eq_true rfl)) dX13_steepest_15 ⟨Nat.zero_le _, Nat.zero_le _⟩) hS (fun H locs hz4 hP hD hT hS => ?_)
    refine lv_if_ne (tgt := 27) hx hb dX13_steepest_18 rfl (fun c5 => ?_) (fun c5 => ?_)
    · replace h := ite_f c5 h
      refine lv_iconst (v := 0) hx hb dX13_steepest_27 rfl ?_
      refine lv_istore (lv' := [(4, .int 0), (0, .ref (ad a0)), (1, .int x1), (2, .int x2), (3, .int x3)]) hx hb dX13_steepest_28 hl (by decide) rfl (fun ls hl => ?_)
      have L6 : ∀ n6 : Nat, ∀ (M6 : MM) (y6_0 : Nat) (y6_1 : Int32) (y6_2 : Int32) (y6_3 : Int32) (y6_4 : Int32) (ky6_0 : ok g y6_0 13 0) (H : Heap) (locs : List Loc), f_X13_steepest_L30 n6 M6 y6_0 y6_1 y6_2 y6_3 y6_4 = some Z → va_P D vwCl (wd ad cy g M6) H → va_D A (wd ad cy g M6) → WT g M6 → va_S A s.heap H locs → ∀ (ls : Array Slot), lv_has ls 6 [(0, .ref (ad y6_0)), (1, .int y6_1), (2, .int y6_2), (3, .int y6_3), (4, .int y6_4)] → W p l e ((headSpec wsX13_steepest ({ frames := 3, cells := 0, slots := 0, locals := 69 })).room) s m (([.ref (ad a0), .int x1, .int x2, .int x3] : List Value).toArray) below meth c H locs 0 0 (MQ below (va_Qi (fun r u => r = Z.1 ∧ u = Z.2) (Wd D ad cy A g q) A) ([.ref (ad a0), .int x1, .int x2, .int x3]).toArray s 0 0 A) (F0 m 30 ls []) := by
        intro n6
        induction n6 with
        | zero => intro M6 y6_0 y6_1 y6_2 y6_3 y6_4 ky6_0 H locs h; exact absurd h (by simp [f_X13_steepest_L30])
        | succ n6 ih6 =>
          intro M6 y6_0 y6_1 y6_2 y6_3 y6_4 ky6_0 H locs h hP hD hT hS ls hl
          rw [f_X13_steepest_L30] at h
          refine lv_iload hx hb dX13_steepest_30 (lv_at hl 4 rfl) ?_
          refine lv_bipush (v := 40) hx hb dX13_steepest_32 rfl ?_
          refine lv_icmp_gt (tgt := 80) hx hb dX13_steepest_34 rfl (fun c7 => ?_) (fun c7 => ?_)
          · replace h := ite_t c7 h
            refine lv_aload_n hx hb dX13_steepest_80 rfl (lv_at hl 0 rfl) ?_
            refine lv_bipush (v := (-100)) hx hb dX13_steepest_81 rfl ?_
            obtain ⟨z8, h8, h⟩ := ob_some h
            refine k_i (va_runV (As := [.int (-100)]) (rest := []) ⟨hx, hb, hml, hown, hts⟩ (c_X13_done (l := l) M6 y6_0 (-100) ky6_0 h8) (cwV 1 hts gX13_steepest_X13_done rfl rfl rfl hdV_X13_done ⟨Nat.le_of_ble_eq_true rfl, Nat.le_of_ble_eq_true rfl⟩) (pV (T := TX13) hP hK hD hT hG hS ky6_0 (by decide) rfl) rfl rfl hl.1 rfl (lv_room (Nat.le_of_ble_eq_true rfl)) dX13_steepest_83 ⟨Nat.zero_le _, Nat.zero_le _⟩) hS (fun H locs hP hD hT hS => ?_)
            have hZ := Option.some.inj h
            have hZ1 := congrArg Prod.fst hZ
            have hZ2 := congrArg Prod.snd hZ
            exact r_iret hx hb hr hlocks hP hK hD hT hG hS hZ1 hZ2 dX13_steepest_86
          · replace h := ite_f c7 h
            refine lv_iload_n hx hb dX13_steepest_37 rfl (lv_at hl 3 rfl) ?_
            refine lv_if_eq (tgt := 49) hx hb dX13_steepest_38 rfl (fun c9 => ?_) (fun c9 => ?_)
            · replace h := ite_t c9 h
              refine lv_bipush (v := 20) hx hb dX13_steepest_49 rfl ?_
              refine lv_iload hx hb dX13_steepest_51 (lv_at hl 4 rfl) ?_
              refine lv_isub hx hb dX13_steepest_53 ?_
              refine lv_istore (lv' := [(5, .int (20 - y6_4)), (0, .ref (ad y6_0)), (1, .int y6_1), (2, .int y6_2), (3, .int y6_3), (4, .int y6_4)]) hx hb dX13_steepest_54 hl (by decide) rfl (fun ls hl => ?_)
              refine lv_aload_n hx hb dX13_steepest_56 rfl (lv_at hl 1 rfl) ?_
              refine lv_iload_n hx hb dX13_steepest_57 rfl (lv_at hl 2 rfl) ?_
              refine lv_iload_n hx hb dX13_steepest_58 rfl (lv_at hl 3 rfl) ?_
              refine lv_iload hx hb dX13_steepest_59 (lv_at hl 0 rfl) ?_
              obtain ⟨z10, h10, h⟩ := ob_some h
              refine k_z (va_runV (As := [.int y6_1, .int y6_2, .int (20 - y6_4)]) (rest := []) ⟨hx, hb, hml, hown, hts⟩ (c_X13_canBy (l := l) M6 y6_0 y6_1 y6_2 (20 - y6_4) ky6_0 h10) (cwV 3 hts gX13_steepest_X13_canBy rfl rfl rfl hdV_X13_canBy ⟨Nat.le_of_ble_eq_true rfl, Nat.le_of_ble_eq_true rfl⟩) (pV (T := TX13) hP hK hD hT hG hS ky6_0 (by decide) rfl) rfl rfl hl.1 rfl (lv_room (Nat.le_of_ble_eq_true rfl)) dX13_steepest_61 ⟨Nat.zero_le _, Nat.zero_le _⟩) hS (fun H locs hz10 hP hD hT hS => ?_)
              refine lv_if_eq (tgt := 74) hx hb dX13_steepest_64 rfl (fun c11 => ?_) (fun c11 => ?_)
              · replace h := ite_t c11 h
                refine lv_iinc (v := y6_4 + 1) (lv' := [(4, .int (y6_4 + 1)), (5, .int (20 - y6_4)), (0, .ref (ad y6_0)), (1, .int y6_1), (2, .int y6_2), (3, .int y6_3)]) hx hb dX13_steepest_74 hl (k := 5) rfl rfl (by decide) rfl (fun ls hl => ?_)
                refine lv_goto (tgt := 30) hx hb dX13_steepest_77 rfl ?_
                exact ih6 M6 y6_0 y6_1 y6_2 y6_3 (y6_4 + 1) ky6_0 _ _ h hP hD hT hS ls (lv_sub hl [2, 3, 4, 5, 0] rfl)
              · replace h := ite_f c11 h
                refine lv_aload_n hx hb dX13_steepest_67 rfl (lv_at hl 1 rfl) ?_
                refine lv_iload hx hb dX13_steepest_68 (lv_at hl 0 rfl) ?_
                obtain ⟨z12, h12, h⟩ := ob_some h
                refine k_i (va_runV (As := [.int (20 - y6_4)]) (rest := []) ⟨hx, hb, hml, hown, hts⟩ (c_X13_done (l := l) M6 y6_0 (20 - y6_4) ky6_0 h12) (cwV 1 hts gX13_steepest_X13_done rfl rfl rfl hdV_X13_done ⟨Nat.le_of_ble_eq_true rfl, Nat.le_of_ble_eq_true rfl⟩) (pV (T := TX13) hP hK hD hT hG hS ky6_0 (by decide) rfl) rfl rfl hl.1 rfl (lv_room (Nat.le_of_ble_eq_true rfl)) dX13_steepest_70 ⟨Nat.zero_le _, Nat.zero_le _⟩) hS (fun H locs hP hD hT hS => ?_)
                have hZ := Option.some.inj h
                have hZ1 := congrArg Prod.fst hZ
                have hZ2 := congrArg Prod.snd hZ
                exact r_iret hx hb hr hlocks hP hK hD hT hG hS hZ1 hZ2 dX13_steepest_73
            · replace h := ite_f c9 h
              refine lv_iload hx hb dX13_steepest_41 (lv_at hl 4 rfl) ?_
              refine lv_bipush (v := 20) hx hb dX13_steepest_43 rfl ?_
              refine lv_isub hx hb dX13_steepest_45 ?_
              refine lv_goto (tgt := 54) hx hb dX13_steepest_46 rfl ?_
              refine lv_istore (lv' := [(5, .int (y6_4 - 20)), (0, .ref (ad y6_0)), (1, .int y6_1), (2, .int y6_2), (3, .int y6_3), (4, .int y6_4)]) hx hb dX13_steepest_54 hl (by decide) rfl (fun ls hl => ?_)
              refine lv_aload_n hx hb dX13_steepest_56 rfl (lv_at hl 1 rfl) ?_
              refine lv_iload_n hx hb dX13_steepest_57 rfl (lv_at hl 2 rfl) ?_
              refine lv_iload_n hx hb dX13_steepest_58 rfl (lv_at hl 3 rfl) ?_
              refine lv_iload hx hb dX13_steepest_59 (lv_at hl 0 rfl) ?_
              obtain ⟨z13, h13, h⟩ := ob_some h
              refine k_z (va_runV (As := [.int y6_1, .int y6_2, .int (y6_4 - 20)]) (rest := []) ⟨hx, hb, hml, hown, hts⟩ (c_X13_canBy (l := l) M6 y6_0 y6_1 y6_2 (y6_4 - 20) ky6_0 h13) (cwV 3 hts gX13_steepest_X13_canBy rfl rfl rfl hdV_X13_canBy ⟨Nat.le_of_ble_eq_true rfl, Nat.le_of_ble_eq_true rfl⟩) (pV (T := TX13) hP hK hD hT hG hS ky6_0 (by decide) rfl) rfl rfl hl.1 rfl (lv_room (Nat.le_of_ble_eq_true rfl)) dX13_steepest_61 ⟨Nat.zero_le _, Nat.zero_le _⟩) hS (fun H locs hz13 hP hD hT hS => ?_)
              refine lv_if_eq (tgt := 74) hx hb dX13_steepest_64 rfl (fun c14 => ?_) (fun c14 => ?_)
              · replace h := ite_t c14 h
                refine lv_iinc (v := y6_4 + 1) (lv' := [(4, .int (y6_4 + 1)), (5, .int (y6_4 - 20)), (0, .ref (ad y6_0)), (1, .int y6_1), (2, .int y6_2), (3, .int y6_3)]) hx hb dX13_steepest_74 hl (k := 5) rfl rfl (by decide) rfl (fun ls hl => ?_)
                refine lv_goto (tgt := 30) hx hb dX13_steepest_77 rfl ?_
                exact ih6 M6 y6_0 y6_1 y6_2 y6_3 (y6_4 + 1) ky6_0 _ _ h hP hD hT hS ls (lv_sub hl [2, 3, 4, 5, 0] rfl)
              · replace h := ite_f c14 h
                refine lv_aload_n hx hb dX13_steepest_67 rfl (lv_at hl 1 rfl) ?_
                refine lv_iload hx hb dX13_steepest_68 (lv_at hl 0 rfl) ?_
                obtain ⟨z15, h15, h⟩ := ob_some h
                refine k_i (va_runV (As := [.int (y6_4 - 20)]) (rest := []) ⟨hx, hb, hml, hown, hts⟩ (c_X13_done (l := l) M6 y6_0 (y6_4 - 20) ky6_0 h15) (cwV 1 hts gX13_steepest_X13_done rfl rfl rfl hdV_X13_done ⟨Nat.le_of_ble_eq_true rfl, Nat.le_of_ble_eq_true rfl⟩) (pV (T := TX13) hP hK hD hT hG hS ky6_0 (by decide) rfl) rfl rfl hl.1 rfl (lv_room (Nat.le_of_ble_eq_true rfl)) dX13_steepest_70 ⟨Nat.zero_le _, Nat.zero_le _⟩) hS (fun H locs hP hD hT hS => ?_)
                have hZ := Option.some.inj h
                have hZ1 := congrArg Prod.fst hZ
                have hZ2 := congrArg Prod.snd hZ
                exact r_iret hx hb hr hlocks hP hK hD hT hG hS hZ1 hZ2 dX13_steepest_73
      exact L6 FU Mg1 a0 x1 x2 x3 0 k0 _ _ h hP hD hT hS ls (lv_sub hl [1, 2, 3, 4, 0] rfl)
    · replace h := ite_t c5 h
      refine lv_aload_n hx hb dX13_steepest_21 rfl (lv_at hl 0 rfl) ?_
      refine lv_iconst (v := 1) hx hb dX13_steepest_22 rfl ?_
      obtain ⟨z16, h16, h⟩ := ob_some h
      refine k_i (va_runV (As := [.int 1]) (rest := []) ⟨hx, hb, hml, hown, hts⟩ (c_X13_lost (l := l) Mg1 a0 1 k0 h16) (cwV 1 hts gX13_steepest_X13_lost rfl rfl rfl hdV_X13_lost ⟨Nat.le_of_ble_eq_true rfl, Nat.le_of_ble_eq_true rfl⟩) (pV (T := TX13) hP hK hD hT hG hS k0 (by decide) rfl) rfl rfl hl.1 rfl (lv_room (Nat.le_of_ble_eq_true rfl)) dX13_steepest_23 ⟨Nat.zero_le _, Nat.zero_le _⟩) hS (fun H locs hP hD hT hS => ?_)
      have hZ := Option.some.inj h
      have hZ1 := congrArg Prod.fst hZ
      have hZ2 := congrArg Prod.snd hZ
      exact r_iret hx hb hr hlocks hP hK hD hT hG hS hZ1 hZ2 dX13_steepest_26
