theorem hdV_X12_slopeAt : yX12_slopeAt.cls = RX12 ∧ yX12_slopeAt.cls ≠ "java/lang/invoke/MethodHandle" ∧ yX12_slopeAt.cls ≠ "java/lang/invoke/VarHandle" ∧ (parseMethodDescriptor yX12_slopeAt.desc).map (fun d => d.parameters.length) = some 2 := by decide +kernel
theorem hdV_X13_thrown : yX13_thrown.cls = RX13 ∧ yX13_thrown.cls ≠ "java/lang/invoke/MethodHandle" ∧ yX13_thrown.cls ≠ "java/lang/invoke/VarHandle" ∧ (parseMethodDescriptor yX13_thrown.desc).map (fun d => d.parameters.length) = some 0 := by decide +kernel
theorem hdV_X13_lost : yX13_lost.cls = RX13 ∧ yX13_lost.cls ≠ "java/lang/invoke/MethodHandle" ∧ yX13_lost.cls ≠ "java/lang/invoke/VarHandle" ∧ (parseMethodDescriptor yX13_lost.desc).map (fun d => d.parameters.length) = some 1 := by decide +kernel
theorem hdV_X13_denied : yX13_denied.cls = RX13 ∧ yX13_denied.cls ≠ "java/lang/invoke/MethodHandle" ∧ yX13_denied.cls ≠ "java/lang/invoke/VarHandle" ∧ (parseMethodDescriptor yX13_denied.desc).map (fun d => d.parameters.length) = some 1 := by decide +kernel
theorem hdV_X13_granted : yX13_granted.cls = RX13 ∧ yX13_granted.cls ≠ "java/lang/invoke/MethodHandle" ∧ yX13_granted.cls ≠ "java/lang/invoke/VarHandle" ∧ (parseMethodDescriptor yX13_granted.desc).map (fun d => d.parameters.length) = some 0 := by decide +kernel
theorem hdS_X13_up : yX13_up.cls ≠ "java/lang/invoke/MethodHandle" ∧ yX13_up.cls ≠ "java/lang/invoke/VarHandle" ∧ (parseMethodDescriptor yX13_up.desc).map (fun d => d.parameters.length) = some 2 := by decide +kernel
theorem hdV_X13_feed : yX13_feed.cls = RX13 ∧ yX13_feed.cls ≠ "java/lang/invoke/MethodHandle" ∧ yX13_feed.cls ≠ "java/lang/invoke/VarHandle" ∧ (parseMethodDescriptor yX13_feed.desc).map (fun d => d.parameters.length) = some 5 := by decide +kernel
theorem hdV_X13_fault : yX13_fault.cls = RX13 ∧ yX13_fault.cls ≠ "java/lang/invoke/MethodHandle" ∧ yX13_fault.cls ≠ "java/lang/invoke/VarHandle" ∧ (parseMethodDescriptor yX13_fault.desc).map (fun d => d.parameters.length) = some 0 := by decide +kernel
theorem hdV_X13_where : yX13_where.cls = RX13 ∧ yX13_where.cls ≠ "java/lang/invoke/MethodHandle" ∧ yX13_where.cls ≠ "java/lang/invoke/VarHandle" ∧ (parseMethodDescriptor yX13_where.desc).map (fun d => d.parameters.length) = some 0 := by decide +kernel
theorem hdV_X13_isWay : yX13_isWay.cls = RX13 ∧ yX13_isWay.cls ≠ "java/lang/invoke/MethodHandle" ∧ yX13_isWay.cls ≠ "java/lang/invoke/VarHandle" ∧ (parseMethodDescriptor yX13_isWay.desc).map (fun d => d.parameters.length) = some 1 := by decide +kernel
theorem hdV_X13_isRoad : yX13_isRoad.cls = RX13 ∧ yX13_isRoad.cls ≠ "java/lang/invoke/MethodHandle" ∧ yX13_isRoad.cls ≠ "java/lang/invoke/VarHandle" ∧ (parseMethodDescriptor yX13_isRoad.desc).map (fun d => d.parameters.length) = some 1 := by decide +kernel
theorem hdV_X13_isStatue : yX13_isStatue.cls = RX13 ∧ yX13_isStatue.cls ≠ "java/lang/invoke/MethodHandle" ∧ yX13_isStatue.cls ≠ "java/lang/invoke/VarHandle" ∧ (parseMethodDescriptor yX13_isStatue.desc).map (fun d => d.parameters.length) = some 1 := by decide +kernel
theorem hdV_X13_isStory : yX13_isStory.cls = RX13 ∧ yX13_isStory.cls ≠ "java/lang/invoke/MethodHandle" ∧ yX13_isStory.cls ≠ "java/lang/invoke/VarHandle" ∧ (parseMethodDescriptor yX13_isStory.desc).map (fun d => d.parameters.length) = some 1 := by decide +kernel
theorem hdS_X13_canGo : yX13_canGo.cls ≠ "java/lang/invoke/MethodHandle" ∧ yX13_canGo.cls ≠ "java/lang/invoke/VarHandle" ∧ (parseMethodDescriptor yX13_canGo.desc).map (fun d => d.parameters.length) = some 5 := by decide +kernel
theorem hdV_X13_canBy : yX13_canBy.cls = RX13 ∧ yX13_canBy.cls ≠ "java/lang/invoke/MethodHandle" ∧ yX13_canBy.cls ≠ "java/lang/invoke/VarHandle" ∧ (parseMethodDescriptor yX13_canBy.desc).map (fun d => d.parameters.length) = some 3 := by decide +kernel
theorem hdV_X13_refusesSlope : yX13_refusesSlope.cls = RX13 ∧ yX13_refusesSlope.cls ≠ "java/lang/invoke/MethodHandle" ∧ yX13_refusesSlope.cls ≠ "java/lang/invoke/VarHandle" ∧ (parseMethodDescriptor yX13_refusesSlope.desc).map (fun d => d.parameters.length) = some 3 := by decide +kernel
theorem hdV_X13_can : yX13_can.cls = RX13 ∧ yX13_can.cls ≠ "java/lang/invoke/MethodHandle" ∧ yX13_can.cls ≠ "java/lang/invoke/VarHandle" ∧ (parseMethodDescriptor yX13_can.desc).map (fun d => d.parameters.length) = some 3 := by decide +kernel
theorem hdV_X13_canOn : yX13_canOn.cls = RX13 ∧ yX13_canOn.cls ≠ "java/lang/invoke/MethodHandle" ∧ yX13_canOn.cls ≠ "java/lang/invoke/VarHandle" ∧ (parseMethodDescriptor yX13_canOn.desc).map (fun d => d.parameters.length) = some 3 := by decide +kernel
theorem hdV_X13_steepest : yX13_steepest.cls = RX13 ∧ yX13_steepest.cls ≠ "java/lang/invoke/MethodHandle" ∧ yX13_steepest.cls ≠ "java/lang/invoke/VarHandle" ∧ (parseMethodDescriptor yX13_steepest.desc).map (fun d => d.parameters.length) = some 3 := by decide +kernel
theorem hdV_X13_needBy : yX13_needBy.cls = RX13 ∧ yX13_needBy.cls ≠ "java/lang/invoke/MethodHandle" ∧ yX13_needBy.cls ≠ "java/lang/invoke/VarHandle" ∧ (parseMethodDescriptor yX13_needBy.desc).map (fun d => d.parameters.length) = some 3 := by decide +kernel
theorem hdV_X13_need : yX13_need.cls = RX13 ∧ yX13_need.cls ≠ "java/lang/invoke/MethodHandle" ∧ yX13_need.cls ≠ "java/lang/invoke/VarHandle" ∧ (parseMethodDescriptor yX13_need.desc).map (fun d => d.parameters.length) = some 3 := by decide +kernel
theorem hdV_X13_minutesBy : yX13_minutesBy.cls = RX13 ∧ yX13_minutesBy.cls ≠ "java/lang/invoke/MethodHandle" ∧ yX13_minutesBy.cls ≠ "java/lang/invoke/VarHandle" ∧ (parseMethodDescriptor yX13_minutesBy.desc).map (fun d => d.parameters.length) = some 3 := by decide +kernel
theorem hdV_X13_minutes : yX13_minutes.cls = RX13 ∧ yX13_minutes.cls ≠ "java/lang/invoke/MethodHandle" ∧ yX13_minutes.cls ≠ "java/lang/invoke/VarHandle" ∧ (parseMethodDescriptor yX13_minutes.desc).map (fun d => d.parameters.length) = some 4 := by decide +kernel
theorem hdV_X13_chanceBy : yX13_chanceBy.cls = RX13 ∧ yX13_chanceBy.cls ≠ "java/lang/invoke/MethodHandle" ∧ yX13_chanceBy.cls ≠ "java/lang/invoke/VarHandle" ∧ (parseMethodDescriptor yX13_chanceBy.desc).map (fun d => d.parameters.length) = some 3 := by decide +kernel
theorem hdV_X13_chance : yX13_chance.cls = RX13 ∧ yX13_chance.cls ≠ "java/lang/invoke/MethodHandle" ∧ yX13_chance.cls ≠ "java/lang/invoke/VarHandle" ∧ (parseMethodDescriptor yX13_chance.desc).map (fun d => d.parameters.length) = some 3 := by decide +kernel
theorem hdV_X13_tenths : yX13_tenths.cls = RX13 ∧ yX13_tenths.cls ≠ "java/lang/invoke/MethodHandle" ∧ yX13_tenths.cls ≠ "java/lang/invoke/VarHandle" ∧ (parseMethodDescriptor yX13_tenths.desc).map (fun d => d.parameters.length) = some 3 := by decide +kernel
theorem hdV_X13_lying : yX13_lying.cls = RX13 ∧ yX13_lying.cls ≠ "java/lang/invoke/MethodHandle" ∧ yX13_lying.cls ≠ "java/lang/invoke/VarHandle" ∧ (parseMethodDescriptor yX13_lying.desc).map (fun d => d.parameters.length) = some 3 := by decide +kernel
theorem hdV_X13_needAlong : yX13_needAlong.cls = RX13 ∧ yX13_needAlong.cls ≠ "java/lang/invoke/MethodHandle" ∧ yX13_needAlong.cls ≠ "java/lang/invoke/VarHandle" ∧ (parseMethodDescriptor yX13_needAlong.desc).map (fun d => d.parameters.length) = some 3 := by decide +kernel
theorem hdV_X13_easiest : yX13_easiest.cls = RX13 ∧ yX13_easiest.cls ≠ "java/lang/invoke/MethodHandle" ∧ yX13_easiest.cls ≠ "java/lang/invoke/VarHandle" ∧ (parseMethodDescriptor yX13_easiest.desc).map (fun d => d.parameters.length) = some 2 := by decide +kernel
theorem hdV_X13_seed : yX13_seed.cls = RX13 ∧ yX13_seed.cls ≠ "java/lang/invoke/MethodHandle" ∧ yX13_seed.cls ≠ "java/lang/invoke/VarHandle" ∧ (parseMethodDescriptor yX13_seed.desc).map (fun d => d.parameters.length) = some 1 := by decide +kernel
theorem hdV_X13_startsAnew : yX13_startsAnew.cls = RX13 ∧ yX13_startsAnew.cls ≠ "java/lang/invoke/MethodHandle" ∧ yX13_startsAnew.cls ≠ "java/lang/invoke/VarHandle" ∧ (parseMethodDescriptor yX13_startsAnew.desc).map (fun d => d.parameters.length) = some 0 := by decide +kernel
theorem hdV_X13_move : yX13_move.cls = RX13 ∧ yX13_move.cls ≠ "java/lang/invoke/MethodHandle" ∧ yX13_move.cls ≠ "java/lang/invoke/VarHandle" ∧ (parseMethodDescriptor yX13_move.desc).map (fun d => d.parameters.length) = some 4 := by decide +kernel
theorem hdV_X13_drawn : yX13_drawn.cls = RX13 ∧ yX13_drawn.cls ≠ "java/lang/invoke/MethodHandle" ∧ yX13_drawn.cls ≠ "java/lang/invoke/VarHandle" ∧ (parseMethodDescriptor yX13_drawn.desc).map (fun d => d.parameters.length) = some 1 := by decide +kernel
theorem hdV_X13_steps : yX13_steps.cls = RX13 ∧ yX13_steps.cls ≠ "java/lang/invoke/MethodHandle" ∧ yX13_steps.cls ≠ "java/lang/invoke/VarHandle" ∧ (parseMethodDescriptor yX13_steps.desc).map (fun d => d.parameters.length) = some 0 := by decide +kernel
theorem hdV_X13_step : yX13_step.cls = RX13 ∧ yX13_step.cls ≠ "java/lang/invoke/MethodHandle" ∧ yX13_step.cls ≠ "java/lang/invoke/VarHandle" ∧ (parseMethodDescriptor yX13_step.desc).map (fun d => d.parameters.length) = some 0 := by decide +kernel
theorem hdV_X13_call : yX13_call.cls = RX13 ∧ yX13_call.cls ≠ "java/lang/invoke/MethodHandle" ∧ yX13_call.cls ≠ "java/lang/invoke/VarHandle" ∧ (parseMethodDescriptor yX13_call.desc).map (fun d => d.parameters.length) = some 1 := by decide +kernel
theorem hdV_X13_woodOf : yX13_woodOf.cls = RX13 ∧ yX13_woodOf.cls ≠ "java/lang/invoke/MethodHandle" ∧ yX13_woodOf.cls ≠ "java/lang/invoke/VarHandle" ∧ (parseMethodDescriptor yX13_woodOf.desc).map (fun d => d.parameters.length) = some 2 := by decide +kernel
theorem hdV_X13_at : yX13_at.cls = RX13 ∧ yX13_at.cls ≠ "java/lang/invoke/MethodHandle" ∧ yX13_at.cls ≠ "java/lang/invoke/VarHandle" ∧ (parseMethodDescriptor yX13_at.desc).map (fun d => d.parameters.length) = some 1 := by decide +kernel
theorem hdV_X13_tries : yX13_tries.cls = RX13 ∧ yX13_tries.cls ≠ "java/lang/invoke/MethodHandle" ∧ yX13_tries.cls ≠ "java/lang/invoke/VarHandle" ∧ (parseMethodDescriptor yX13_tries.desc).map (fun d => d.parameters.length) = some 1 := by decide +kernel
theorem hdV_X13_image : yX13_image.cls = RX13 ∧ yX13_image.cls ≠ "java/lang/invoke/MethodHandle" ∧ yX13_image.cls ≠ "java/lang/invoke/VarHandle" ∧ (parseMethodDescriptor yX13_image.desc).map (fun d => d.parameters.length) = some 0 := by decide +kernel
set_option maxHeartbeats 4000000 in
set_option maxRecDepth 100000 in
theorem c_X12_slopeAt {l : Launch} {D : va_G} {ad : Nat → Nat} {cy : Nat → ClassId} {A : Nat → Prop} {g : CG} {q : SE} (M : MM) (a0 : Nat) (x1 : Int32) (x2 : Int32) (k0 : ok g a0 12 0) {Z : Int32} (h : f_X12_slopeAt M a0 x1 x2 = some Z) : Met l yX12_slopeAt wsX12_slopeAt ({ frames := 0, cells := 0, slots := 0, locals := 0 }) (va_Pc [.ref (ad a0), .int x1, .int x2] (Wd D ad cy A g q M)) (va_Qi (fun r u => r = Z ∧ u = M) (Wd D ad cy A g q) A) 0 0 A := by
  refine Met.ofW (cc := cX12_slopeAt) (maxL := 3) (ret := (some .int)) (by decide) rfl ?_
  intro p e s m args below meth c s₁ B hml hv
  obtain ⟨rfl, hP, hK, hD, hT, hG⟩ := hv
  have hx := B.exec
  have hb := B.bytes
  have hr := B.returns
  have hts := atoms_spec (ws := wsX12_slopeAt) B.pre
  have hown : s.vm.findClass RX12 = some m.cls := findClass_of_methodNamed B.named
  have hlocks := B.notSynchronized
  have in12 : ∀ w ∈ u_ws RX12 TX12 48, w ∈ wsX12_slopeAt := fun w h => List.mem_cons_of_mem _ (List.mem_append_right _ h)
  have hS : va_S A s.heap s.heap [] := va_S.rf
  have hl := lv_entry ([.ref (ad a0), .int x1, .int x2]) (n := 3) (Nat.le_of_ble_eq_true rfl)
  rw [lg_entry_eq]
  generalize (lg_sl ([.ref (ad a0), .int x1, .int x2]) ++ List.replicate (3 - (lg_sl ([.ref (ad a0), .int x1, .int x2])).length) Slot.unset).toArray = ls at hl ⊢
  have hl : lv_has ls 3 [(0, .ref (ad a0)), (1, .int x1), (2, .int x2)] := hl
  unfold f_X12_slopeAt at h
  refine lv_aload_n hx hb dX12_slopeAt_0 rfl (lv_at hl 0 rfl) ?_
  rcases hN1 : gR M a0 14 with _ | b1
  · exact absurd (oc_n hN1 h) (by simp)
  replace h := oc_s hN1 h
  have kb1 := hT.f k0 (k := 14) (t := 15) (n := 18) rfl hN1
  refine r_get (T := TX12) (v := .ref (ad b1)) hx hb hts in12 hown hK hP k0 (by decide) rfl 14 (by decide) (hts (.fieldLink RX12 27 "StoneWalkModel$Island" "slope" "[I") (List.mem_of_getElem? (i := 1) (by decide +kernel))) rfl (t := 2) rfl (by show va_rf _ = _; rw [hN1]; rfl) dX12_slopeAt_1 ?_
  refine lv_bipush (v := 6) hx hb dX12_slopeAt_4 rfl ?_
  refine lv_iload_n hx hb dX12_slopeAt_6 rfl (lv_at hl 1 rfl) ?_
  refine lv_imul hx hb dX12_slopeAt_7 ?_
  refine lv_iload_n hx hb dX12_slopeAt_8 rfl (lv_at hl 2 rfl) ?_
  refine lv_iadd hx hb dX12_slopeAt_9 ?_
  obtain ⟨hn2, h⟩ := chk_some h
  refine r_iald hx hb hK hP kb1 hn2 dX12_slopeAt_10 ?_
  exact r_iret hx hb hr hlocks hP hK hD hT hG hS (Option.some.inj h) rfl dX12_slopeAt_11
set_option maxHeartbeats 4000000 in
set_option maxRecDepth 100000 in
theorem c_X13_thrown {l : Launch} {D : va_G} {ad : Nat → Nat} {cy : Nat → ClassId} {A : Nat → Prop} {g : CG} {q : SE} (M : MM) (a0 : Nat) (k0 : ok g a0 13 0) {Z : Int32} (h : f_X13_thrown M a0 = some Z) : Met l yX13_thrown wsX13_thrown ({ frames := 0, cells := 0, slots := 0, locals := 0 }) (va_Pc [.ref (ad a0)] (Wd D ad cy A g q M)) (va_Qi (fun r u => r = Z ∧ u = M) (Wd D ad cy A g q) A) 0 0 A := by
  refine Met.ofW (cc := cX13_thrown) (maxL := 1) (ret := (some .int)) (by decide) rfl ?_
  intro p e s m args below meth c s₁ B hml hv
  obtain ⟨rfl, hP, hK, hD, hT, hG⟩ := hv
  have hx := B.exec
  have hb := B.bytes
  have hr := B.returns
  have hts := atoms_spec (ws := wsX13_thrown) B.pre
  have hown : s.vm.findClass RX13 = some m.cls := findClass_of_methodNamed B.named
  have hlocks := B.notSynchronized
  have in13 : ∀ w ∈ u_ws RX13 TX13 29, w ∈ wsX13_thrown := fun w h => List.mem_cons_of_mem _ (List.mem_append_right _ h)
  have hS : va_S A s.heap s.heap [] := va_S.rf
  have hl := lv_entry ([.ref (ad a0)]) (n := 1) (Nat.le_of_ble_eq_true rfl)
  rw [lg_entry_eq]
  generalize (lg_sl ([.ref (ad a0)]) ++ List.replicate (1 - (lg_sl ([.ref (ad a0)])).length) Slot.unset).toArray = ls at hl ⊢
  have hl : lv_has ls 1 [(0, .ref (ad a0))] := hl
  unfold f_X13_thrown at h
  refine lv_aload_n hx hb dX13_thrown_0 rfl (lv_at hl 0 rfl) ?_
  refine r_get (T := TX13) (v := .int (gI M a0 0)) hx hb hts in13 hown hK hP k0 (by decide) rfl 0 (by decide) (hts (.fieldLink RX13 30 "StoneWalkModel" "thrown" "I") (List.mem_of_getElem? (i := 1) (by decide +kernel))) rfl (t := 0) rfl rfl dX13_thrown_1 ?_
  exact r_iret hx hb hr hlocks hP hK hD hT hG hS (Option.some.inj h) rfl dX13_thrown_4
set_option maxHeartbeats 4000000 in
set_option maxRecDepth 100000 in
theorem c_X13_lost {l : Launch} {D : va_G} {ad : Nat → Nat} {cy : Nat → ClassId} {A : Nat → Prop} {g : CG} {q : SE} (M : MM) (a0 : Nat) (x1 : Int32) (k0 : ok g a0 13 0) {Z : (Int32 × MM)} (h : f_X13_lost M a0 x1 = some Z) : Met l yX13_lost wsX13_lost ({ frames := 1, cells := 0, slots := 0, locals := 21 }) (va_Pc [.ref (ad a0), .int x1] (Wd D ad cy A g q M)) (va_Qi (fun r u => r = Z.1 ∧ u = Z.2) (Wd D ad cy A g q) A) 0 0 A := by
  refine Met.ofW (cc := cX13_lost) (maxL := 2) (ret := (some .int)) (by decide) rfl ?_
  intro p e s m args below meth c s₁ B hml hv
  obtain ⟨rfl, hP, hK, hD, hT, hG⟩ := hv
  have hx := B.exec
  have hb := B.bytes
  have hr := B.returns
  have hts := atoms_spec (ws := wsX13_lost) B.pre
  have hown : s.vm.findClass RX13 = some m.cls := findClass_of_methodNamed B.named
  have hlocks := B.notSynchronized
  have hS : va_S A s.heap s.heap [] := va_S.rf
  have hl := lv_entry ([.ref (ad a0), .int x1]) (n := 2) (Nat.le_of_ble_eq_true rfl)
  rw [lg_entry_eq]
  generalize (lg_sl ([.ref (ad a0), .int x1]) ++ List.replicate (2 - (lg_sl ([.ref (ad a0), .int x1])).length) Slot.unset).toArray = ls at hl ⊢
  have hl : lv_has ls 2 [(0, .ref (ad a0)), (1, .int x1)] := hl
  unfold f_X13_lost at h
  refine lv_aload_n hx hb dX13_lost_0 rfl (lv_at hl 0 rfl) ?_
  refine lv_iload_n hx hb dX13_lost_1 rfl (lv_at hl 1 rfl) ?_
  obtain ⟨z1, h1, h⟩ := ob_some h
  refine k_i (va_runV (As := [.int x1]) (rest := []) ⟨hx, hb, hml, hown, hts⟩ (c_X13_refused (l := l) M a0 x1 k0 h1) (cwV 1 hts gX13_lost_X13_refused rfl rfl rfl hdV_X13_refused ⟨Nat.le_of_ble_eq_true rfl, Nat.le_of_ble_eq_true rfl⟩) (pV (T := TX13) hP hK hD hT hG hS k0 (by decide) rfl) rfl rfl hl.1 rfl (lv_room (Nat.le_of_ble_eq_true rfl)) dX13_lost_2 ⟨Nat.zero_le _, Nat.zero_le _⟩) hS (fun H locs hP hD hT hS => ?_)
  refine lv_pop hx hb dX13_lost_5 rfl ?_
  refine lv_sipush (v := (-1000)) hx hb dX13_lost_6 rfl ?_
  have hZ := Option.some.inj h
  exact r_iret hx hb hr hlocks hP hK hD hT hG hS (congrArg Prod.fst hZ) (congrArg Prod.snd hZ) dX13_lost_9
set_option maxHeartbeats 4000000 in
set_option maxRecDepth 100000 in
theorem c_X13_denied {l : Launch} {D : va_G} {ad : Nat → Nat} {cy : Nat → ClassId} {A : Nat → Prop} {g : CG} {q : SE} (M : MM) (a0 : Nat) (x1 : Int32) (k0 : ok g a0 13 0) {Z : (Int32 × MM)} (h : f_X13_denied M a0 x1 = some Z) : Met l yX13_denied wsX13_denied ({ frames := 1, cells := 0, slots := 0, locals := 21 }) (va_Pc [.ref (ad a0), .int x1] (Wd D ad cy A g q M)) (va_Qi (fun r u => r = Z.1 ∧ u = Z.2 ∧ zb r) (Wd D ad cy A g q) A) 0 0 A := by
  refine Met.ofW (cc := cX13_denied) (maxL := 2) (ret := (some .boolean)) (by decide) rfl ?_
  intro p e s m args below meth c s₁ B hml hv
  obtain ⟨rfl, hP, hK, hD, hT, hG⟩ := hv
  have hx := B.exec
  have hb := B.bytes
  have hr := B.returns
  have hts := atoms_spec (ws := wsX13_denied) B.pre
  have hown : s.vm.findClass RX13 = some m.cls := findClass_of_methodNamed B.named
  have hlocks := B.notSynchronized
  have hS : va_S A s.heap s.heap [] := va_S.rf
  have hl := lv_entry ([.ref (ad a0), .int x1]) (n := 2) (Nat.le_of_ble_eq_true rfl)
  rw [lg_entry_eq]
  generalize (lg_sl ([.ref (ad a0), .int x1]) ++ List.replicate (2 - (lg_sl ([.ref (ad a0), .int x1])).length) Slot.unset).toArray = ls at hl ⊢
  have hl : lv_has ls 2 [(0, .ref (ad a0)), (1, .int x1)] := hl
  unfold f_X13_denied at h
  refine lv_aload_n hx hb dX13_denied_0 rfl (lv_at hl 0 rfl) ?_
  refine lv_iload_n hx hb dX13_denied_1 rfl (lv_at hl 1 rfl) ?_
  obtain ⟨z1, h1, h⟩ := ob_some h
  refine k_i (va_runV (As := [.int x1]) (rest := []) ⟨hx, hb, hml, hown, hts⟩ (c_X13_refused (l := l) M a0 x1 k0 h1) (cwV 1 hts gX13_denied_X13_refused rfl rfl rfl hdV_X13_refused ⟨Nat.le_of_ble_eq_true rfl, Nat.le_of_ble_eq_true rfl⟩) (pV (T := TX13) hP hK hD hT hG hS k0 (by decide) rfl) rfl rfl hl.1 rfl (lv_room (Nat.le_of_ble_eq_true rfl)) dX13_denied_2 ⟨Nat.zero_le _, Nat.zero_le _⟩) hS (fun H locs hP hD hT hS => ?_)
  refine lv_pop hx hb dX13_denied_5 rfl ?_
  refine lv_iconst (v := 0) hx hb dX13_denied_6 rfl ?_
  have hZ := Option.some.inj h
  exact r_zret hx hb hr hlocks hP hK hD hT hG hS zb_0 (congrArg Prod.fst hZ) (congrArg Prod.snd hZ) dX13_denied_7
set_option maxHeartbeats 4000000 in
set_option maxRecDepth 100000 in
theorem c_X13_granted {l : Launch} {D : va_G} {ad : Nat → Nat} {cy : Nat → ClassId} {A : Nat → Prop} {g : CG} {q : SE} (M : MM) (a0 : Nat) (k0 : ok g a0 13 0) {Z : (Int32 × MM)} (h : f_X13_granted M a0 = some Z) : Met l yX13_granted wsX13_granted ({ frames := 1, cells := 0, slots := 0, locals := 21 }) (va_Pc [.ref (ad a0)] (Wd D ad cy A g q M)) (va_Qi (fun r u => r = Z.1 ∧ u = Z.2 ∧ zb r) (Wd D ad cy A g q) A) 0 0 A := by
  refine Met.ofW (cc := cX13_granted) (maxL := 1) (ret := (some .boolean)) (by decide) rfl ?_
  intro p e s m args below meth c s₁ B hml hv
  obtain ⟨rfl, hP, hK, hD, hT, hG⟩ := hv
  have hx := B.exec
  have hb := B.bytes
  have hr := B.returns
  have hts := atoms_spec (ws := wsX13_granted) B.pre
  have hown : s.vm.findClass RX13 = some m.cls := findClass_of_methodNamed B.named
  have hlocks := B.notSynchronized
  have hS : va_S A s.heap s.heap [] := va_S.rf
  have hl := lv_entry ([.ref (ad a0)]) (n := 1) (Nat.le_of_ble_eq_true rfl)
  rw [lg_entry_eq]
  generalize (lg_sl ([.ref (ad a0)]) ++ List.replicate (1 - (lg_sl ([.ref (ad a0)])).length) Slot.unset).toArray = ls at hl ⊢
  have hl : lv_has ls 1 [(0, .ref (ad a0))] := hl
  unfold f_X13_granted at h
  refine lv_aload_n hx hb dX13_granted_0 rfl (lv_at hl 0 rfl) ?_
  refine lv_iconst (v := 0) hx hb dX13_granted_1 rfl ?_
  obtain ⟨z1, h1, h⟩ := ob_some h
  refine k_i (va_runV (As := [.int 0]) (rest := []) ⟨hx, hb, hml, hown, hts⟩ (c_X13_done (l := l) M a0 0 k0 h1) (cwV 1 hts gX13_granted_X13_done rfl rfl rfl hdV_X13_done ⟨Nat.le_of_ble_eq_true rfl, Nat.le_of_ble_eq_true rfl⟩) (pV (T := TX13) hP hK hD hT hG hS k0 (by decide) rfl) rfl rfl hl.1 rfl (lv_room (Nat.le_of_ble_eq_true rfl)) dX13_granted_2 ⟨Nat.zero_le _, Nat.zero_le _⟩) hS (fun H locs hP hD hT hS => ?_)
  refine lv_pop hx hb dX13_granted_5 rfl ?_
  refine lv_iconst (v := 1) hx hb dX13_granted_6 rfl ?_
  have hZ := Option.some.inj h
  exact r_zret hx hb hr hlocks hP hK hD hT hG hS zb_1 (congrArg Prod.fst hZ) (congrArg Prod.snd hZ) dX13_granted_7
set_option maxHeartbeats 4000000 in
set_option maxRecDepth 100000 in
theorem c_X13_up {l : Launch} {D : va_G} {ad : Nat → Nat} {cy : Nat → ClassId} {A : Nat → Prop} {g : CG} {q : SE} (M : MM) (x0 : Int32) (x1 : Int32) {Z : Int32} (h : f_X13_up M x0 x1 = some Z) : Met l yX13_up wsX13_up ({ frames := 0, cells := 0, slots := 0, locals := 0 }) (va_Pc [.int x0, .int x1] (Wd D ad cy A g q M)) (va_Qi (fun r u => r = Z ∧ u = M) (Wd D ad cy A g q) A) 0 0 A := by
  refine Met.ofW (cc := cX13_up) (maxL := 2) (ret := (some .int)) (by decide) rfl ?_
  intro p e s m args below meth c s₁ B hml hv
  obtain ⟨rfl, hP, hK, hD, hT, hG⟩ := hv
  have hx := B.exec
  have hb := B.bytes
  have hr := B.returns
  have hts := atoms_spec (ws := wsX13_up) B.pre
  have hown : s.vm.findClass RX13 = some m.cls := findClass_of_methodNamed B.named
  have hlocks := B.notSynchronized
  have hS : va_S A s.heap s.heap [] := va_S.rf
  have hl := lv_entry ([.int x0, .int x1]) (n := 2) (Nat.le_of_ble_eq_true rfl)
  rw [lg_entry_eq]
  generalize (lg_sl ([.int x0, .int x1]) ++ List.replicate (2 - (lg_sl ([.int x0, .int x1])).length) Slot.unset).toArray = ls at hl ⊢
  have hl : lv_has ls 2 [(0, .int x0), (1, .int x1)] := hl
  unfold f_X13_up at h
  refine lv_iload_n hx hb dX13_up_0 rfl (lv_at hl 0 rfl) ?_
  refine lv_iload_n hx hb dX13_up_1 rfl (lv_at hl 1 rfl) ?_
  refine lv_iadd hx hb dX13_up_2 ?_
  refine lv_iconst (v := 1) hx hb dX13_up_3 rfl ?_
  refine lv_isub hx hb dX13_up_4 ?_
  refine lv_iload_n hx hb dX13_up_5 rfl (lv_at hl 1 rfl) ?_
  obtain ⟨hn1, h⟩ := chk_some h
  refine lv_idiv hx hb dX13_up_6 hn1 ?_
  exact r_iret hx hb hr hlocks hP hK hD hT hG hS (Option.some.inj h) rfl dX13_up_7
set_option maxHeartbeats 4000000 in
set_option maxRecDepth 100000 in
theorem c_X13_feed {l : Launch} {D : va_G} {ad : Nat → Nat} {cy : Nat → ClassId} {A : Nat → Prop} {g : CG} {q : SE} (M : MM) (a0 : Nat) (x1 : Int32) (x2 : Int32) (x3 : Int32) (x4 : Int32) (x5 : Int32) (k0 : ok g a0 13 0) {Z : (Int32 × MM)} (h : f_X13_feed M a0 x1 x2 x3 x4 x5 = some Z) : Met l yX13_feed wsX13_feed ({ frames := 0, cells := 0, slots := 0, locals := 0 }) (va_Pc [.ref (ad a0), .int x1, .int x2, .int x3, .int x4, .int x5] (Wd D ad cy A g q M)) (va_Qi (fun r u => r = Z.1 ∧ u = Z.2) (Wd D ad cy A g q) A) 0 0 A := by
  refine Met.ofW (cc := cX13_feed) (maxL := 8) (ret := (some .int)) (by decide) rfl ?_
  intro p e s m args below meth c s₁ B hml hv
  obtain ⟨rfl, hP, hK, hD, hT, hG⟩ := hv
  have hx := B.exec
  have hb := B.bytes
  have hr := B.returns
  have hts := atoms_spec (ws := wsX13_feed) B.pre
  have hown : s.vm.findClass RX13 = some m.cls := findClass_of_methodNamed B.named
  have hlocks := B.notSynchronized
  have in13 : ∀ w ∈ u_ws RX13 TX13 29, w ∈ wsX13_feed := fun w h => List.mem_cons_of_mem _ (List.mem_append_right _ h)
  have hS : va_S A s.heap s.heap [] := va_S.rf
  have hl := lv_entry ([.ref (ad a0), .int x1, .int x2, .int x3, .int x4, .int x5]) (n := 8) (Nat.le_of_ble_eq_true rfl)
  rw [lg_entry_eq]
  generalize (lg_sl ([.ref (ad a0), .int x1, .int x2, .int x3, .int x4, .int x5]) ++ List.replicate (8 - (lg_sl ([.ref (ad a0), .int x1, .int x2, .int x3, .int x4, .int x5])).length) Slot.unset).toArray = ls at hl ⊢
  have hl : lv_has ls 8 [(0, .ref (ad a0)), (1, .int x1), (2, .int x2), (3, .int x3), (4, .int x4), (5, .int x5)] := hl
  unfold f_X13_feed at h
  refine lv_aload_n hx hb dX13_feed_0 rfl (lv_at hl 0 rfl) ?_
  refine lv_iconst (v := 0) hx hb dX13_feed_1 rfl ?_
  refine r_putI (T := TX13) (ty := .int) (v := 0) hx hb hts in13 tyX13 tyX13_ok nmX13 hown hK hP hD hT hS k0 (by decide) rfl 0 (by decide) (hts (.fieldLink RX13 30 "StoneWalkModel" "thrown" "I") (List.mem_of_getElem? (i := 1) (by decide +kernel))) rfl rfl (tyX13_ok 0 (by decide)) rfl rfl rfl dX13_feed_2 (fun H locs hP hD hT hS => ?_)
  refine lv_aload_n hx hb dX13_feed_5 rfl (lv_at hl 0 rfl) ?_
  refine r_get (T := TX13) (v := .int (gI (pI M a0 0 0) a0 6)) hx hb hts in13 hown hK hP k0 (by decide) rfl 6 (by decide) (hts (.fieldLink RX13 424 "StoneWalkModel" "taped" "I") (List.mem_of_getElem? (i := 2) (by decide +kernel))) rfl (t := 0) rfl rfl dX13_feed_6 ?_
  refine lv_bipush (v := 20) hx hb dX13_feed_9 rfl ?_
  refine lv_iadd hx hb dX13_feed_11 ?_
  refine lv_sipush (v := 900) hx hb dX13_feed_12 rfl ?_
  refine lv_icmp_le (tgt := 20) hx hb dX13_feed_15 rfl (fun c1 => ?_) (fun c1 => ?_)
  · replace h := ite_t c1 h
    refine lv_iconst (v := 0) hx hb dX13_feed_20 rfl ?_
    refine lv_istore (lv' := [(6, .int 0), (0, .ref (ad a0)), (1, .int x1), (2, .int x2), (3, .int x3), (4, .int x4), (5, .int x5)]) hx hb dX13_feed_21 hl (by decide) rfl (fun ls hl => ?_)
    have L2 : ∀ n2 : Nat, ∀ (M2 : MM) (y2_0 : Nat) (y2_1 : Int32) (y2_2 : Int32) (y2_3 : Int32) (y2_4 : Int32) (y2_5 : Int32) (y2_6 : Int32) (ky2_0 : ok g y2_0 13 0) (H : Heap) (locs : List Loc), f_X13_feed_L23 n2 M2 y2_0 y2_1 y2_2 y2_3 y2_4 y2_5 y2_6 = some Z → va_P D vwCl (wd ad cy g M2) H → va_D A (wd ad cy g M2) → WT g M2 → va_S A s.heap H locs → ∀ (ls : Array Slot), lv_has ls 8 [(0, .ref (ad y2_0)), (1, .int y2_1), (2, .int y2_2), (3, .int y2_3), (4, .int y2_4), (5, .int y2_5), (6, .int y2_6)] → W p l e ((headSpec wsX13_feed ({ frames := 0, cells := 0, slots := 0, locals := 0 })).room) s m (([.ref (ad a0), .int x1, .int x2, .int x3, .int x4, .int x5] : List Value).toArray) below meth c H locs 0 0 (MQ below (va_Qi (fun r u => r = Z.1 ∧ u = Z.2) (Wd D ad cy A g q) A) ([.ref (ad a0), .int x1, .int x2, .int x3, .int x4, .int x5]).toArray s 0 0 A) (F0 m 23 ls []) := by
      intro n2
      induction n2 with
      | zero => intro M2 y2_0 y2_1 y2_2 y2_3 y2_4 y2_5 y2_6 ky2_0 H locs h; exact absurd h (by simp [f_X13_feed_L23])
      | succ n2 ih2 =>
        intro M2 y2_0 y2_1 y2_2 y2_3 y2_4 y2_5 y2_6 ky2_0 H locs h hP hD hT hS ls hl
        rw [f_X13_feed_L23] at h
        refine lv_iload hx hb dX13_feed_23 (lv_at hl 6 rfl) ?_
        refine lv_bipush (v := 20) hx hb dX13_feed_25 rfl ?_
        refine lv_icmp_ge (tgt := 117) hx hb dX13_feed_27 rfl (fun c3 => ?_) (fun c3 => ?_)
        · replace h := ite_t c3 h
          refine lv_aload_n hx hb dX13_feed_117 rfl (lv_at hl 0 rfl) ?_
          refine r_get (T := TX13) (v := .int (gI M2 y2_0 6)) hx hb hts in13 hown hK hP ky2_0 (by decide) rfl 6 (by decide) (hts (.fieldLink RX13 424 "StoneWalkModel" "taped" "I") (List.mem_of_getElem? (i := 2) (by decide +kernel))) rfl (t := 0) rfl rfl dX13_feed_118 ?_
          have hZ := Option.some.inj h
          exact r_iret hx hb hr hlocks hP hK hD hT hG hS (congrArg Prod.fst hZ) (congrArg Prod.snd hZ) dX13_feed_121
        · replace h := ite_f c3 h
          refine lv_iload hx hb dX13_feed_30 (lv_at hl 6 rfl) ?_
          refine lv_iconst (v := 4) hx hb dX13_feed_32 rfl ?_
          refine lv_icmp_ge (tgt := 40) hx hb dX13_feed_33 rfl (fun c4 => ?_) (fun c4 => ?_)
          · replace h := ite_t c4 h
            refine lv_iload hx hb dX13_feed_40 (lv_at hl 6 rfl) ?_
            refine lv_bipush (v := 8) hx hb dX13_feed_42 rfl ?_
            refine lv_icmp_ge (tgt := 51) hx hb dX13_feed_44 rfl (fun c5 => ?_) (fun c5 => ?_)
            · replace h := ite_t c5 h
              refine lv_iload hx hb dX13_feed_51 (lv_at hl 6 rfl) ?_
              refine lv_bipush (v := 12) hx hb dX13_feed_53 rfl ?_
              refine lv_icmp_ge (tgt := 62) hx hb dX13_feed_55 rfl (fun c6 => ?_) (fun c6 => ?_)
              · replace h := ite_t c6 h
                refine lv_iload hx hb dX13_feed_62 (lv_at hl 6 rfl) ?_
                refine lv_bipush (v := 16) hx hb dX13_feed_64 rfl ?_
                refine lv_icmp_ge (tgt := 74) hx hb dX13_feed_66 rfl (fun c7 => ?_) (fun c7 => ?_)
                · replace h := ite_t c7 h
                  refine lv_iload hx hb dX13_feed_74 (lv_at hl 5 rfl) ?_
                  refine lv_istore (lv' := [(7, .int y2_5), (0, .ref (ad y2_0)), (1, .int y2_1), (2, .int y2_2), (3, .int y2_3), (4, .int y2_4), (5, .int y2_5), (6, .int y2_6)]) hx hb dX13_feed_76 hl (by decide) rfl (fun ls hl => ?_)
                  refine lv_aload_n hx hb dX13_feed_78 rfl (lv_at hl 1 rfl) ?_
                  rcases hN8 : gR M2 y2_0 5 with _ | b8
                  · exact absurd (oc_n hN8 h) (by simp)
                  replace h := oc_s hN8 h
                  have kb8 := hT.f ky2_0 (k := 5) (t := 14) (n := 900) rfl hN8
                  refine r_get (T := TX13) (v := .ref (ad b8)) hx hb hts in13 hown hK hP ky2_0 (by decide) rfl 5 (by decide) (hts (.fieldLink RX13 13 "StoneWalkModel" "tape" "[B") (List.mem_of_getElem? (i := 3) (by decide +kernel))) rfl (t := 2) rfl (by show va_rf _ = _; rw [hN8]; rfl) dX13_feed_79 ?_
                  refine lv_aload_n hx hb dX13_feed_82 rfl (lv_at hl 1 rfl) ?_
                  refine r_get (T := TX13) (v := .int (gI M2 y2_0 6)) hx hb hts in13 hown hK hP ky2_0 (by decide) rfl 6 (by decide) (hts (.fieldLink RX13 424 "StoneWalkModel" "taped" "I") (List.mem_of_getElem? (i := 2) (by decide +kernel))) rfl (t := 0) rfl rfl dX13_feed_83 ?_
                  refine lv_iload hx hb dX13_feed_86 (lv_at hl 0 rfl) ?_
                  refine lv_bipush (v := 24) hx hb dX13_feed_88 rfl ?_
                  refine lv_bipush (v := 8) hx hb dX13_feed_90 rfl ?_
                  refine lv_iload hx hb dX13_feed_92 (lv_at hl 7 rfl) ?_
                  refine lv_iconst (v := 4) hx hb dX13_feed_94 rfl ?_
                  refine lv_irem hx hb dX13_feed_95 (by decide) ?_
                  refine lv_imul hx hb dX13_feed_96 ?_
                  refine lv_isub hx hb dX13_feed_97 ?_
                  refine lv_ishr hx hb dX13_feed_98 ?_
                  refine lv_i2b hx hb dX13_feed_99 rfl ?_
                  obtain ⟨hn9, h⟩ := chk_some h
                  refine r_bast hx hb hK hP hD hT hS kb8 hn9 dX13_feed_100 (fun H locs hP hD hT hS => ?_)
                  refine lv_aload_n hx hb dX13_feed_101 rfl (lv_at hl 1 rfl) ?_
                  refine lv_dup hx hb dX13_feed_102 rfl ?_
                  refine r_get (T := TX13) (v := .int (gI (pI M2 b8 (ix (gI M2 y2_0 6)) (vp_nar .byte ((y2_5 >>> ((24 - (8 * (y2_6 - y2_6 / 4 * 4))) &&& 31)).toInt8.toInt32))) y2_0 6)) hx hb hts in13 hown hK hP ky2_0 (by decide) rfl 6 (by decide) (hts (.fieldLink RX13 424 "StoneWalkModel" "taped" "I") (List.mem_of_getElem? (i := 2) (by decide +kernel))) rfl (t := 0) rfl rfl dX13_feed_103 ?_
                  refine lv_iconst (v := 1) hx hb dX13_feed_106 rfl ?_
                  refine lv_iadd hx hb dX13_feed_107 ?_
                  refine r_putI (T := TX13) (ty := .int) (v := (gI (pI M2 b8 (ix (gI M2 y2_0 6)) (vp_nar .byte ((y2_5 >>> ((24 - (8 * (y2_6 - y2_6 / 4 * 4))) &&& 31)).toInt8.toInt32))) y2_0 6) + 1) hx hb hts in13 tyX13 tyX13_ok nmX13 hown hK hP hD hT hS ky2_0 (by decide) rfl 6 (by decide) (hts (.fieldLink RX13 424 "StoneWalkModel" "taped" "I") (List.mem_of_getElem? (i := 2) (by decide +kernel))) rfl rfl (tyX13_ok 6 (by decide)) rfl rfl rfl dX13_feed_108 (fun H locs hP hD hT hS => ?_)
                  refine lv_iinc (v := y2_6 + 1) (lv' := [(6, .int (y2_6 + 1)), (7, .int y2_5), (0, .ref (ad y2_0)), (1, .int y2_1), (2, .int y2_2), (3, .int y2_3), (4, .int y2_4), (5, .int y2_5)]) hx hb dX13_feed_111 hl (k := 7) rfl rfl (by decide) rfl (fun ls hl => ?_)
                  refine lv_goto (tgt := 23) hx hb dX13_feed_114 rfl ?_
                  exact ih2 (pI (pI M2 b8 (ix (gI M2 y2_0 6)) (vp_nar .byte ((y2_5 >>> ((24 - (8 * (y2_6 - y2_6 / 4 * 4))) &&& 31)).toInt8.toInt32))) y2_0 6 ((gI (pI M2 b8 (ix (gI M2 y2_0 6)) (vp_nar .byte ((y2_5 >>> ((24 - (8 * (y2_6 - y2_6 / 4 * 4))) &&& 31)).toInt8.toInt32))) y2_0 6) + 1)) y2_0 y2_1 y2_2 y2_3 y2_4 y2_5 (y2_6 + 1) ky2_0 _ _ h hP hD hT hS ls (lv_sub hl [2, 3, 4, 5, 6, 7, 0] rfl)
                · replace h := ite_f c7 h
                  refine lv_iload hx hb dX13_feed_69 (lv_at hl 4 rfl) ?_
                  refine lv_goto (tgt := 76) hx hb dX13_feed_71 rfl ?_
                  refine lv_istore (lv' := [(7, .int y2_4), (0, .ref (ad y2_0)), (1, .int y2_1), (2, .int y2_2), (3, .int y2_3), (4, .int y2_4), (5, .int y2_5), (6, .int y2_6)]) hx hb dX13_feed_76 hl (by decide) rfl (fun ls hl => ?_)
                  refine lv_aload_n hx hb dX13_feed_78 rfl (lv_at hl 1 rfl) ?_
                  rcases hN10 : gR M2 y2_0 5 with _ | b10
                  · exact absurd (oc_n hN10 h) (by simp)
                  replace h := oc_s hN10 h
                  have kb10 := hT.f ky2_0 (k := 5) (t := 14) (n := 900) rfl hN10
                  refine r_get (T := TX13) (v := .ref (ad b10)) hx hb hts in13 hown hK hP ky2_0 (by decide) rfl 5 (by decide) (hts (.fieldLink RX13 13 "StoneWalkModel" "tape" "[B") (List.mem_of_getElem? (i := 3) (by decide +kernel))) rfl (t := 2) rfl (by show va_rf _ = _; rw [hN10]; rfl) dX13_feed_79 ?_
                  refine lv_aload_n hx hb dX13_feed_82 rfl (lv_at hl 1 rfl) ?_
                  refine r_get (T := TX13) (v := .int (gI M2 y2_0 6)) hx hb hts in13 hown hK hP ky2_0 (by decide) rfl 6 (by decide) (hts (.fieldLink RX13 424 "StoneWalkModel" "taped" "I") (List.mem_of_getElem? (i := 2) (by decide +kernel))) rfl (t := 0) rfl rfl dX13_feed_83 ?_
                  refine lv_iload hx hb dX13_feed_86 (lv_at hl 0 rfl) ?_
                  refine lv_bipush (v := 24) hx hb dX13_feed_88 rfl ?_
                  refine lv_bipush (v := 8) hx hb dX13_feed_90 rfl ?_
                  refine lv_iload hx hb dX13_feed_92 (lv_at hl 7 rfl) ?_
                  refine lv_iconst (v := 4) hx hb dX13_feed_94 rfl ?_
                  refine lv_irem hx hb dX13_feed_95 (by decide) ?_
                  refine lv_imul hx hb dX13_feed_96 ?_
                  refine lv_isub hx hb dX13_feed_97 ?_
                  refine lv_ishr hx hb dX13_feed_98 ?_
                  refine lv_i2b hx hb dX13_feed_99 rfl ?_
                  obtain ⟨hn11, h⟩ := chk_some h
                  refine r_bast hx hb hK hP hD hT hS kb10 hn11 dX13_feed_100 (fun H locs hP hD hT hS => ?_)
                  refine lv_aload_n hx hb dX13_feed_101 rfl (lv_at hl 1 rfl) ?_
                  refine lv_dup hx hb dX13_feed_102 rfl ?_
                  refine r_get (T := TX13) (v := .int (gI (pI M2 b10 (ix (gI M2 y2_0 6)) (vp_nar .byte ((y2_4 >>> ((24 - (8 * (y2_6 - y2_6 / 4 * 4))) &&& 31)).toInt8.toInt32))) y2_0 6)) hx hb hts in13 hown hK hP ky2_0 (by decide) rfl 6 (by decide) (hts (.fieldLink RX13 424 "StoneWalkModel" "taped" "I") (List.mem_of_getElem? (i := 2) (by decide +kernel))) rfl (t := 0) rfl rfl dX13_feed_103 ?_
                  refine lv_iconst (v := 1) hx hb dX13_feed_106 rfl ?_
                  refine lv_iadd hx hb dX13_feed_107 ?_
                  refine r_putI (T := TX13) (ty := .int) (v := (gI (pI M2 b10 (ix (gI M2 y2_0 6)) (vp_nar .byte ((y2_4 >>> ((24 - (8 * (y2_6 - y2_6 / 4 * 4))) &&& 31)).toInt8.toInt32))) y2_0 6) + 1) hx hb hts in13 tyX13 tyX13_ok nmX13 hown hK hP hD hT hS ky2_0 (by decide) rfl 6 (by decide) (hts (.fieldLink RX13 424 "StoneWalkModel" "taped" "I") (List.mem_of_getElem? (i := 2) (by decide +kernel))) rfl rfl (tyX13_ok 6 (by decide)) rfl rfl rfl dX13_feed_108 (fun H locs hP hD hT hS => ?_)
                  refine lv_iinc (v := y2_6 + 1) (lv' := [(6, .int (y2_6 + 1)), (7, .int y2_4), (0, .ref (ad y2_0)), (1, .int y2_1), (2, .int y2_2), (3, .int y2_3), (4, .int y2_4), (5, .int y2_5)]) hx hb dX13_feed_111 hl (k := 7) rfl rfl (by decide) rfl (fun ls hl => ?_)
                  refine lv_goto (tgt := 23) hx hb dX13_feed_114 rfl ?_
                  exact ih2 (pI (pI M2 b10 (ix (gI M2 y2_0 6)) (vp_nar .byte ((y2_4 >>> ((24 - (8 * (y2_6 - y2_6 / 4 * 4))) &&& 31)).toInt8.toInt32))) y2_0 6 ((gI (pI M2 b10 (ix (gI M2 y2_0 6)) (vp_nar .byte ((y2_4 >>> ((24 - (8 * (y2_6 - y2_6 / 4 * 4))) &&& 31)).toInt8.toInt32))) y2_0 6) + 1)) y2_0 y2_1 y2_2 y2_3 y2_4 y2_5 (y2_6 + 1) ky2_0 _ _ h hP hD hT hS ls (lv_sub hl [2, 3, 4, 5, 6, 7, 0] rfl)
              · replace h := ite_f c6 h
                refine lv_iload_n hx hb dX13_feed_58 rfl (lv_at hl 3 rfl) ?_
                refine lv_goto (tgt := 76) hx hb dX13_feed_59 rfl ?_
                refine lv_istore (lv' := [(7, .int y2_3), (0, .ref (ad y2_0)), (1, .int y2_1), (2, .int y2_2), (3, .int y2_3), (4, .int y2_4), (5, .int y2_5), (6, .int y2_6)]) hx hb dX13_feed_76 hl (by decide) rfl (fun ls hl => ?_)
                refine lv_aload_n hx hb dX13_feed_78 rfl (lv_at hl 1 rfl) ?_
                rcases hN12 : gR M2 y2_0 5 with _ | b12
                · exact absurd (oc_n hN12 h) (by simp)
                replace h := oc_s hN12 h
                have kb12 := hT.f ky2_0 (k := 5) (t := 14) (n := 900) rfl hN12
                refine r_get (T := TX13) (v := .ref (ad b12)) hx hb hts in13 hown hK hP ky2_0 (by decide) rfl 5 (by decide) (hts (.fieldLink RX13 13 "StoneWalkModel" "tape" "[B") (List.mem_of_getElem? (i := 3) (by decide +kernel))) rfl (t := 2) rfl (by show va_rf _ = _; rw [hN12]; rfl) dX13_feed_79 ?_
                refine lv_aload_n hx hb dX13_feed_82 rfl (lv_at hl 1 rfl) ?_
                refine r_get (T := TX13) (v := .int (gI M2 y2_0 6)) hx hb hts in13 hown hK hP ky2_0 (by decide) rfl 6 (by decide) (hts (.fieldLink RX13 424 "StoneWalkModel" "taped" "I") (List.mem_of_getElem? (i := 2) (by decide +kernel))) rfl (t := 0) rfl rfl dX13_feed_83 ?_
                refine lv_iload hx hb dX13_feed_86 (lv_at hl 0 rfl) ?_
                refine lv_bipush (v := 24) hx hb dX13_feed_88 rfl ?_
                refine lv_bipush (v := 8) hx hb dX13_feed_90 rfl ?_
                refine lv_iload hx hb dX13_feed_92 (lv_at hl 7 rfl) ?_
                refine lv_iconst (v := 4) hx hb dX13_feed_94 rfl ?_
                refine lv_irem hx hb dX13_feed_95 (by decide) ?_
                refine lv_imul hx hb dX13_feed_96 ?_
                refine lv_isub hx hb dX13_feed_97 ?_
                refine lv_ishr hx hb dX13_feed_98 ?_
                refine lv_i2b hx hb dX13_feed_99 rfl ?_
                obtain ⟨hn13, h⟩ := chk_some h
                refine r_bast hx hb hK hP hD hT hS kb12 hn13 dX13_feed_100 (fun H locs hP hD hT hS => ?_)
                refine lv_aload_n hx hb dX13_feed_101 rfl (lv_at hl 1 rfl) ?_
                refine lv_dup hx hb dX13_feed_102 rfl ?_
                refine r_get (T := TX13) (v := .int (gI (pI M2 b12 (ix (gI M2 y2_0 6)) (vp_nar .byte ((y2_3 >>> ((24 - (8 * (y2_6 - y2_6 / 4 * 4))) &&& 31)).toInt8.toInt32))) y2_0 6)) hx hb hts in13 hown hK hP ky2_0 (by decide) rfl 6 (by decide) (hts (.fieldLink RX13 424 "StoneWalkModel" "taped" "I") (List.mem_of_getElem? (i := 2) (by decide +kernel))) rfl (t := 0) rfl rfl dX13_feed_103 ?_
                refine lv_iconst (v := 1) hx hb dX13_feed_106 rfl ?_
                refine lv_iadd hx hb dX13_feed_107 ?_
                refine r_putI (T := TX13) (ty := .int) (v := (gI (pI M2 b12 (ix (gI M2 y2_0 6)) (vp_nar .byte ((y2_3 >>> ((24 - (8 * (y2_6 - y2_6 / 4 * 4))) &&& 31)).toInt8.toInt32))) y2_0 6) + 1) hx hb hts in13 tyX13 tyX13_ok nmX13 hown hK hP hD hT hS ky2_0 (by decide) rfl 6 (by decide) (hts (.fieldLink RX13 424 "StoneWalkModel" "taped" "I") (List.mem_of_getElem? (i := 2) (by decide +kernel))) rfl rfl (tyX13_ok 6 (by decide)) rfl rfl rfl dX13_feed_108 (fun H locs hP hD hT hS => ?_)
                refine lv_iinc (v := y2_6 + 1) (lv' := [(6, .int (y2_6 + 1)), (7, .int y2_3), (0, .ref (ad y2_0)), (1, .int y2_1), (2, .int y2_2), (3, .int y2_3), (4, .int y2_4), (5, .int y2_5)]) hx hb dX13_feed_111 hl (k := 7) rfl rfl (by decide) rfl (fun ls hl => ?_)
                refine lv_goto (tgt := 23) hx hb dX13_feed_114 rfl ?_
                exact ih2 (pI (pI M2 b12 (ix (gI M2 y2_0 6)) (vp_nar .byte ((y2_3 >>> ((24 - (8 * (y2_6 - y2_6 / 4 * 4))) &&& 31)).toInt8.toInt32))) y2_0 6 ((gI (pI M2 b12 (ix (gI M2 y2_0 6)) (vp_nar .byte ((y2_3 >>> ((24 - (8 * (y2_6 - y2_6 / 4 * 4))) &&& 31)).toInt8.toInt32))) y2_0 6) + 1)) y2_0 y2_1 y2_2 y2_3 y2_4 y2_5 (y2_6 + 1) ky2_0 _ _ h hP hD hT hS ls (lv_sub hl [2, 3, 4, 5, 6, 7, 0] rfl)
            · replace h := ite_f c5 h
              refine lv_iload_n hx hb dX13_feed_47 rfl (lv_at hl 2 rfl) ?_
              refine lv_goto (tgt := 76) hx hb dX13_feed_48 rfl ?_
              refine lv_istore (lv' := [(7, .int y2_2), (0, .ref (ad y2_0)), (1, .int y2_1), (2, .int y2_2), (3, .int y2_3), (4, .int y2_4), (5, .int y2_5), (6, .int y2_6)]) hx hb dX13_feed_76 hl (by decide) rfl (fun ls hl => ?_)
              refine lv_aload_n hx hb dX13_feed_78 rfl (lv_at hl 1 rfl) ?_
              rcases hN14 : gR M2 y2_0 5 with _ | b14
              · exact absurd (oc_n hN14 h) (by simp)
              replace h := oc_s hN14 h
              have kb14 := hT.f ky2_0 (k := 5) (t := 14) (n := 900) rfl hN14
              refine r_get (T := TX13) (v := .ref (ad b14)) hx hb hts in13 hown hK hP ky2_0 (by decide) rfl 5 (by decide) (hts (.fieldLink RX13 13 "StoneWalkModel" "tape" "[B") (List.mem_of_getElem? (i := 3) (by decide +kernel))) rfl (t := 2) rfl (by show va_rf _ = _; rw [hN14]; rfl) dX13_feed_79 ?_
              refine lv_aload_n hx hb dX13_feed_82 rfl (lv_at hl 1 rfl) ?_
              refine r_get (T := TX13) (v := .int (gI M2 y2_0 6)) hx hb hts in13 hown hK hP ky2_0 (by decide) rfl 6 (by decide) (hts (.fieldLink RX13 424 "StoneWalkModel" "taped" "I") (List.mem_of_getElem? (i := 2) (by decide +kernel))) rfl (t := 0) rfl rfl dX13_feed_83 ?_
              refine lv_iload hx hb dX13_feed_86 (lv_at hl 0 rfl) ?_
              refine lv_bipush (v := 24) hx hb dX13_feed_88 rfl ?_
              refine lv_bipush (v := 8) hx hb dX13_feed_90 rfl ?_
              refine lv_iload hx hb dX13_feed_92 (lv_at hl 7 rfl) ?_
              refine lv_iconst (v := 4) hx hb dX13_feed_94 rfl ?_
              refine lv_irem hx hb dX13_feed_95 (by decide) ?_
              refine lv_imul hx hb dX13_feed_96 ?_
              refine lv_isub hx hb dX13_feed_97 ?_
              refine lv_ishr hx hb dX13_feed_98 ?_
              refine lv_i2b hx hb dX13_feed_99 rfl ?_
              obtain ⟨hn15, h⟩ := chk_some h
              refine r_bast hx hb hK hP hD hT hS kb14 hn15 dX13_feed_100 (fun H locs hP hD hT hS => ?_)
              refine lv_aload_n hx hb dX13_feed_101 rfl (lv_at hl 1 rfl) ?_
              refine lv_dup hx hb dX13_feed_102 rfl ?_
              refine r_get (T := TX13) (v := .int (gI (pI M2 b14 (ix (gI M2 y2_0 6)) (vp_nar .byte ((y2_2 >>> ((24 - (8 * (y2_6 - y2_6 / 4 * 4))) &&& 31)).toInt8.toInt32))) y2_0 6)) hx hb hts in13 hown hK hP ky2_0 (by decide) rfl 6 (by decide) (hts (.fieldLink RX13 424 "StoneWalkModel" "taped" "I") (List.mem_of_getElem? (i := 2) (by decide +kernel))) rfl (t := 0) rfl rfl dX13_feed_103 ?_
              refine lv_iconst (v := 1) hx hb dX13_feed_106 rfl ?_
              refine lv_iadd hx hb dX13_feed_107 ?_
              refine r_putI (T := TX13) (ty := .int) (v := (gI (pI M2 b14 (ix (gI M2 y2_0 6)) (vp_nar .byte ((y2_2 >>> ((24 - (8 * (y2_6 - y2_6 / 4 * 4))) &&& 31)).toInt8.toInt32))) y2_0 6) + 1) hx hb hts in13 tyX13 tyX13_ok nmX13 hown hK hP hD hT hS ky2_0 (by decide) rfl 6 (by decide) (hts (.fieldLink RX13 424 "StoneWalkModel" "taped" "I") (List.mem_of_getElem? (i := 2) (by decide +kernel))) rfl rfl (tyX13_ok 6 (by decide)) rfl rfl rfl dX13_feed_108 (fun H locs hP hD hT hS => ?_)
              refine lv_iinc (v := y2_6 + 1) (lv' := [(6, .int (y2_6 + 1)), (7, .int y2_2), (0, .ref (ad y2_0)), (1, .int y2_1), (2, .int y2_2), (3, .int y2_3), (4, .int y2_4), (5, .int y2_5)]) hx hb dX13_feed_111 hl (k := 7) rfl rfl (by decide) rfl (fun ls hl => ?_)
              refine lv_goto (tgt := 23) hx hb dX13_feed_114 rfl ?_
              exact ih2 (pI (pI M2 b14 (ix (gI M2 y2_0 6)) (vp_nar .byte ((y2_2 >>> ((24 - (8 * (y2_6 - y2_6 / 4 * 4))) &&& 31)).toInt8.toInt32))) y2_0 6 ((gI (pI M2 b14 (ix (gI M2 y2_0 6)) (vp_nar .byte ((y2_2 >>> ((24 - (8 * (y2_6 - y2_6 / 4 * 4))) &&& 31)).toInt8.toInt32))) y2_0 6) + 1)) y2_0 y2_1 y2_2 y2_3 y2_4 y2_5 (y2_6 + 1) ky2_0 _ _ h hP hD hT hS ls (lv_sub hl [2, 3, 4, 5, 6, 7, 0] rfl)
          · replace h := ite_f c4 h
            refine lv_iload_n hx hb dX13_feed_36 rfl (lv_at hl 1 rfl) ?_
            refine lv_goto (tgt := 76) hx hb dX13_feed_37 rfl ?_
            refine lv_istore (lv' := [(7, .int y2_1), (0, .ref (ad y2_0)), (1, .int y2_1), (2, .int y2_2), (3, .int y2_3), (4, .int y2_4), (5, .int y2_5), (6, .int y2_6)]) hx hb dX13_feed_76 hl (by decide) rfl (fun ls hl => ?_)
            refine lv_aload_n hx hb dX13_feed_78 rfl (lv_at hl 1 rfl) ?_
            rcases hN16 : gR M2 y2_0 5 with _ | b16
            · exact absurd (oc_n hN16 h) (by simp)
            replace h := oc_s hN16 h
            have kb16 := hT.f ky2_0 (k := 5) (t := 14) (n := 900) rfl hN16
            refine r_get (T := TX13) (v := .ref (ad b16)) hx hb hts in13 hown hK hP ky2_0 (by decide) rfl 5 (by decide) (hts (.fieldLink RX13 13 "StoneWalkModel" "tape" "[B") (List.mem_of_getElem? (i := 3) (by decide +kernel))) rfl (t := 2) rfl (by show va_rf _ = _; rw [hN16]; rfl) dX13_feed_79 ?_
            refine lv_aload_n hx hb dX13_feed_82 rfl (lv_at hl 1 rfl) ?_
            refine r_get (T := TX13) (v := .int (gI M2 y2_0 6)) hx hb hts in13 hown hK hP ky2_0 (by decide) rfl 6 (by decide) (hts (.fieldLink RX13 424 "StoneWalkModel" "taped" "I") (List.mem_of_getElem? (i := 2) (by decide +kernel))) rfl (t := 0) rfl rfl dX13_feed_83 ?_
            refine lv_iload hx hb dX13_feed_86 (lv_at hl 0 rfl) ?_
            refine lv_bipush (v := 24) hx hb dX13_feed_88 rfl ?_
            refine lv_bipush (v := 8) hx hb dX13_feed_90 rfl ?_
            refine lv_iload hx hb dX13_feed_92 (lv_at hl 7 rfl) ?_
            refine lv_iconst (v := 4) hx hb dX13_feed_94 rfl ?_
            refine lv_irem hx hb dX13_feed_95 (by decide) ?_
            refine lv_imul hx hb dX13_feed_96 ?_
            refine lv_isub hx hb dX13_feed_97 ?_
            refine lv_ishr hx hb dX13_feed_98 ?_
            refine lv_i2b hx hb dX13_feed_99 rfl ?_
            obtain ⟨hn17, h⟩ := chk_some h
            refine r_bast hx hb hK hP hD hT hS kb16 hn17 dX13_feed_100 (fun H locs hP hD hT hS => ?_)
            refine lv_aload_n hx hb dX13_feed_101 rfl (lv_at hl 1 rfl) ?_
            refine lv_dup hx hb dX13_feed_102 rfl ?_
            refine r_get (T := TX13) (v := .int (gI (pI M2 b16 (ix (gI M2 y2_0 6)) (vp_nar .byte ((y2_1 >>> ((24 - (8 * (y2_6 - y2_6 / 4 * 4))) &&& 31)).toInt8.toInt32))) y2_0 6)) hx hb hts in13 hown hK hP ky2_0 (by decide) rfl 6 (by decide) (hts (.fieldLink RX13 424 "StoneWalkModel" "taped" "I") (List.mem_of_getElem? (i := 2) (by decide +kernel))) rfl (t := 0) rfl rfl dX13_feed_103 ?_
            refine lv_iconst (v := 1) hx hb dX13_feed_106 rfl ?_
            refine lv_iadd hx hb dX13_feed_107 ?_
            refine r_putI (T := TX13) (ty := .int) (v := (gI (pI M2 b16 (ix (gI M2 y2_0 6)) (vp_nar .byte ((y2_1 >>> ((24 - (8 * (y2_6 - y2_6 / 4 * 4))) &&& 31)).toInt8.toInt32))) y2_0 6) + 1) hx hb hts in13 tyX13 tyX13_ok nmX13 hown hK hP hD hT hS ky2_0 (by decide) rfl 6 (by decide) (hts (.fieldLink RX13 424 "StoneWalkModel" "taped" "I") (List.mem_of_getElem? (i := 2) (by decide +kernel))) rfl rfl (tyX13_ok 6 (by decide)) rfl rfl rfl dX13_feed_108 (fun H locs hP hD hT hS => ?_)
            refine lv_iinc (v := y2_6 + 1) (lv' := [(6, .int (y2_6 + 1)), (7, .int y2_1), (0, .ref (ad y2_0)), (1, .int y2_1), (2, .int y2_2), (3, .int y2_3), (4, .int y2_4), (5, .int y2_5)]) hx hb dX13_feed_111 hl (k := 7) rfl rfl (by decide) rfl (fun ls hl => ?_)
            refine lv_goto (tgt := 23) hx hb dX13_feed_114 rfl ?_
            exact ih2 (pI (pI M2 b16 (ix (gI M2 y2_0 6)) (vp_nar .byte ((y2_1 >>> ((24 - (8 * (y2_6 - y2_6 / 4 * 4))) &&& 31)).toInt8.toInt32))) y2_0 6 ((gI (pI M2 b16 (ix (gI M2 y2_0 6)) (vp_nar .byte ((y2_1 >>> ((24 - (8 * (y2_6 - y2_6 / 4 * 4))) &&& 31)).toInt8.toInt32))) y2_0 6) + 1)) y2_0 y2_1 y2_2 y2_3 y2_4 y2_5 (y2_6 + 1) ky2_0 _ _ h hP hD hT hS ls (lv_sub hl [2, 3, 4, 5, 6, 7, 0] rfl)
    exact L2 FU (pI M a0 0 0) a0 x1 x2 x3 x4 x5 0 k0 _ _ h hP hD hT hS ls (lv_sub hl [1, 2, 3, 4, 5, 6, 0] rfl)
  · replace h := ite_f c1 h
    refine lv_iconst (v := (-1)) hx hb dX13_feed_18 rfl ?_
    have hZ := Option.some.inj h
    exact r_iret hx hb hr hlocks hP hK hD hT hG hS (congrArg Prod.fst hZ) (congrArg Prod.snd hZ) dX13_feed_19
set_option maxHeartbeats 4000000 in
set_option maxRecDepth 100000 in
theorem c_X13_fault {l : Launch} {D : va_G} {ad : Nat → Nat} {cy : Nat → ClassId} {A : Nat → Prop} {g : CG} {q : SE} (M : MM) (a0 : Nat) (k0 : ok g a0 13 0) {Z : (Int32 × MM)} (h : f_X13_fault M a0 = some Z) : Met l yX13_fault wsX13_fault ({ frames := 0, cells := 0, slots := 0, locals := 0 }) (va_Pc [.ref (ad a0)] (Wd D ad cy A g q M)) (va_Qi (fun r u => r = Z.1 ∧ u = Z.2) (Wd D ad cy A g q) A) 0 0 A := by
  refine Met.ofW (cc := cX13_fault) (maxL := 1) (ret := (some .int)) (by decide) rfl ?_
  intro p e s m args below meth c s₁ B hml hv
  obtain ⟨rfl, hP, hK, hD, hT, hG⟩ := hv
  have hx := B.exec
  have hb := B.bytes
  have hr := B.returns
  have hts := atoms_spec (ws := wsX13_fault) B.pre
  have hown : s.vm.findClass RX13 = some m.cls := findClass_of_methodNamed B.named
  have hlocks := B.notSynchronized
  have in13 : ∀ w ∈ u_ws RX13 TX13 29, w ∈ wsX13_fault := fun w h => List.mem_cons_of_mem _ (List.mem_append_right _ h)
  have hS : va_S A s.heap s.heap [] := va_S.rf
  have hl := lv_entry ([.ref (ad a0)]) (n := 1) (Nat.le_of_ble_eq_true rfl)
  rw [lg_entry_eq]
  generalize (lg_sl ([.ref (ad a0)]) ++ List.replicate (1 - (lg_sl ([.ref (ad a0)])).length) Slot.unset).toArray = ls at hl ⊢
  have hl : lv_has ls 1 [(0, .ref (ad a0))] := hl
  unfold f_X13_fault at h
  refine lv_aload_n hx hb dX13_fault_0 rfl (lv_at hl 0 rfl) ?_
  refine lv_iconst (v := 0) hx hb dX13_fault_1 rfl ?_
  refine r_putI (T := TX13) (ty := .int) (v := 0) hx hb hts in13 tyX13 tyX13_ok nmX13 hown hK hP hD hT hS k0 (by decide) rfl 0 (by decide) (hts (.fieldLink RX13 30 "StoneWalkModel" "thrown" "I") (List.mem_of_getElem? (i := 1) (by decide +kernel))) rfl rfl (tyX13_ok 0 (by decide)) rfl rfl rfl dX13_fault_2 (fun H locs hP hD hT hS => ?_)
  refine lv_aload_n hx hb dX13_fault_5 rfl (lv_at hl 0 rfl) ?_
  refine r_get (T := TX13) (v := .int (gI (pI M a0 0 0) a0 13)) hx hb hts in13 hown hK hP k0 (by decide) rfl 13 (by decide) (hts (.fieldLink RX13 87 "StoneWalkModel" "fault" "I") (List.mem_of_getElem? (i := 2) (by decide +kernel))) rfl (t := 0) rfl rfl dX13_fault_6 ?_
  have hZ := Option.some.inj h
  exact r_iret hx hb hr hlocks hP hK hD hT hG hS (congrArg Prod.fst hZ) (congrArg Prod.snd hZ) dX13_fault_9
set_option maxHeartbeats 4000000 in
set_option maxRecDepth 100000 in
theorem c_X13_where {l : Launch} {D : va_G} {ad : Nat → Nat} {cy : Nat → ClassId} {A : Nat → Prop} {g : CG} {q : SE} (M : MM) (a0 : Nat) (k0 : ok g a0 13 0) {Z : (Int32 × MM)} (h : f_X13_where M a0 = some Z) : Met l yX13_where wsX13_where ({ frames := 0, cells := 0, slots := 0, locals := 0 }) (va_Pc [.ref (ad a0)] (Wd D ad cy A g q M)) (va_Qi (fun r u => r = Z.1 ∧ u = Z.2) (Wd D ad cy A g q) A) 0 0 A := by
  refine Met.ofW (cc := cX13_where) (maxL := 1) (ret := (some .int)) (by decide) rfl ?_
  intro p e s m args below meth c s₁ B hml hv
  obtain ⟨rfl, hP, hK, hD, hT, hG⟩ := hv
  have hx := B.exec
  have hb := B.bytes
  have hr := B.returns
  have hts := atoms_spec (ws := wsX13_where) B.pre
  have hown : s.vm.findClass RX13 = some m.cls := findClass_of_methodNamed B.named
  have hlocks := B.notSynchronized
  have in13 : ∀ w ∈ u_ws RX13 TX13 29, w ∈ wsX13_where := fun w h => List.mem_cons_of_mem _ (List.mem_append_right _ h)
  have hS : va_S A s.heap s.heap [] := va_S.rf
  have hl := lv_entry ([.ref (ad a0)]) (n := 1) (Nat.le_of_ble_eq_true rfl)
  rw [lg_entry_eq]
  generalize (lg_sl ([.ref (ad a0)]) ++ List.replicate (1 - (lg_sl ([.ref (ad a0)])).length) Slot.unset).toArray = ls at hl ⊢
  have hl : lv_has ls 1 [(0, .ref (ad a0))] := hl
  unfold f_X13_where at h
  refine lv_aload_n hx hb dX13_where_0 rfl (lv_at hl 0 rfl) ?_
  refine lv_iconst (v := 0) hx hb dX13_where_1 rfl ?_
  refine r_putI (T := TX13) (ty := .int) (v := 0) hx hb hts in13 tyX13 tyX13_ok nmX13 hown hK hP hD hT hS k0 (by decide) rfl 0 (by decide) (hts (.fieldLink RX13 30 "StoneWalkModel" "thrown" "I") (List.mem_of_getElem? (i := 1) (by decide +kernel))) rfl rfl (tyX13_ok 0 (by decide)) rfl rfl rfl dX13_where_2 (fun H locs hP hD hT hS => ?_)
  refine lv_aload_n hx hb dX13_where_5 rfl (lv_at hl 0 rfl) ?_
  refine r_get (T := TX13) (v := .int (gI (pI M a0 0 0) a0 2)) hx hb hts in13 hown hK hP k0 (by decide) rfl 2 (by decide) (hts (.fieldLink RX13 9 "StoneWalkModel" "where" "I") (List.mem_of_getElem? (i := 2) (by decide +kernel))) rfl (t := 0) rfl rfl dX13_where_6 ?_
  have hZ := Option.some.inj h
  exact r_iret hx hb hr hlocks hP hK hD hT hG hS (congrArg Prod.fst hZ) (congrArg Prod.snd hZ) dX13_where_9
set_option maxHeartbeats 4000000 in
set_option maxRecDepth 100000 in
theorem c_X13_isWay {l : Launch} {D : va_G} {ad : Nat → Nat} {cy : Nat → ClassId} {A : Nat → Prop} {g : CG} {q : SE} (M : MM) (a0 : Nat) (x1 : Int32) (k0 : ok g a0 13 0) {Z : Int32} (h : f_X13_isWay M a0 x1 = some Z) : Met l yX13_isWay wsX13_isWay ({ frames := 0, cells := 0, slots := 0, locals := 0 }) (va_Pc [.ref (ad a0), .int x1] (Wd D ad cy A g q M)) (va_Qi (fun r u => r = Z ∧ u = M ∧ zb r) (Wd D ad cy A g q) A) 0 0 A := by
  refine Met.ofW (cc := cX13_isWay) (maxL := 2) (ret := (some .boolean)) (by decide) rfl ?_
  intro p e s m args below meth c s₁ B hml hv
  obtain ⟨rfl, hP, hK, hD, hT, hG⟩ := hv
  have hx := B.exec
  have hb := B.bytes
  have hr := B.returns
  have hts := atoms_spec (ws := wsX13_isWay) B.pre
  have hown : s.vm.findClass RX13 = some m.cls := findClass_of_methodNamed B.named
  have hlocks := B.notSynchronized
  have in12 : ∀ w ∈ u_ws RX12 TX12 48, w ∈ wsX13_isWay := fun w h => List.mem_cons_of_mem _ (List.mem_append_right _ h)
  have in13 : ∀ w ∈ u_ws RX13 TX13 29, w ∈ wsX13_isWay := fun w h => List.mem_cons_of_mem _ (List.mem_append_left _ (List.mem_append_right _ h))
  have hS : va_S A s.heap s.heap [] := va_S.rf
  have hl := lv_entry ([.ref (ad a0), .int x1]) (n := 2) (Nat.le_of_ble_eq_true rfl)
  rw [lg_entry_eq]
  generalize (lg_sl ([.ref (ad a0), .int x1]) ++ List.replicate (2 - (lg_sl ([.ref (ad a0), .int x1])).length) Slot.unset).toArray = ls at hl ⊢
  have hl : lv_has ls 2 [(0, .ref (ad a0)), (1, .int x1)] := hl
  unfold f_X13_isWay at h
  refine lv_aload_n hx hb dX13_isWay_0 rfl (lv_at hl 0 rfl) ?_
  rcases hN1 : gR M a0 3 with _ | b1
  · replace h := oc_n hN1 h
    refine r_get (T := TX13) (v := .null) hx hb hts in13 hown hK hP k0 (by decide) rfl 3 (by decide) (hts (.fieldLink RX13 431 "StoneWalkModel" "island" "LStoneWalkModel$Island;") (List.mem_of_getElem? (i := 1) (by decide +kernel))) rfl (t := 2) rfl (by show va_rf _ = _; rw [hN1]; rfl) dX13_isWay_1 ?_
    refine lv_ifnullN (tgt := 26) hx hb dX13_isWay_4 rfl ?_
    refine lv_iconst (v := 0) hx hb dX13_isWay_26 rfl ?_
    exact r_zret hx hb hr hlocks hP hK hD hT hG hS zb_0 (Option.some.inj h) rfl dX13_isWay_27
  · replace h := oc_s hN1 h
    have kb1 := hT.f k0 (k := 3) (t := 12) (n := 0) rfl hN1
    refine r_get (T := TX13) (v := .ref (ad b1)) hx hb hts in13 hown hK hP k0 (by decide) rfl 3 (by decide) (hts (.fieldLink RX13 431 "StoneWalkModel" "island" "LStoneWalkModel$Island;") (List.mem_of_getElem? (i := 1) (by decide +kernel))) rfl (t := 2) rfl (by show va_rf _ = _; rw [hN1]; rfl) dX13_isWay_1 ?_
    refine lv_ifnull hx hb dX13_isWay_4 ?_
    refine lv_iload_n hx hb dX13_isWay_7 rfl (lv_at hl 1 rfl) ?_
    refine lv_if_lt (tgt := 26) hx hb dX13_isWay_8 rfl (fun c2 => ?_) (fun c2 => ?_)
    · replace h := ite_t c2 h
      refine lv_iconst (v := 0) hx hb dX13_isWay_26 rfl ?_
      exact r_zret hx hb hr hlocks hP hK hD hT hG hS zb_0 (Option.some.inj h) rfl dX13_isWay_27
    · replace h := ite_f c2 h
      refine lv_iload_n hx hb dX13_isWay_11 rfl (lv_at hl 1 rfl) ?_
      refine lv_aload_n hx hb dX13_isWay_12 rfl (lv_at hl 0 rfl) ?_
      rcases hN3 : gR M a0 3 with _ | b3
      · replace h := oc_n hN3 h
        refine r_get (T := TX13) (v := .null) hx hb hts in13 hown hK hP k0 (by decide) rfl 3 (by decide) (hts (.fieldLink RX13 431 "StoneWalkModel" "island" "LStoneWalkModel$Island;") (List.mem_of_getElem? (i := 1) (by decide +kernel))) rfl (t := 2) rfl (by show va_rf _ = _; rw [hN3]; rfl) dX13_isWay_13 ?_
        exact absurd h (by simp)
      · replace h := oc_s hN3 h
        have kb3 := hT.f k0 (k := 3) (t := 12) (n := 0) rfl hN3
        refine r_get (T := TX13) (v := .ref (ad b3)) hx hb hts in13 hown hK hP k0 (by decide) rfl 3 (by decide) (hts (.fieldLink RX13 431 "StoneWalkModel" "island" "LStoneWalkModel$Island;") (List.mem_of_getElem? (i := 1) (by decide +kernel))) rfl (t := 2) rfl (by show va_rf _ = _; rw [hN3]; rfl) dX13_isWay_13 ?_
        refine r_getN (T := TX12) (v := .int (gI M b3 0)) hx hb hts in12 hown hK hP kb3 (by decide) rfl 0 (by decide) (hG.2.2.1 _ (List.mem_of_getElem? (i := 5) rfl)) rfl (t := 0) rfl rfl dX13_isWay_16 ?_
        refine lv_icmp_ge (tgt := 26) hx hb dX13_isWay_19 rfl (fun c4 => ?_) (fun c4 => ?_)
        · replace h := ite_t c4 h
          refine lv_iconst (v := 0) hx hb dX13_isWay_26 rfl ?_
          exact r_zret hx hb hr hlocks hP hK hD hT hG hS zb_0 (Option.some.inj h) rfl dX13_isWay_27
        · replace h := ite_f c4 h
          refine lv_iconst (v := 1) hx hb dX13_isWay_22 rfl ?_
          refine lv_goto (tgt := 27) hx hb dX13_isWay_23 rfl ?_
          exact r_zret hx hb hr hlocks hP hK hD hT hG hS zb_1 (Option.some.inj h) rfl dX13_isWay_27
set_option maxHeartbeats 4000000 in
set_option maxRecDepth 100000 in
theorem c_X13_isRoad {l : Launch} {D : va_G} {ad : Nat → Nat} {cy : Nat → ClassId} {A : Nat → Prop} {g : CG} {q : SE} (M : MM) (a0 : Nat) (x1 : Int32) (k0 : ok g a0 13 0) {Z : Int32} (h : f_X13_isRoad M a0 x1 = some Z) : Met l yX13_isRoad wsX13_isRoad ({ frames := 0, cells := 0, slots := 0, locals := 0 }) (va_Pc [.ref (ad a0), .int x1] (Wd D ad cy A g q M)) (va_Qi (fun r u => r = Z ∧ u = M ∧ zb r) (Wd D ad cy A g q) A) 0 0 A := by
  refine Met.ofW (cc := cX13_isRoad) (maxL := 2) (ret := (some .boolean)) (by decide) rfl ?_
  intro p e s m args below meth c s₁ B hml hv
  obtain ⟨rfl, hP, hK, hD, hT, hG⟩ := hv
  have hx := B.exec
  have hb := B.bytes
  have hr := B.returns
  have hts := atoms_spec (ws := wsX13_isRoad) B.pre
  have hown : s.vm.findClass RX13 = some m.cls := findClass_of_methodNamed B.named
  have hlocks := B.notSynchronized
  have in12 : ∀ w ∈ u_ws RX12 TX12 48, w ∈ wsX13_isRoad := fun w h => List.mem_cons_of_mem _ (List.mem_append_right _ h)
  have in13 : ∀ w ∈ u_ws RX13 TX13 29, w ∈ wsX13_isRoad := fun w h => List.mem_cons_of_mem _ (List.mem_append_left _ (List.mem_append_right _ h))
  have hS : va_S A s.heap s.heap [] := va_S.rf
  have hl := lv_entry ([.ref (ad a0), .int x1]) (n := 2) (Nat.le_of_ble_eq_true rfl)
  rw [lg_entry_eq]
  generalize (lg_sl ([.ref (ad a0), .int x1]) ++ List.replicate (2 - (lg_sl ([.ref (ad a0), .int x1])).length) Slot.unset).toArray = ls at hl ⊢
  have hl : lv_has ls 2 [(0, .ref (ad a0)), (1, .int x1)] := hl
  unfold f_X13_isRoad at h
  refine lv_aload_n hx hb dX13_isRoad_0 rfl (lv_at hl 0 rfl) ?_
  rcases hN1 : gR M a0 3 with _ | b1
  · replace h := oc_n hN1 h
    refine r_get (T := TX13) (v := .null) hx hb hts in13 hown hK hP k0 (by decide) rfl 3 (by decide) (hts (.fieldLink RX13 431 "StoneWalkModel" "island" "LStoneWalkModel$Island;") (List.mem_of_getElem? (i := 1) (by decide +kernel))) rfl (t := 2) rfl (by show va_rf _ = _; rw [hN1]; rfl) dX13_isRoad_1 ?_
    refine lv_ifnullN (tgt := 26) hx hb dX13_isRoad_4 rfl ?_
    refine lv_iconst (v := 0) hx hb dX13_isRoad_26 rfl ?_
    exact r_zret hx hb hr hlocks hP hK hD hT hG hS zb_0 (Option.some.inj h) rfl dX13_isRoad_27
  · replace h := oc_s hN1 h
    have kb1 := hT.f k0 (k := 3) (t := 12) (n := 0) rfl hN1
    refine r_get (T := TX13) (v := .ref (ad b1)) hx hb hts in13 hown hK hP k0 (by decide) rfl 3 (by decide) (hts (.fieldLink RX13 431 "StoneWalkModel" "island" "LStoneWalkModel$Island;") (List.mem_of_getElem? (i := 1) (by decide +kernel))) rfl (t := 2) rfl (by show va_rf _ = _; rw [hN1]; rfl) dX13_isRoad_1 ?_
    refine lv_ifnull hx hb dX13_isRoad_4 ?_
    refine lv_iload_n hx hb dX13_isRoad_7 rfl (lv_at hl 1 rfl) ?_
    refine lv_if_lt (tgt := 26) hx hb dX13_isRoad_8 rfl (fun c2 => ?_) (fun c2 => ?_)
    · replace h := ite_t c2 h
      refine lv_iconst (v := 0) hx hb dX13_isRoad_26 rfl ?_
      exact r_zret hx hb hr hlocks hP hK hD hT hG hS zb_0 (Option.some.inj h) rfl dX13_isRoad_27
    · replace h := ite_f c2 h
      refine lv_iload_n hx hb dX13_isRoad_11 rfl (lv_at hl 1 rfl) ?_
      refine lv_aload_n hx hb dX13_isRoad_12 rfl (lv_at hl 0 rfl) ?_
      rcases hN3 : gR M a0 3 with _ | b3
      · replace h := oc_n hN3 h
        refine r_get (T := TX13) (v := .null) hx hb hts in13 hown hK hP k0 (by decide) rfl 3 (by decide) (hts (.fieldLink RX13 431 "StoneWalkModel" "island" "LStoneWalkModel$Island;") (List.mem_of_getElem? (i := 1) (by decide +kernel))) rfl (t := 2) rfl (by show va_rf _ = _; rw [hN3]; rfl) dX13_isRoad_13 ?_
        exact absurd h (by simp)
      · replace h := oc_s hN3 h
        have kb3 := hT.f k0 (k := 3) (t := 12) (n := 0) rfl hN3
        refine r_get (T := TX13) (v := .ref (ad b3)) hx hb hts in13 hown hK hP k0 (by decide) rfl 3 (by decide) (hts (.fieldLink RX13 431 "StoneWalkModel" "island" "LStoneWalkModel$Island;") (List.mem_of_getElem? (i := 1) (by decide +kernel))) rfl (t := 2) rfl (by show va_rf _ = _; rw [hN3]; rfl) dX13_isRoad_13 ?_
        refine r_getN (T := TX12) (v := .int (gI M b3 1)) hx hb hts in12 hown hK hP kb3 (by decide) rfl 1 (by decide) (hG.2.2.1 _ (List.mem_of_getElem? (i := 6) rfl)) rfl (t := 0) rfl rfl dX13_isRoad_16 ?_
        refine lv_icmp_ge (tgt := 26) hx hb dX13_isRoad_19 rfl (fun c4 => ?_) (fun c4 => ?_)
        · replace h := ite_t c4 h
          refine lv_iconst (v := 0) hx hb dX13_isRoad_26 rfl ?_
          exact r_zret hx hb hr hlocks hP hK hD hT hG hS zb_0 (Option.some.inj h) rfl dX13_isRoad_27
        · replace h := ite_f c4 h
          refine lv_iconst (v := 1) hx hb dX13_isRoad_22 rfl ?_
          refine lv_goto (tgt := 27) hx hb dX13_isRoad_23 rfl ?_
          exact r_zret hx hb hr hlocks hP hK hD hT hG hS zb_1 (Option.some.inj h) rfl dX13_isRoad_27
set_option maxHeartbeats 4000000 in
set_option maxRecDepth 100000 in
theorem c_X13_isStatue {l : Launch} {D : va_G} {ad : Nat → Nat} {cy : Nat → ClassId} {A : Nat → Prop} {g : CG} {q : SE} (M : MM) (a0 : Nat) (x1 : Int32) (k0 : ok g a0 13 0) {Z : Int32} (h : f_X13_isStatue M a0 x1 = some Z) : Met l yX13_isStatue wsX13_isStatue ({ frames := 0, cells := 0, slots := 0, locals := 0 }) (va_Pc [.ref (ad a0), .int x1] (Wd D ad cy A g q M)) (va_Qi (fun r u => r = Z ∧ u = M ∧ zb r) (Wd D ad cy A g q) A) 0 0 A := by
  refine Met.ofW (cc := cX13_isStatue) (maxL := 2) (ret := (some .boolean)) (by decide) rfl ?_
  intro p e s m args below meth c s₁ B hml hv
  obtain ⟨rfl, hP, hK, hD, hT, hG⟩ := hv
  have hx := B.exec
  have hb := B.bytes
  have hr := B.returns
  have hts := atoms_spec (ws := wsX13_isStatue) B.pre
  have hown : s.vm.findClass RX13 = some m.cls := findClass_of_methodNamed B.named
  have hlocks := B.notSynchronized
  have in12 : ∀ w ∈ u_ws RX12 TX12 48, w ∈ wsX13_isStatue := fun w h => List.mem_cons_of_mem _ (List.mem_append_right _ h)
  have in13 : ∀ w ∈ u_ws RX13 TX13 29, w ∈ wsX13_isStatue := fun w h => List.mem_cons_of_mem _ (List.mem_append_left _ (List.mem_append_right _ h))
  have hS : va_S A s.heap s.heap [] := va_S.rf
  have hl := lv_entry ([.ref (ad a0), .int x1]) (n := 2) (Nat.le_of_ble_eq_true rfl)
  rw [lg_entry_eq]
  generalize (lg_sl ([.ref (ad a0), .int x1]) ++ List.replicate (2 - (lg_sl ([.ref (ad a0), .int x1])).length) Slot.unset).toArray = ls at hl ⊢
  have hl : lv_has ls 2 [(0, .ref (ad a0)), (1, .int x1)] := hl
  unfold f_X13_isStatue at h
  refine lv_aload_n hx hb dX13_isStatue_0 rfl (lv_at hl 0 rfl) ?_
  rcases hN1 : gR M a0 3 with _ | b1
  · replace h := oc_n hN1 h
    refine r_get (T := TX13) (v := .null) hx hb hts in13 hown hK hP k0 (by decide) rfl 3 (by decide) (hts (.fieldLink RX13 431 "StoneWalkModel" "island" "LStoneWalkModel$Island;") (List.mem_of_getElem? (i := 1) (by decide +kernel))) rfl (t := 2) rfl (by show va_rf _ = _; rw [hN1]; rfl) dX13_isStatue_1 ?_
    refine lv_ifnullN (tgt := 26) hx hb dX13_isStatue_4 rfl ?_
    refine lv_iconst (v := 0) hx hb dX13_isStatue_26 rfl ?_
    exact r_zret hx hb hr hlocks hP hK hD hT hG hS zb_0 (Option.some.inj h) rfl dX13_isStatue_27
  · replace h := oc_s hN1 h
    have kb1 := hT.f k0 (k := 3) (t := 12) (n := 0) rfl hN1
    refine r_get (T := TX13) (v := .ref (ad b1)) hx hb hts in13 hown hK hP k0 (by decide) rfl 3 (by decide) (hts (.fieldLink RX13 431 "StoneWalkModel" "island" "LStoneWalkModel$Island;") (List.mem_of_getElem? (i := 1) (by decide +kernel))) rfl (t := 2) rfl (by show va_rf _ = _; rw [hN1]; rfl) dX13_isStatue_1 ?_
    refine lv_ifnull hx hb dX13_isStatue_4 ?_
    refine lv_iload_n hx hb dX13_isStatue_7 rfl (lv_at hl 1 rfl) ?_
    refine lv_if_lt (tgt := 26) hx hb dX13_isStatue_8 rfl (fun c2 => ?_) (fun c2 => ?_)
    · replace h := ite_t c2 h
      refine lv_iconst (v := 0) hx hb dX13_isStatue_26 rfl ?_
      exact r_zret hx hb hr hlocks hP hK hD hT hG hS zb_0 (Option.some.inj h) rfl dX13_isStatue_27
    · replace h := ite_f c2 h
      refine lv_iload_n hx hb dX13_isStatue_11 rfl (lv_at hl 1 rfl) ?_
      refine lv_aload_n hx hb dX13_isStatue_12 rfl (lv_at hl 0 rfl) ?_
      rcases hN3 : gR M a0 3 with _ | b3
      · replace h := oc_n hN3 h
        refine r_get (T := TX13) (v := .null) hx hb hts in13 hown hK hP k0 (by decide) rfl 3 (by decide) (hts (.fieldLink RX13 431 "StoneWalkModel" "island" "LStoneWalkModel$Island;") (List.mem_of_getElem? (i := 1) (by decide +kernel))) rfl (t := 2) rfl (by show va_rf _ = _; rw [hN3]; rfl) dX13_isStatue_13 ?_
        exact absurd h (by simp)
      · replace h := oc_s hN3 h
        have kb3 := hT.f k0 (k := 3) (t := 12) (n := 0) rfl hN3
        refine r_get (T := TX13) (v := .ref (ad b3)) hx hb hts in13 hown hK hP k0 (by decide) rfl 3 (by decide) (hts (.fieldLink RX13 431 "StoneWalkModel" "island" "LStoneWalkModel$Island;") (List.mem_of_getElem? (i := 1) (by decide +kernel))) rfl (t := 2) rfl (by show va_rf _ = _; rw [hN3]; rfl) dX13_isStatue_13 ?_
        refine r_getN (T := TX12) (v := .int (gI M b3 2)) hx hb hts in12 hown hK hP kb3 (by decide) rfl 2 (by decide) (hG.2.2.1 _ (List.mem_of_getElem? (i := 7) rfl)) rfl (t := 0) rfl rfl dX13_isStatue_16 ?_
        refine lv_icmp_ge (tgt := 26) hx hb dX13_isStatue_19 rfl (fun c4 => ?_) (fun c4 => ?_)
        · replace h := ite_t c4 h
          refine lv_iconst (v := 0) hx hb dX13_isStatue_26 rfl ?_
          exact r_zret hx hb hr hlocks hP hK hD hT hG hS zb_0 (Option.some.inj h) rfl dX13_isStatue_27
        · replace h := ite_f c4 h
          refine lv_iconst (v := 1) hx hb dX13_isStatue_22 rfl ?_
          refine lv_goto (tgt := 27) hx hb dX13_isStatue_23 rfl ?_
          exact r_zret hx hb hr hlocks hP hK hD hT hG hS zb_1 (Option.some.inj h) rfl dX13_isStatue_27
set_option maxHeartbeats 4000000 in
set_option maxRecDepth 100000 in
theorem c_X13_isStory {l : Launch} {D : va_G} {ad : Nat → Nat} {cy : Nat → ClassId} {A : Nat → Prop} {g : CG} {q : SE} (M : MM) (a0 : Nat) (x1 : Int32) (k0 : ok g a0 13 0) {Z : Int32} (h : f_X13_isStory M a0 x1 = some Z) : Met l yX13_isStory wsX13_isStory ({ frames := 0, cells := 0, slots := 0, locals := 0 }) (va_Pc [.ref (ad a0), .int x1] (Wd D ad cy A g q M)) (va_Qi (fun r u => r = Z ∧ u = M ∧ zb r) (Wd D ad cy A g q) A) 0 0 A := by
  refine Met.ofW (cc := cX13_isStory) (maxL := 2) (ret := (some .boolean)) (by decide) rfl ?_
  intro p e s m args below meth c s₁ B hml hv
  obtain ⟨rfl, hP, hK, hD, hT, hG⟩ := hv
  have hx := B.exec
  have hb := B.bytes
  have hr := B.returns
  have hts := atoms_spec (ws := wsX13_isStory) B.pre
  have hown : s.vm.findClass RX13 = some m.cls := findClass_of_methodNamed B.named
  have hlocks := B.notSynchronized
  have in12 : ∀ w ∈ u_ws RX12 TX12 48, w ∈ wsX13_isStory := fun w h => List.mem_cons_of_mem _ (List.mem_append_right _ h)
  have in13 : ∀ w ∈ u_ws RX13 TX13 29, w ∈ wsX13_isStory := fun w h => List.mem_cons_of_mem _ (List.mem_append_left _ (List.mem_append_right _ h))
  have hS : va_S A s.heap s.heap [] := va_S.rf
  have hl := lv_entry ([.ref (ad a0), .int x1]) (n := 2) (Nat.le_of_ble_eq_true rfl)
  rw [lg_entry_eq]
  generalize (lg_sl ([.ref (ad a0), .int x1]) ++ List.replicate (2 - (lg_sl ([.ref (ad a0), .int x1])).length) Slot.unset).toArray = ls at hl ⊢
  have hl : lv_has ls 2 [(0, .ref (ad a0)), (1, .int x1)] := hl
  unfold f_X13_isStory at h
  refine lv_aload_n hx hb dX13_isStory_0 rfl (lv_at hl 0 rfl) ?_
  rcases hN1 : gR M a0 3 with _ | b1
  · replace h := oc_n hN1 h
    refine r_get (T := TX13) (v := .null) hx hb hts in13 hown hK hP k0 (by decide) rfl 3 (by decide) (hts (.fieldLink RX13 431 "StoneWalkModel" "island" "LStoneWalkModel$Island;") (List.mem_of_getElem? (i := 1) (by decide +kernel))) rfl (t := 2) rfl (by show va_rf _ = _; rw [hN1]; rfl) dX13_isStory_1 ?_
    refine lv_ifnullN (tgt := 26) hx hb dX13_isStory_4 rfl ?_
    refine lv_iconst (v := 0) hx hb dX13_isStory_26 rfl ?_
    exact r_zret hx hb hr hlocks hP hK hD hT hG hS zb_0 (Option.some.inj h) rfl dX13_isStory_27
  · replace h := oc_s hN1 h
    have kb1 := hT.f k0 (k := 3) (t := 12) (n := 0) rfl hN1
    refine r_get (T := TX13) (v := .ref (ad b1)) hx hb hts in13 hown hK hP k0 (by decide) rfl 3 (by decide) (hts (.fieldLink RX13 431 "StoneWalkModel" "island" "LStoneWalkModel$Island;") (List.mem_of_getElem? (i := 1) (by decide +kernel))) rfl (t := 2) rfl (by show va_rf _ = _; rw [hN1]; rfl) dX13_isStory_1 ?_
    refine lv_ifnull hx hb dX13_isStory_4 ?_
    refine lv_iload_n hx hb dX13_isStory_7 rfl (lv_at hl 1 rfl) ?_
    refine lv_if_lt (tgt := 26) hx hb dX13_isStory_8 rfl (fun c2 => ?_) (fun c2 => ?_)
    · replace h := ite_t c2 h
      refine lv_iconst (v := 0) hx hb dX13_isStory_26 rfl ?_
      exact r_zret hx hb hr hlocks hP hK hD hT hG hS zb_0 (Option.some.inj h) rfl dX13_isStory_27
    · replace h := ite_f c2 h
      refine lv_iload_n hx hb dX13_isStory_11 rfl (lv_at hl 1 rfl) ?_
      refine lv_aload_n hx hb dX13_isStory_12 rfl (lv_at hl 0 rfl) ?_
      rcases hN3 : gR M a0 3 with _ | b3
      · replace h := oc_n hN3 h
        refine r_get (T := TX13) (v := .null) hx hb hts in13 hown hK hP k0 (by decide) rfl 3 (by decide) (hts (.fieldLink RX13 431 "StoneWalkModel" "island" "LStoneWalkModel$Island;") (List.mem_of_getElem? (i := 1) (by decide +kernel))) rfl (t := 2) rfl (by show va_rf _ = _; rw [hN3]; rfl) dX13_isStory_13 ?_
        exact absurd h (by simp)
      · replace h := oc_s hN3 h
        have kb3 := hT.f k0 (k := 3) (t := 12) (n := 0) rfl hN3
        refine r_get (T := TX13) (v := .ref (ad b3)) hx hb hts in13 hown hK hP k0 (by decide) rfl 3 (by decide) (hts (.fieldLink RX13 431 "StoneWalkModel" "island" "LStoneWalkModel$Island;") (List.mem_of_getElem? (i := 1) (by decide +kernel))) rfl (t := 2) rfl (by show va_rf _ = _; rw [hN3]; rfl) dX13_isStory_13 ?_
        refine r_getN (T := TX12) (v := .int (gI M b3 5)) hx hb hts in12 hown hK hP kb3 (by decide) rfl 5 (by decide) (hG.2.2.1 _ (List.mem_of_getElem? (i := 36) rfl)) rfl (t := 0) rfl rfl dX13_isStory_16 ?_
        refine lv_icmp_ge (tgt := 26) hx hb dX13_isStory_19 rfl (fun c4 => ?_) (fun c4 => ?_)
        · replace h := ite_t c4 h
          refine lv_iconst (v := 0) hx hb dX13_isStory_26 rfl ?_
          exact r_zret hx hb hr hlocks hP hK hD hT hG hS zb_0 (Option.some.inj h) rfl dX13_isStory_27
        · replace h := ite_f c4 h
          refine lv_iconst (v := 1) hx hb dX13_isStory_22 rfl ?_
          refine lv_goto (tgt := 27) hx hb dX13_isStory_23 rfl ?_
          exact r_zret hx hb hr hlocks hP hK hD hT hG hS zb_1 (Option.some.inj h) rfl dX13_isStory_27
set_option maxHeartbeats 4000000 in
set_option maxRecDepth 100000 in
theorem c_X13_canGo {l : Launch} {D : va_G} {ad : Nat → Nat} {cy : Nat → ClassId} {A : Nat → Prop} {g : CG} {q : SE} (M : MM) (x0 : Int32) (x1 : Int32) (x2 : Int32) (x3 : Int32) (x4 : Int32) {Z : Int32} (h : f_X13_canGo M x0 x1 x2 x3 x4 = some Z) : Met l yX13_canGo wsX13_canGo ({ frames := 1, cells := 0, slots := 0, locals := 22 }) (va_Pc [.int x0, .int x1, .int x2, .int x3, .int x4] (Wd D ad cy A g q M)) (va_Qi (fun r u => r = Z ∧ u = M ∧ zb r) (Wd D ad cy A g q) A) 0 0 A := by
  refine Met.ofW (cc := cX13_canGo) (maxL := 5) (ret := (some .boolean)) (by decide) rfl ?_
  intro p e s m args below meth c s₁ B hml hv
  obtain ⟨rfl, hP, hK, hD, hT, hG⟩ := hv
  have hx := B.exec
  have hb := B.bytes
  have hr := B.returns
  have hts := atoms_spec (ws := wsX13_canGo) B.pre
  have hown : s.vm.findClass RX13 = some m.cls := findClass_of_methodNamed B.named
  have hlocks := B.notSynchronized
  have hS : va_S A s.heap s.heap [] := va_S.rf
  have hl := lv_entry ([.int x0, .int x1, .int x2, .int x3, .int x4]) (n := 5) (Nat.le_of_ble_eq_true rfl)
  rw [lg_entry_eq]
  generalize (lg_sl ([.int x0, .int x1, .int x2, .int x3, .int x4]) ++ List.replicate (5 - (lg_sl ([.int x0, .int x1, .int x2, .int x3, .int x4])).length) Slot.unset).toArray = ls at hl ⊢
  have hl : lv_has ls 5 [(0, .int x0), (1, .int x1), (2, .int x2), (3, .int x3), (4, .int x4)] := hl
  unfold f_X13_canGo at h
  refine lv_iload_n hx hb dX13_canGo_0 rfl (lv_at hl 0 rfl) ?_
  refine lv_if_ne (tgt := 42) hx hb dX13_canGo_1 rfl (fun c1 => ?_) (fun c1 => ?_)
  · replace h := ite_f c1 h
    refine lv_iload_n hx hb dX13_canGo_42 rfl (lv_at hl 0 rfl) ?_
    refine lv_iconst (v := 1) hx hb dX13_canGo_43 rfl ?_
    refine lv_icmp_ne (tgt := 57) hx hb dX13_canGo_44 rfl (fun c2 => ?_) (fun c2 => ?_)
    · replace h := ite_f c2 h
      refine lv_iload_n hx hb dX13_canGo_57 rfl (lv_at hl 0 rfl) ?_
      refine lv_iconst (v := 2) hx hb dX13_canGo_58 rfl ?_
      refine lv_icmp_ne (tgt := 85) hx hb dX13_canGo_59 rfl (fun c3 => ?_) (fun c3 => ?_)
      · replace h := ite_f c3 h
        refine lv_iload_n hx hb dX13_canGo_85 rfl (lv_at hl 1 rfl) ?_
        refine lv_bipush (v := 20) hx hb dX13_canGo_86 rfl ?_
        refine lv_icmp_gt (tgt := 102) hx hb dX13_canGo_88 rfl (fun c4 => ?_) (fun c4 => ?_)
        · replace h := ite_t c4 h
          refine lv_iconst (v := 0) hx hb dX13_canGo_102 rfl ?_
          exact r_zret hx hb hr hlocks hP hK hD hT hG hS zb_0 (Option.some.inj h) rfl dX13_canGo_103
        · replace h := ite_f c4 h
          refine lv_iload hx hb dX13_canGo_91 (lv_at hl 4 rfl) ?_
          refine lv_bipush (v := 12) hx hb dX13_canGo_93 rfl ?_
          refine lv_icmp_gt (tgt := 102) hx hb dX13_canGo_95 rfl (fun c5 => ?_) (fun c5 => ?_)
          · replace h := ite_t c5 h
            refine lv_iconst (v := 0) hx hb dX13_canGo_102 rfl ?_
            exact r_zret hx hb hr hlocks hP hK hD hT hG hS zb_0 (Option.some.inj h) rfl dX13_canGo_103
          · replace h := ite_f c5 h
            refine lv_iconst (v := 1) hx hb dX13_canGo_98 rfl ?_
            refine lv_goto (tgt := 103) hx hb dX13_canGo_99 rfl ?_
            exact r_zret hx hb hr hlocks hP hK hD hT hG hS zb_1 (Option.some.inj h) rfl dX13_canGo_103
      · replace h := ite_t c3 h
        refine lv_iload_n hx hb dX13_canGo_62 rfl (lv_at hl 1 rfl) ?_
        refine lv_bipush (v := 30) hx hb dX13_canGo_63 rfl ?_
        refine lv_icmp_gt (tgt := 83) hx hb dX13_canGo_65 rfl (fun c6 => ?_) (fun c6 => ?_)
        · replace h := ite_t c6 h
          refine lv_iconst (v := 0) hx hb dX13_canGo_83 rfl ?_
          exact r_zret hx hb hr hlocks hP hK hD hT hG hS zb_0 (Option.some.inj h) rfl dX13_canGo_84
        · replace h := ite_f c6 h
          refine lv_iload hx hb dX13_canGo_68 (lv_at hl 4 rfl) ?_
          refine lv_bipush (v := (-3)) hx hb dX13_canGo_70 rfl ?_
          refine lv_iconst (v := 5) hx hb dX13_canGo_72 rfl ?_
          obtain ⟨z7, h7, h⟩ := ob_some h
          refine k_z (va_runS (As := [.int x4, .int (-3), .int 5]) (rest := []) ⟨hx, hb, hml, hown, hts⟩ (c_X13_in (l := l) M x4 (-3) 5 h7) (va_cwS 3 hts gX13_canGo_X13_in rfl rfl rfl hdS_X13_in ⟨Nat.le_of_ble_eq_true rfl, Nat.le_of_ble_eq_true rfl⟩) (pS hP hK hD hT hG hS) rfl rfl hl.1 rfl (lv_room (Nat.le_of_ble_eq_true rfl)) dX13_canGo_73 ⟨Nat.zero_le _, Nat.zero_le _⟩) hS (fun H locs hz7 hP hD hT hS => ?_)
          refine lv_if_eq (tgt := 83) hx hb dX13_canGo_76 rfl (fun c8 => ?_) (fun c8 => ?_)
          · replace h := ite_t c8 h
            refine lv_iconst (v := 0) hx hb dX13_canGo_83 rfl ?_
            exact r_zret hx hb hr hlocks hP hK hD hT hG hS zb_0 (Option.some.inj h) rfl dX13_canGo_84
          · replace h := ite_f c8 h
            refine lv_iconst (v := 1) hx hb dX13_canGo_79 rfl ?_
            refine lv_goto (tgt := 84) hx hb dX13_canGo_80 rfl ?_
            exact r_zret hx hb hr hlocks hP hK hD hT hG hS zb_1 (Option.some.inj h) rfl dX13_canGo_84
    · replace h := ite_t c2 h
      refine lv_iload hx hb dX13_canGo_47 (lv_at hl 4 rfl) ?_
      refine lv_bipush (v := (-6)) hx hb dX13_canGo_49 rfl ?_
      refine lv_bipush (v := 8) hx hb dX13_canGo_51 rfl ?_
      obtain ⟨z9, h9, h⟩ := ob_some h
      refine k_z (va_runS (As := [.int x4, .int (-6), .int 8]) (rest := []) ⟨hx, hb, hml, hown, hts⟩ (c_X13_in (l := l) M x4 (-6) 8 h9) (va_cwS 3 hts gX13_canGo_X13_in rfl rfl rfl hdS_X13_in ⟨Nat.le_of_ble_eq_true rfl, Nat.le_of_ble_eq_true rfl⟩) (pS hP hK hD hT hG hS) rfl rfl hl.1 rfl (lv_room (Nat.le_of_ble_eq_true rfl)) dX13_canGo_53 ⟨Nat.zero_le _, Nat.zero_le _⟩) hS (fun H locs hz9 hP hD hT hS => ?_)
      exact r_zret hx hb hr hlocks hP hK hD hT hG hS hz9 (Option.some.inj h) rfl dX13_canGo_56
  · replace h := ite_t c1 h
    refine lv_iload_n hx hb dX13_canGo_4 rfl (lv_at hl 2 rfl) ?_
    refine lv_iconst (v := 5) hx hb dX13_canGo_5 rfl ?_
    refine lv_bipush (v := 25) hx hb dX13_canGo_6 rfl ?_
    obtain ⟨z10, h10, h⟩ := ob_some h
    refine k_z (va_runS (As := [.int x2, .int 5, .int 25]) (rest := []) ⟨hx, hb, hml, hown, hts⟩ (c_X13_in (l := l) M x2 5 25 h10) (va_cwS 3 hts gX13_canGo_X13_in rfl rfl rfl hdS_X13_in ⟨Nat.le_of_ble_eq_true rfl, Nat.le_of_ble_eq_true rfl⟩) (pS hP hK hD hT hG hS) rfl rfl hl.1 rfl (lv_room (Nat.le_of_ble_eq_true rfl)) dX13_canGo_8 ⟨Nat.zero_le _, Nat.zero_le _⟩) hS (fun H locs hz10 hP hD hT hS => ?_)
    refine lv_if_eq (tgt := 40) hx hb dX13_canGo_11 rfl (fun c11 => ?_) (fun c11 => ?_)
    · replace h := ite_t c11 h
      refine lv_iconst (v := 0) hx hb dX13_canGo_40 rfl ?_
      exact r_zret hx hb hr hlocks hP hK hD hT hG hS zb_0 (Option.some.inj h) rfl dX13_canGo_41
    · replace h := ite_f c11 h
      refine lv_iload_n hx hb dX13_canGo_14 rfl (lv_at hl 3 rfl) ?_
      refine lv_iconst (v := 3) hx hb dX13_canGo_15 rfl ?_
      refine lv_icmp_lt (tgt := 40) hx hb dX13_canGo_16 rfl (fun c12 => ?_) (fun c12 => ?_)
      · replace h := ite_t c12 h
        refine lv_iconst (v := 0) hx hb dX13_canGo_40 rfl ?_
        exact r_zret hx hb hr hlocks hP hK hD hT hG hS zb_0 (Option.some.inj h) rfl dX13_canGo_41
      · replace h := ite_f c12 h
        refine lv_iload hx hb dX13_canGo_19 (lv_at hl 4 rfl) ?_
        refine lv_iload_n hx hb dX13_canGo_21 rfl (lv_at hl 2 rfl) ?_
        refine lv_iconst (v := 2) hx hb dX13_canGo_22 rfl ?_
        refine lv_idiv hx hb dX13_canGo_23 (by decide) ?_
        refine lv_icmp_gt (tgt := 40) hx hb dX13_canGo_24 rfl (fun c13 => ?_) (fun c13 => ?_)
        · replace h := ite_t c13 h
          refine lv_iconst (v := 0) hx hb dX13_canGo_40 rfl ?_
          exact r_zret hx hb hr hlocks hP hK hD hT hG hS zb_0 (Option.some.inj h) rfl dX13_canGo_41
        · replace h := ite_f c13 h
          refine lv_iload hx hb dX13_canGo_27 (lv_at hl 4 rfl) ?_
          refine lv_iload_n hx hb dX13_canGo_29 rfl (lv_at hl 2 rfl) ?_
          refine lv_iconst (v := 4) hx hb dX13_canGo_30 rfl ?_
          refine lv_idiv hx hb dX13_canGo_31 (by decide) ?_
          refine lv_ineg hx hb dX13_canGo_32 ?_
          refine lv_icmp_lt (tgt := 40) hx hb dX13_canGo_33 rfl (fun c14 => ?_) (fun c14 => ?_)
          · replace h := ite_t c14 h
            refine lv_iconst (v := 0) hx hb dX13_canGo_40 rfl ?_
            exact r_zret hx hb hr hlocks hP hK hD hT hG hS zb_0 (Option.some.inj h) rfl dX13_canGo_41
          · replace h := ite_f c14 h
            refine lv_iconst (v := 1) hx hb dX13_canGo_36 rfl ?_
            refine lv_goto (tgt := 41) hx hb dX13_canGo_37 rfl ?_
            exact r_zret hx hb hr hlocks hP hK hD hT hG hS zb_1 (Option.some.inj h) rfl dX13_canGo_41
set_option maxHeartbeats 4000000 in
set_option maxRecDepth 100000 in
theorem c_X13_canBy {l : Launch} {D : va_G} {ad : Nat → Nat} {cy : Nat → ClassId} {A : Nat → Prop} {g : CG} {q : SE} (M : MM) (a0 : Nat) (x1 : Int32) (x2 : Int32) (x3 : Int32) (k0 : ok g a0 13 0) {Z : Int32} (h : f_X13_canBy M a0 x1 x2 x3 = some Z) : Met l yX13_canBy wsX13_canBy ({ frames := 2, cells := 0, slots := 0, locals := 46 }) (va_Pc [.ref (ad a0), .int x1, .int x2, .int x3] (Wd D ad cy A g q M)) (va_Qi (fun r u => r = Z ∧ u = M ∧ zb r) (Wd D ad cy A g q) A) 0 0 A := by
  refine Met.ofW (cc := cX13_canBy) (maxL := 4) (ret := (some .boolean)) (by decide) rfl ?_
  intro p e s m args below meth c s₁ B hml hv
  obtain ⟨rfl, hP, hK, hD, hT, hG⟩ := hv
  have hx := B.exec
  have hb := B.bytes
  have hr := B.returns
  have hts := atoms_spec (ws := wsX13_canBy) B.pre
  have hown : s.vm.findClass RX13 = some m.cls := findClass_of_methodNamed B.named
  have hlocks := B.notSynchronized
  have in12 : ∀ w ∈ u_ws RX12 TX12 48, w ∈ wsX13_canBy := fun w h => List.mem_cons_of_mem _ (List.mem_append_right _ h)
  have in13 : ∀ w ∈ u_ws RX13 TX13 29, w ∈ wsX13_canBy := fun w h => List.mem_cons_of_mem _ (List.mem_append_left _ (List.mem_append_right _ h))
  have hS : va_S A s.heap s.heap [] := va_S.rf
  have hl := lv_entry ([.ref (ad a0), .int x1, .int x2, .int x3]) (n := 4) (Nat.le_of_ble_eq_true rfl)
  rw [lg_entry_eq]
  generalize (lg_sl ([.ref (ad a0), .int x1, .int x2, .int x3]) ++ List.replicate (4 - (lg_sl ([.ref (ad a0), .int x1, .int x2, .int x3])).length) Slot.unset).toArray = ls at hl ⊢
  have hl : lv_has ls 4 [(0, .ref (ad a0)), (1, .int x1), (2, .int x2), (3, .int x3)] := hl
  unfold f_X13_canBy at h
  refine lv_aload_n hx hb dX13_canBy_0 rfl (lv_at hl 0 rfl) ?_
  rcases hN1 : gR M a0 3 with _ | b1
  · replace h := oc_n hN1 h
    refine r_get (T := TX13) (v := .null) hx hb hts in13 hown hK hP k0 (by decide) rfl 3 (by decide) (hts (.fieldLink RX13 431 "StoneWalkModel" "island" "LStoneWalkModel$Island;") (List.mem_of_getElem? (i := 1) (by decide +kernel))) rfl (t := 2) rfl (by show va_rf _ = _; rw [hN1]; rfl) dX13_canBy_1 ?_
    exact absurd h (by simp)
  · replace h := oc_s hN1 h
    have kb1 := hT.f k0 (k := 3) (t := 12) (n := 0) rfl hN1
    refine r_get (T := TX13) (v := .ref (ad b1)) hx hb hts in13 hown hK hP k0 (by decide) rfl 3 (by decide) (hts (.fieldLink RX13 431 "StoneWalkModel" "island" "LStoneWalkModel$Island;") (List.mem_of_getElem? (i := 1) (by decide +kernel))) rfl (t := 2) rfl (by show va_rf _ = _; rw [hN1]; rfl) dX13_canBy_1 ?_
    rcases hN2 : gR M b1 9 with _ | b2
    · exact absurd (oc_n hN2 h) (by simp)
    replace h := oc_s hN2 h
    have kb2 := hT.f kb1 (k := 9) (t := 15) (n := 4) rfl hN2
    refine r_getN (T := TX12) (v := .ref (ad b2)) hx hb hts in12 hown hK hP kb1 (by decide) rfl 9 (by decide) (hG.2.2.1 _ (List.mem_of_getElem? (i := 8) rfl)) rfl (t := 2) rfl (by show va_rf _ = _; rw [hN2]; rfl) dX13_canBy_4 ?_
    refine lv_iload_n hx hb dX13_canBy_7 rfl (lv_at hl 1 rfl) ?_
    obtain ⟨hn3, h⟩ := chk_some h
    refine r_iald hx hb hK hP kb2 hn3 dX13_canBy_8 ?_
    refine lv_aload_n hx hb dX13_canBy_9 rfl (lv_at hl 0 rfl) ?_
    rcases hN4 : gR M a0 3 with _ | b4
    · replace h := oc_n hN4 h
      refine r_get (T := TX13) (v := .null) hx hb hts in13 hown hK hP k0 (by decide) rfl 3 (by decide) (hts (.fieldLink RX13 431 "StoneWalkModel" "island" "LStoneWalkModel$Island;") (List.mem_of_getElem? (i := 1) (by decide +kernel))) rfl (t := 2) rfl (by show va_rf _ = _; rw [hN4]; rfl) dX13_canBy_10 ?_
      exact absurd h (by simp)
    · replace h := oc_s hN4 h
      have kb4 := hT.f k0 (k := 3) (t := 12) (n := 0) rfl hN4
      refine r_get (T := TX13) (v := .ref (ad b4)) hx hb hts in13 hown hK hP k0 (by decide) rfl 3 (by decide) (hts (.fieldLink RX13 431 "StoneWalkModel" "island" "LStoneWalkModel$Island;") (List.mem_of_getElem? (i := 1) (by decide +kernel))) rfl (t := 2) rfl (by show va_rf _ = _; rw [hN4]; rfl) dX13_canBy_10 ?_
      rcases hN5 : gR M b4 15 with _ | b5
      · exact absurd (oc_n hN5 h) (by simp)
      replace h := oc_s hN5 h
      have kb5 := hT.f kb4 (k := 15) (t := 15) (n := 10) rfl hN5
      refine r_getN (T := TX12) (v := .ref (ad b5)) hx hb hts in12 hown hK hP kb4 (by decide) rfl 15 (by decide) (hG.2.2.1 _ (List.mem_of_getElem? (i := 15) rfl)) rfl (t := 2) rfl (by show va_rf _ = _; rw [hN5]; rfl) dX13_canBy_13 ?_
      refine lv_iload_n hx hb dX13_canBy_16 rfl (lv_at hl 2 rfl) ?_
      obtain ⟨hn6, h⟩ := chk_some h
      refine r_iald hx hb hK hP kb5 hn6 dX13_canBy_17 ?_
      refine lv_aload_n hx hb dX13_canBy_18 rfl (lv_at hl 0 rfl) ?_
      rcases hN7 : gR M a0 3 with _ | b7
      · replace h := oc_n hN7 h
        refine r_get (T := TX13) (v := .null) hx hb hts in13 hown hK hP k0 (by decide) rfl 3 (by decide) (hts (.fieldLink RX13 431 "StoneWalkModel" "island" "LStoneWalkModel$Island;") (List.mem_of_getElem? (i := 1) (by decide +kernel))) rfl (t := 2) rfl (by show va_rf _ = _; rw [hN7]; rfl) dX13_canBy_19 ?_
        exact absurd h (by simp)
      · replace h := oc_s hN7 h
        have kb7 := hT.f k0 (k := 3) (t := 12) (n := 0) rfl hN7
        refine r_get (T := TX13) (v := .ref (ad b7)) hx hb hts in13 hown hK hP k0 (by decide) rfl 3 (by decide) (hts (.fieldLink RX13 431 "StoneWalkModel" "island" "LStoneWalkModel$Island;") (List.mem_of_getElem? (i := 1) (by decide +kernel))) rfl (t := 2) rfl (by show va_rf _ = _; rw [hN7]; rfl) dX13_canBy_19 ?_
        rcases hN8 : gR M b7 16 with _ | b8
        · exact absurd (oc_n hN8 h) (by simp)
        replace h := oc_s hN8 h
        have kb8 := hT.f kb7 (k := 16) (t := 15) (n := 10) rfl hN8
        refine r_getN (T := TX12) (v := .ref (ad b8)) hx hb hts in12 hown hK hP kb7 (by decide) rfl 16 (by decide) (hG.2.2.1 _ (List.mem_of_getElem? (i := 16) rfl)) rfl (t := 2) rfl (by show va_rf _ = _; rw [hN8]; rfl) dX13_canBy_22 ?_
        refine lv_iload_n hx hb dX13_canBy_25 rfl (lv_at hl 2 rfl) ?_
        obtain ⟨hn9, h⟩ := chk_some h
        refine r_iald hx hb hK hP kb8 hn9 dX13_canBy_26 ?_
        refine lv_aload_n hx hb dX13_canBy_27 rfl (lv_at hl 0 rfl) ?_
        rcases hN10 : gR M a0 3 with _ | b10
        · replace h := oc_n hN10 h
          refine r_get (T := TX13) (v := .null) hx hb hts in13 hown hK hP k0 (by decide) rfl 3 (by decide) (hts (.fieldLink RX13 431 "StoneWalkModel" "island" "LStoneWalkModel$Island;") (List.mem_of_getElem? (i := 1) (by decide +kernel))) rfl (t := 2) rfl (by show va_rf _ = _; rw [hN10]; rfl) dX13_canBy_28 ?_
          exact absurd h (by simp)
        · replace h := oc_s hN10 h
          have kb10 := hT.f k0 (k := 3) (t := 12) (n := 0) rfl hN10
          refine r_get (T := TX13) (v := .ref (ad b10)) hx hb hts in13 hown hK hP k0 (by decide) rfl 3 (by decide) (hts (.fieldLink RX13 431 "StoneWalkModel" "island" "LStoneWalkModel$Island;") (List.mem_of_getElem? (i := 1) (by decide +kernel))) rfl (t := 2) rfl (by show va_rf _ = _; rw [hN10]; rfl) dX13_canBy_28 ?_
          rcases hN11 : gR M b10 17 with _ | b11
          · exact absurd (oc_n hN11 h) (by simp)
          replace h := oc_s hN11 h
          have kb11 := hT.f kb10 (k := 17) (t := 15) (n := 10) rfl hN11
          refine r_getN (T := TX12) (v := .ref (ad b11)) hx hb hts in12 hown hK hP kb10 (by decide) rfl 17 (by decide) (hG.2.2.1 _ (List.mem_of_getElem? (i := 17) rfl)) rfl (t := 2) rfl (by show va_rf _ = _; rw [hN11]; rfl) dX13_canBy_31 ?_
          refine lv_iload_n hx hb dX13_canBy_34 rfl (lv_at hl 2 rfl) ?_
          obtain ⟨hn12, h⟩ := chk_some h
          refine r_iald hx hb hK hP kb11 hn12 dX13_canBy_35 ?_
          refine lv_iload_n hx hb dX13_canBy_36 rfl (lv_at hl 3 rfl) ?_
          obtain ⟨z13, h13, h⟩ := ob_some h
          refine k_z (va_runS (As := [.int (gI M b2 (ix x1)), .int (gI M b5 (ix x2)), .int (gI M b8 (ix x2)), .int (gI M b11 (ix x2)), .int x3]) (rest := []) ⟨hx, hb, hml, hown, hts⟩ (c_X13_canGo (l := l) M (gI M b2 (ix x1)) (gI M b5 (ix x2)) (gI M b8 (ix x2)) (gI M b11 (ix x2)) x3 h13) (va_cwS 5 hts gX13_canBy_X13_canGo rfl rfl rfl hdS_X13_canGo ⟨Nat.le_of_ble_eq_true rfl, Nat.le_of_ble_eq_true rfl⟩) (pS hP hK hD hT hG hS) rfl rfl hl.1 rfl (lv_room (Nat.le_of_ble_eq_true rfl)) dX13_canBy_37 ⟨Nat.zero_le _, Nat.zero_le _⟩) hS (fun H locs hz13 hP hD hT hS => ?_)
          exact r_zret hx hb hr hlocks hP hK hD hT hG hS hz13 (Option.some.inj h) rfl dX13_canBy_40
set_option maxHeartbeats 4000000 in
set_option maxRecDepth 100000 in
theorem c_X13_refusesSlope {l : Launch} {D : va_G} {ad : Nat → Nat} {cy : Nat → ClassId} {A : Nat → Prop} {g : CG} {q : SE} (M : MM) (a0 : Nat) (x1 : Int32) (x2 : Int32) (x3 : Int32) (k0 : ok g a0 13 0) {Z : Int32} (h : f_X13_refusesSlope M a0 x1 x2 x3 = some Z) : Met l yX13_refusesSlope wsX13_refusesSlope ({ frames := 1, cells := 0, slots := 0, locals := 22 }) (va_Pc [.ref (ad a0), .int x1, .int x2, .int x3] (Wd D ad cy A g q M)) (va_Qi (fun r u => r = Z ∧ u = M) (Wd D ad cy A g q) A) 0 0 A := by
  refine Met.ofW (cc := cX13_refusesSlope) (maxL := 4) (ret := (some .int)) (by decide) rfl ?_
  intro p e s m args below meth c s₁ B hml hv
  obtain ⟨rfl, hP, hK, hD, hT, hG⟩ := hv
  have hx := B.exec
  have hb := B.bytes
  have hr := B.returns
  have hts := atoms_spec (ws := wsX13_refusesSlope) B.pre
  have hown : s.vm.findClass RX13 = some m.cls := findClass_of_methodNamed B.named
  have hlocks := B.notSynchronized
  have hS : va_S A s.heap s.heap [] := va_S.rf
  have hl := lv_entry ([.ref (ad a0), .int x1, .int x2, .int x3]) (n := 4) (Nat.le_of_ble_eq_true rfl)
  rw [lg_entry_eq]
  generalize (lg_sl ([.ref (ad a0), .int x1, .int x2, .int x3]) ++ List.replicate (4 - (lg_sl ([.ref (ad a0), .int x1, .int x2, .int x3])).length) Slot.unset).toArray = ls at hl ⊢
  have hl : lv_has ls 4 [(0, .ref (ad a0)), (1, .int x1), (2, .int x2), (3, .int x3)] := hl
  unfold f_X13_refusesSlope at h
  refine lv_aload_n hx hb dX13_refusesSlope_0 rfl (lv_at hl 0 rfl) ?_
  refine lv_iload_n hx hb dX13_refusesSlope_1 rfl (lv_at hl 1 rfl) ?_
  obtain ⟨z1, h1, h⟩ := ob_some h
  refine k_z (va_runV (As := [.int x1]) (rest := []) ⟨hx, hb, hml, hown, hts⟩ (c_X13_isWay (l := l) M a0 x1 k0 h1) (cwV 1 hts gX13_refusesSlope_X13_isWay rfl rfl rfl hdV_X13_isWay ⟨Nat.le_of_ble_eq_true rfl, Nat.le_of_ble_eq_true rfl⟩) (pV (T := TX13) hP hK hD hT hG hS k0 (by decide) rfl) rfl rfl hl.1 rfl (lv_room (Nat.le_of_ble_eq_true rfl)) dX13_refusesSlope_2 ⟨Nat.zero_le _, Nat.zero_le _⟩) hS (fun H locs hz1 hP hD hT hS => ?_)
  refine lv_if_eq (tgt := 16) hx hb dX13_refusesSlope_5 rfl (fun c2 => ?_) (fun c2 => ?_)
  · replace h := ite_t c2 h
    refine lv_iconst (v := 1) hx hb dX13_refusesSlope_16 rfl ?_
    refine lv_goto (tgt := 36) hx hb dX13_refusesSlope_17 rfl ?_
    exact r_iret hx hb hr hlocks hP hK hD hT hG hS (Option.some.inj h) rfl dX13_refusesSlope_36
  · replace h := ite_f c2 h
    refine lv_aload_n hx hb dX13_refusesSlope_8 rfl (lv_at hl 0 rfl) ?_
    refine lv_iload_n hx hb dX13_refusesSlope_9 rfl (lv_at hl 2 rfl) ?_
    obtain ⟨z3, h3, h⟩ := ob_some h
    refine k_z (va_runV (As := [.int x2]) (rest := []) ⟨hx, hb, hml, hown, hts⟩ (c_X13_isStatue (l := l) M a0 x2 k0 h3) (cwV 1 hts gX13_refusesSlope_X13_isStatue rfl rfl rfl hdV_X13_isStatue ⟨Nat.le_of_ble_eq_true rfl, Nat.le_of_ble_eq_true rfl⟩) (pV (T := TX13) hP hK hD hT hG hS k0 (by decide) rfl) rfl rfl hl.1 rfl (lv_room (Nat.le_of_ble_eq_true rfl)) dX13_refusesSlope_10 ⟨Nat.zero_le _, Nat.zero_le _⟩) hS (fun H locs hz3 hP hD hT hS => ?_)
    refine lv_if_ne (tgt := 20) hx hb dX13_refusesSlope_13 rfl (fun c4 => ?_) (fun c4 => ?_)
    · replace h := ite_f c4 h
      refine lv_iload_n hx hb dX13_refusesSlope_20 rfl (lv_at hl 3 rfl) ?_
      refine lv_bipush (v := (-20)) hx hb dX13_refusesSlope_21 rfl ?_
      refine lv_bipush (v := 20) hx hb dX13_refusesSlope_23 rfl ?_
      obtain ⟨z5, h5, h⟩ := ob_some h
      refine k_z (va_runS (As := [.int x3, .int (-20), .int 20]) (rest := []) ⟨hx, hb, hml, hown, hts⟩ (c_X13_in (l := l) M x3 (-20) 20 h5) (va_cwS 3 hts gX13_refusesSlope_X13_in rfl rfl rfl hdS_X13_in ⟨Nat.le_of_ble_eq_true rfl, Nat.le_of_ble_eq_true rfl⟩) (pS hP hK hD hT hG hS) rfl rfl hl.1 rfl (lv_room (Nat.le_of_ble_eq_true rfl)) dX13_refusesSlope_25 ⟨Nat.zero_le _, Nat.zero_le _⟩) hS (fun H locs hz5 hP hD hT hS => ?_)
      refine lv_if_eq (tgt := 35) hx hb dX13_refusesSlope_28 rfl (fun c6 => ?_) (fun c6 => ?_)
      · replace h := ite_t c6 h
        refine lv_iconst (v := 2) hx hb dX13_refusesSlope_35 rfl ?_
        exact r_iret hx hb hr hlocks hP hK hD hT hG hS (Option.some.inj h) rfl dX13_refusesSlope_36
      · replace h := ite_f c6 h
        refine lv_iconst (v := 0) hx hb dX13_refusesSlope_31 rfl ?_
        refine lv_goto (tgt := 36) hx hb dX13_refusesSlope_32 rfl ?_
        exact r_iret hx hb hr hlocks hP hK hD hT hG hS (Option.some.inj h) rfl dX13_refusesSlope_36
    · replace h := ite_t c4 h
      refine lv_iconst (v := 1) hx hb dX13_refusesSlope_16 rfl ?_
      refine lv_goto (tgt := 36) hx hb dX13_refusesSlope_17 rfl ?_
      exact r_iret hx hb hr hlocks hP hK hD hT hG hS (Option.some.inj h) rfl dX13_refusesSlope_36
set_option maxHeartbeats 4000000 in
set_option maxRecDepth 100000 in
theorem c_X13_can {l : Launch} {D : va_G} {ad : Nat → Nat} {cy : Nat → ClassId} {A : Nat → Prop} {g : CG} {q : SE} (M : MM) (a0 : Nat) (x1 : Int32) (x2 : Int32) (x3 : Int32) (k0 : ok g a0 13 0) {Z : (Int32 × MM)} (h : f_X13_can M a0 x1 x2 x3 = some Z) : Met l yX13_can wsX13_can ({ frames := 3, cells := 0, slots := 0, locals := 69 }) (va_Pc [.ref (ad a0), .int x1, .int x2, .int x3] (Wd D ad cy A g q M)) (va_Qi (fun r u => r = Z.1 ∧ u = Z.2) (Wd D ad cy A g q) A) 0 0 A := by
  refine Met.ofW (cc := cX13_can) (maxL := 5) (ret := (some .int)) (by decide) rfl ?_
  intro p e s m args below meth c s₁ B hml hv
  obtain ⟨rfl, hP, hK, hD, hT, hG⟩ := hv
  have hx := B.exec
  have hb := B.bytes
  have hr := B.returns
  have hts := atoms_spec (ws := wsX13_can) B.pre
  have hown : s.vm.findClass RX13 = some m.cls := findClass_of_methodNamed B.named
  have hlocks := B.notSynchronized
  have in13 : ∀ w ∈ u_ws RX13 TX13 29, w ∈ wsX13_can := fun w h => List.mem_cons_of_mem _ (List.mem_append_left _ (List.mem_append_right _ h))
  have hS : va_S A s.heap s.heap [] := va_S.rf
  have hl := lv_entry ([.ref (ad a0), .int x1, .int x2, .int x3]) (n := 5) (Nat.le_of_ble_eq_true rfl)
  rw [lg_entry_eq]
  generalize (lg_sl ([.ref (ad a0), .int x1, .int x2, .int x3]) ++ List.replicate (5 - (lg_sl ([.ref (ad a0), .int x1, .int x2, .int x3])).length) Slot.unset).toArray = ls at hl ⊢
  have hl : lv_has ls 5 [(0, .ref (ad a0)), (1, .int x1), (2, .int x2), (3, .int x3)] := hl
  unfold f_X13_can at h
  refine lv_aload_n hx hb dX13_can_0 rfl (lv_at hl 0 rfl) ?_
  refine lv_iconst (v := 0) hx hb dX13_can_1 rfl ?_
  refine r_putI (T := TX13) (ty := .int) (v := 0) hx hb hts in13 tyX13 tyX13_ok nmX13 hown hK hP hD hT hS k0 (by decide) rfl 0 (by decide) (hts (.fieldLink RX13 30 "StoneWalkModel" "thrown" "I") (List.mem_of_getElem? (i := 1) (by decide +kernel))) rfl rfl (tyX13_ok 0 (by decide)) rfl rfl rfl dX13_can_2 (fun H locs hP hD hT hS => ?_)
  refine lv_aload_n hx hb dX13_can_5 rfl (lv_at hl 0 rfl) ?_
  refine lv_iload_n hx hb dX13_can_6 rfl (lv_at hl 1 rfl) ?_
  refine lv_iload_n hx hb dX13_can_7 rfl (lv_at hl 2 rfl) ?_
  refine lv_iload_n hx hb dX13_can_8 rfl (lv_at hl 3 rfl) ?_
  obtain ⟨z1, h1, h⟩ := ob_some h
  refine k_i (va_runV (As := [.int x1, .int x2, .int x3]) (rest := []) ⟨hx, hb, hml, hown, hts⟩ (c_X13_refusesSlope (l := l) (pI M a0 0 0) a0 x1 x2 x3 k0 h1) (cwV 3 hts gX13_can_X13_refusesSlope rfl rfl rfl hdV_X13_refusesSlope ⟨Nat.le_of_ble_eq_true rfl, Nat.le_of_ble_eq_true rfl⟩) (pV (T := TX13) hP hK hD hT hG hS k0 (by decide) rfl) rfl rfl hl.1 rfl (lv_room (Nat.le_of_ble_eq_true rfl)) dX13_can_9 ⟨Nat.zero_le _, Nat.zero_le _⟩) hS (fun H locs hP hD hT hS => ?_)
  refine lv_istore (lv' := [(4, .int z1), (0, .ref (ad a0)), (1, .int x1), (2, .int x2), (3, .int x3)]) hx hb dX13_can_12 hl (by decide) rfl (fun ls hl => ?_)
  refine lv_iload hx hb dX13_can_14 (lv_at hl 0 rfl) ?_
  refine lv_if_le (tgt := 28) hx hb dX13_can_16 rfl (fun c2 => ?_) (fun c2 => ?_)
  · replace h := ite_t c2 h
    refine lv_aload_n hx hb dX13_can_28 rfl (lv_at hl 1 rfl) ?_
    refine lv_aload_n hx hb dX13_can_29 rfl (lv_at hl 1 rfl) ?_
    refine lv_iload_n hx hb dX13_can_30 rfl (lv_at hl 2 rfl) ?_
    refine lv_iload_n hx hb dX13_can_31 rfl (lv_at hl 3 rfl) ?_
    refine lv_iload_n hx hb dX13_can_32 rfl (lv_at hl 4 rfl) ?_
    obtain ⟨z3, h3, h⟩ := ob_some h
    refine k_z (va_runV (As := [.int x1, .int x2, .int x3]) (rest := [.ref (ad a0)]) ⟨hx, hb, hml, hown, hts⟩ (c_X13_canBy (l := l) (pI M a0 0 0) a0 x1 x2 x3 k0 h3) (cwV 3 hts gX13_can_X13_canBy rfl rfl rfl hdV_X13_canBy ⟨Nat.le_of_ble_eq_true rfl, Nat.le_of_ble_eq_true rfl⟩) (pV (T := TX13) hP hK hD hT hG hS k0 (by decide) rfl) rfl rfl hl.1 rfl (lv_room (Nat.le_of_ble_eq_true rfl)) dX13_can_33 ⟨Nat.zero_le _, Nat.zero_le _⟩) hS (fun H locs hz3 hP hD hT hS => ?_)
    refine lv_if_eq (tgt := 43) hx hb dX13_can_36 rfl (fun c4 => ?_) (fun c4 => ?_)
    · replace h := ite_t c4 h
      refine lv_iconst (v := 0) hx hb dX13_can_43 rfl ?_
      obtain ⟨z5, h5, h⟩ := ob_some h
      refine k_i (va_runV (As := [.int 0]) (rest := []) ⟨hx, hb, hml, hown, hts⟩ (c_X13_done (l := l) (pI M a0 0 0) a0 0 k0 h5) (cwV 1 hts gX13_can_X13_done rfl rfl rfl hdV_X13_done ⟨Nat.le_of_ble_eq_true rfl, Nat.le_of_ble_eq_true rfl⟩) (pV (T := TX13) hP hK hD hT hG hS k0 (by decide) rfl) rfl rfl hl.1 rfl (lv_room (Nat.le_of_ble_eq_true rfl)) dX13_can_44 ⟨Nat.zero_le _, Nat.zero_le _⟩) hS (fun H locs hP hD hT hS => ?_)
      have hZ := Option.some.inj h
      exact r_iret hx hb hr hlocks hP hK hD hT hG hS (congrArg Prod.fst hZ) (congrArg Prod.snd hZ) dX13_can_47
    · replace h := ite_f c4 h
      refine lv_iconst (v := 1) hx hb dX13_can_39 rfl ?_
      refine lv_goto (tgt := 44) hx hb dX13_can_40 rfl ?_
      obtain ⟨z6, h6, h⟩ := ob_some h
      refine k_i (va_runV (As := [.int 1]) (rest := []) ⟨hx, hb, hml, hown, hts⟩ (c_X13_done (l := l) (pI M a0 0 0) a0 1 k0 h6) (cwV 1 hts gX13_can_X13_done rfl rfl rfl hdV_X13_done ⟨Nat.le_of_ble_eq_true rfl, Nat.le_of_ble_eq_true rfl⟩) (pV (T := TX13) hP hK hD hT hG hS k0 (by decide) rfl) rfl rfl hl.1 rfl (lv_room (Nat.le_of_ble_eq_true rfl)) dX13_can_44 ⟨Nat.zero_le _, Nat.zero_le _⟩) hS (fun H locs hP hD hT hS => ?_)
      have hZ := Option.some.inj h
      exact r_iret hx hb hr hlocks hP hK hD hT hG hS (congrArg Prod.fst hZ) (congrArg Prod.snd hZ) dX13_can_47
  · replace h := ite_f c2 h
    refine lv_aload_n hx hb dX13_can_19 rfl (lv_at hl 1 rfl) ?_
    refine lv_iload hx hb dX13_can_20 (lv_at hl 0 rfl) ?_
    obtain ⟨z7, h7, h⟩ := ob_some h
    refine k_i (va_runV (As := [.int z1]) (rest := []) ⟨hx, hb, hml, hown, hts⟩ (c_X13_refused (l := l) (pI M a0 0 0) a0 z1 k0 h7) (cwV 1 hts gX13_can_X13_refused rfl rfl rfl hdV_X13_refused ⟨Nat.le_of_ble_eq_true rfl, Nat.le_of_ble_eq_true rfl⟩) (pV (T := TX13) hP hK hD hT hG hS k0 (by decide) rfl) rfl rfl hl.1 rfl (lv_room (Nat.le_of_ble_eq_true rfl)) dX13_can_22 ⟨Nat.zero_le _, Nat.zero_le _⟩) hS (fun H locs hP hD hT hS => ?_)
    refine lv_goto (tgt := 47) hx hb dX13_can_25 rfl ?_
    have hZ := Option.some.inj h
    exact r_iret hx hb hr hlocks hP hK hD hT hG hS (congrArg Prod.fst hZ) (congrArg Prod.snd hZ) dX13_can_47
set_option maxHeartbeats 4000000 in
set_option maxRecDepth 100000 in
theorem c_X13_canOn {l : Launch} {D : va_G} {ad : Nat → Nat} {cy : Nat → ClassId} {A : Nat → Prop} {g : CG} {q : SE} (M : MM) (a0 : Nat) (x1 : Int32) (x2 : Int32) (x3 : Int32) (k0 : ok g a0 13 0) {Z : (Int32 × MM)} (h : f_X13_canOn M a0 x1 x2 x3 = some Z) : Met l yX13_canOn wsX13_canOn ({ frames := 3, cells := 0, slots := 0, locals := 69 }) (va_Pc [.ref (ad a0), .int x1, .int x2, .int x3] (Wd D ad cy A g q M)) (va_Qi (fun r u => r = Z.1 ∧ u = Z.2) (Wd D ad cy A g q) A) 0 0 A := by
  refine Met.ofW (cc := cX13_canOn) (maxL := 6) (ret := (some .int)) (by decide) rfl ?_
  intro p e s m args below meth c s₁ B hml hv
  obtain ⟨rfl, hP, hK, hD, hT, hG⟩ := hv
  have hx := B.exec
  have hb := B.bytes
  have hr := B.returns
  have hts := atoms_spec (ws := wsX13_canOn) B.pre
  have hown : s.vm.findClass RX13 = some m.cls := findClass_of_methodNamed B.named
  have hlocks := B.notSynchronized
  have in12 : ∀ w ∈ u_ws RX12 TX12 48, w ∈ wsX13_canOn := fun w h => List.mem_cons_of_mem _ (List.mem_append_right _ h)
  have in13 : ∀ w ∈ u_ws RX13 TX13 29, w ∈ wsX13_canOn := fun w h => List.mem_cons_of_mem _ (List.mem_append_left _ (List.mem_append_right _ h))
  have hS : va_S A s.heap s.heap [] := va_S.rf
  have hl := lv_entry ([.ref (ad a0), .int x1, .int x2, .int x3]) (n := 6) (Nat.le_of_ble_eq_true rfl)
  rw [lg_entry_eq]
  generalize (lg_sl ([.ref (ad a0), .int x1, .int x2, .int x3]) ++ List.replicate (6 - (lg_sl ([.ref (ad a0), .int x1, .int x2, .int x3])).length) Slot.unset).toArray = ls at hl ⊢
  have hl : lv_has ls 6 [(0, .ref (ad a0)), (1, .int x1), (2, .int x2), (3, .int x3)] := hl
  unfold f_X13_canOn at h
  refine lv_aload_n hx hb dX13_canOn_0 rfl (lv_at hl 0 rfl) ?_
  refine lv_iconst (v := 0) hx hb dX13_canOn_1 rfl ?_
  refine r_putI (T := TX13) (ty := .int) (v := 0) hx hb hts in13 tyX13 tyX13_ok nmX13 hown hK hP hD hT hS k0 (by decide) rfl 0 (by decide) (hts (.fieldLink RX13 30 "StoneWalkModel" "thrown" "I") (List.mem_of_getElem? (i := 1) (by decide +kernel))) rfl rfl (tyX13_ok 0 (by decide)) rfl rfl rfl dX13_canOn_2 (fun H locs hP hD hT hS => ?_)
  refine lv_aload_n hx hb dX13_canOn_5 rfl (lv_at hl 0 rfl) ?_
  refine lv_iload_n hx hb dX13_canOn_6 rfl (lv_at hl 1 rfl) ?_
  obtain ⟨z1, h1, h⟩ := ob_some h
  refine k_z (va_runV (As := [.int x1]) (rest := []) ⟨hx, hb, hml, hown, hts⟩ (c_X13_isWay (l := l) (pI M a0 0 0) a0 x1 k0 h1) (cwV 1 hts gX13_canOn_X13_isWay rfl rfl rfl hdV_X13_isWay ⟨Nat.le_of_ble_eq_true rfl, Nat.le_of_ble_eq_true rfl⟩) (pV (T := TX13) hP hK hD hT hG hS k0 (by decide) rfl) rfl rfl hl.1 rfl (lv_room (Nat.le_of_ble_eq_true rfl)) dX13_canOn_7 ⟨Nat.zero_le _, Nat.zero_le _⟩) hS (fun H locs hz1 hP hD hT hS => ?_)
  refine lv_if_eq (tgt := 29) hx hb dX13_canOn_10 rfl (fun c2 => ?_) (fun c2 => ?_)
  · replace h := ite_t c2 h
    refine lv_aload_n hx hb dX13_canOn_29 rfl (lv_at hl 0 rfl) ?_
    refine lv_iconst (v := 1) hx hb dX13_canOn_30 rfl ?_
    obtain ⟨z3, h3, h⟩ := ob_some h
    refine k_i (va_runV (As := [.int 1]) (rest := []) ⟨hx, hb, hml, hown, hts⟩ (c_X13_refused (l := l) (pI M a0 0 0) a0 1 k0 h3) (cwV 1 hts gX13_canOn_X13_refused rfl rfl rfl hdV_X13_refused ⟨Nat.le_of_ble_eq_true rfl, Nat.le_of_ble_eq_true rfl⟩) (pV (T := TX13) hP hK hD hT hG hS k0 (by decide) rfl) rfl rfl hl.1 rfl (lv_room (Nat.le_of_ble_eq_true rfl)) dX13_canOn_31 ⟨Nat.zero_le _, Nat.zero_le _⟩) hS (fun H locs hP hD hT hS => ?_)
    have hZ := Option.some.inj h
    exact r_iret hx hb hr hlocks hP hK hD hT hG hS (congrArg Prod.fst hZ) (congrArg Prod.snd hZ) dX13_canOn_34
  · replace h := ite_f c2 h
    refine lv_aload_n hx hb dX13_canOn_13 rfl (lv_at hl 0 rfl) ?_
    refine lv_iload_n hx hb dX13_canOn_14 rfl (lv_at hl 2 rfl) ?_
    obtain ⟨z4, h4, h⟩ := ob_some h
    refine k_z (va_runV (As := [.int x2]) (rest := []) ⟨hx, hb, hml, hown, hts⟩ (c_X13_isStatue (l := l) (pI M a0 0 0) a0 x2 k0 h4) (cwV 1 hts gX13_canOn_X13_isStatue rfl rfl rfl hdV_X13_isStatue ⟨Nat.le_of_ble_eq_true rfl, Nat.le_of_ble_eq_true rfl⟩) (pV (T := TX13) hP hK hD hT hG hS k0 (by decide) rfl) rfl rfl hl.1 rfl (lv_room (Nat.le_of_ble_eq_true rfl)) dX13_canOn_15 ⟨Nat.zero_le _, Nat.zero_le _⟩) hS (fun H locs hz4 hP hD hT hS => ?_)
    refine lv_if_eq (tgt := 29) hx hb dX13_canOn_18 rfl (fun c5 => ?_) (fun c5 => ?_)
    · replace h := ite_t c5 h
      refine lv_aload_n hx hb dX13_canOn_29 rfl (lv_at hl 0 rfl) ?_
      refine lv_iconst (v := 1) hx hb dX13_canOn_30 rfl ?_
      obtain ⟨z6, h6, h⟩ := ob_some h
      refine k_i (va_runV (As := [.int 1]) (rest := []) ⟨hx, hb, hml, hown, hts⟩ (c_X13_refused (l := l) (pI M a0 0 0) a0 1 k0 h6) (cwV 1 hts gX13_canOn_X13_refused rfl rfl rfl hdV_X13_refused ⟨Nat.le_of_ble_eq_true rfl, Nat.le_of_ble_eq_true rfl⟩) (pV (T := TX13) hP hK hD hT hG hS k0 (by decide) rfl) rfl rfl hl.1 rfl (lv_room (Nat.le_of_ble_eq_true rfl)) dX13_canOn_31 ⟨Nat.zero_le _, Nat.zero_le _⟩) hS (fun H locs hP hD hT hS => ?_)
      have hZ := Option.some.inj h
      exact r_iret hx hb hr hlocks hP hK hD hT hG hS (congrArg Prod.fst hZ) (congrArg Prod.snd hZ) dX13_canOn_34
    · replace h := ite_f c5 h
      refine lv_aload_n hx hb dX13_canOn_21 rfl (lv_at hl 0 rfl) ?_
      refine lv_iload_n hx hb dX13_canOn_22 rfl (lv_at hl 3 rfl) ?_
      obtain ⟨z7, h7, h⟩ := ob_some h
      refine k_z (va_runV (As := [.int x3]) (rest := []) ⟨hx, hb, hml, hown, hts⟩ (c_X13_isRoad (l := l) (pI M a0 0 0) a0 x3 k0 h7) (cwV 1 hts gX13_canOn_X13_isRoad rfl rfl rfl hdV_X13_isRoad ⟨Nat.le_of_ble_eq_true rfl, Nat.le_of_ble_eq_true rfl⟩) (pV (T := TX13) hP hK hD hT hG hS k0 (by decide) rfl) rfl rfl hl.1 rfl (lv_room (Nat.le_of_ble_eq_true rfl)) dX13_canOn_23 ⟨Nat.zero_le _, Nat.zero_le _⟩) hS (fun H locs hz7 hP hD hT hS => ?_)
      refine lv_if_ne (tgt := 35) hx hb dX13_canOn_26 rfl (fun c8 => ?_) (fun c8 => ?_)
      · replace h := ite_f c8 h
        refine lv_iconst (v := 0) hx hb dX13_canOn_35 rfl ?_
        refine lv_istore (lv' := [(4, .int 0), (0, .ref (ad a0)), (1, .int x1), (2, .int x2), (3, .int x3)]) hx hb dX13_canOn_36 hl (by decide) rfl (fun ls hl => ?_)
        refine lv_iconst (v := 0) hx hb dX13_canOn_38 rfl ?_
        refine lv_istore (lv' := [(5, .int 0), (4, .int 0), (0, .ref (ad a0)), (1, .int x1), (2, .int x2), (3, .int x3)]) hx hb dX13_canOn_39 hl (by decide) rfl (fun ls hl => ?_)
        have L9 : ∀ n9 : Nat, ∀ (M9 : MM) (y9_0 : Nat) (y9_1 : Int32) (y9_2 : Int32) (y9_3 : Int32) (y9_4 : Int32) (y9_5 : Int32) (ky9_0 : ok g y9_0 13 0) (H : Heap) (locs : List Loc), f_X13_canOn_L41 n9 M9 y9_0 y9_1 y9_2 y9_3 y9_4 y9_5 = some Z → va_P D vwCl (wd ad cy g M9) H → va_D A (wd ad cy g M9) → WT g M9 → va_S A s.heap H locs → ∀ (ls : Array Slot), lv_has ls 6 [(0, .ref (ad y9_0)), (1, .int y9_1), (2, .int y9_2), (3, .int y9_3), (4, .int y9_4), (5, .int y9_5)] → W p l e ((headSpec wsX13_canOn ({ frames := 3, cells := 0, slots := 0, locals := 69 })).room) s m (([.ref (ad a0), .int x1, .int x2, .int x3] : List Value).toArray) below meth c H locs 0 0 (MQ below (va_Qi (fun r u => r = Z.1 ∧ u = Z.2) (Wd D ad cy A g q) A) ([.ref (ad a0), .int x1, .int x2, .int x3]).toArray s 0 0 A) (F0 m 41 ls []) := by
          intro n9
          induction n9 with
          | zero => intro M9 y9_0 y9_1 y9_2 y9_3 y9_4 y9_5 ky9_0 H locs h; exact absurd h (by simp [f_X13_canOn_L41])
          | succ n9 ih9 =>
            intro M9 y9_0 y9_1 y9_2 y9_3 y9_4 y9_5 ky9_0 H locs h hP hD hT hS ls hl
            rw [f_X13_canOn_L41] at h
            refine lv_iload hx hb dX13_canOn_41 (lv_at hl 5 rfl) ?_
            refine lv_aload_n hx hb dX13_canOn_43 rfl (lv_at hl 0 rfl) ?_
            rcases hN10 : gR M9 y9_0 3 with _ | b10
            · replace h := oc_n hN10 h
              refine r_get (T := TX13) (v := .null) hx hb hts in13 hown hK hP ky9_0 (by decide) rfl 3 (by decide) (hts (.fieldLink RX13 431 "StoneWalkModel" "island" "LStoneWalkModel$Island;") (List.mem_of_getElem? (i := 2) (by decide +kernel))) rfl (t := 2) rfl (by show va_rf _ = _; rw [hN10]; rfl) dX13_canOn_44 ?_
              exact absurd h (by simp)
            · replace h := oc_s hN10 h
              have kb10 := hT.f ky9_0 (k := 3) (t := 12) (n := 0) rfl hN10
              refine r_get (T := TX13) (v := .ref (ad b10)) hx hb hts in13 hown hK hP ky9_0 (by decide) rfl 3 (by decide) (hts (.fieldLink RX13 431 "StoneWalkModel" "island" "LStoneWalkModel$Island;") (List.mem_of_getElem? (i := 2) (by decide +kernel))) rfl (t := 2) rfl (by show va_rf _ = _; rw [hN10]; rfl) dX13_canOn_44 ?_
              rcases hN11 : gR M9 b10 13 with _ | b11
              · exact absurd (oc_n hN11 h) (by simp)
              replace h := oc_s hN11 h
              have kb11 := hT.f kb10 (k := 13) (t := 15) (n := 3) rfl hN11
              refine r_getN (T := TX12) (v := .ref (ad b11)) hx hb hts in12 hown hK hP kb10 (by decide) rfl 13 (by decide) (hG.2.2.1 _ (List.mem_of_getElem? (i := 13) rfl)) rfl (t := 2) rfl (by show va_rf _ = _; rw [hN11]; rfl) dX13_canOn_47 ?_
              refine lv_iload_n hx hb dX13_canOn_50 rfl (lv_at hl 3 rfl) ?_
              obtain ⟨hn12, h⟩ := chk_some h
              refine r_iald hx hb hK hP kb11 hn12 dX13_canOn_51 ?_
              refine lv_icmp_ge (tgt := 93) hx hb dX13_canOn_52 rfl (fun c13 => ?_) (fun c13 => ?_)
              · replace h := ite_t c13 h
                refine lv_aload_n hx hb dX13_canOn_93 rfl (lv_at hl 0 rfl) ?_
                refine lv_iload hx hb dX13_canOn_94 (lv_at hl 4 rfl) ?_
                obtain ⟨z14, h14, h⟩ := ob_some h
                refine k_i (va_runV (As := [.int y9_4]) (rest := []) ⟨hx, hb, hml, hown, hts⟩ (c_X13_done (l := l) M9 y9_0 y9_4 ky9_0 h14) (cwV 1 hts gX13_canOn_X13_done rfl rfl rfl hdV_X13_done ⟨Nat.le_of_ble_eq_true rfl, Nat.le_of_ble_eq_true rfl⟩) (pV (T := TX13) hP hK hD hT hG hS ky9_0 (by decide) rfl) rfl rfl hl.1 rfl (lv_room (Nat.le_of_ble_eq_true rfl)) dX13_canOn_96 ⟨Nat.zero_le _, Nat.zero_le _⟩) hS (fun H locs hP hD hT hS => ?_)
                have hZ := Option.some.inj h
                exact r_iret hx hb hr hlocks hP hK hD hT hG hS (congrArg Prod.fst hZ) (congrArg Prod.snd hZ) dX13_canOn_99
              · replace h := ite_f c13 h
                refine lv_iload hx hb dX13_canOn_55 (lv_at hl 4 rfl) ?_
                refine lv_aload_n hx hb dX13_canOn_57 rfl (lv_at hl 0 rfl) ?_
                refine lv_iload_n hx hb dX13_canOn_58 rfl (lv_at hl 1 rfl) ?_
                refine lv_iload_n hx hb dX13_canOn_59 rfl (lv_at hl 2 rfl) ?_
                refine lv_aload_n hx hb dX13_canOn_60 rfl (lv_at hl 0 rfl) ?_
                rcases hN15 : gR M9 y9_0 3 with _ | b15
                · replace h := oc_n hN15 h
                  refine r_get (T := TX13) (v := .null) hx hb hts in13 hown hK hP ky9_0 (by decide) rfl 3 (by decide) (hts (.fieldLink RX13 431 "StoneWalkModel" "island" "LStoneWalkModel$Island;") (List.mem_of_getElem? (i := 2) (by decide +kernel))) rfl (t := 2) rfl (by show va_rf _ = _; rw [hN15]; rfl) dX13_canOn_61 ?_
                  refine lv_iload_n hx hb dX13_canOn_64 rfl (lv_at hl 3 rfl) ?_
                  refine lv_iload hx hb dX13_canOn_65 (lv_at hl 5 rfl) ?_
                  exact absurd h (by simp)
                · replace h := oc_s hN15 h
                  have kb15 := hT.f ky9_0 (k := 3) (t := 12) (n := 0) rfl hN15
                  refine r_get (T := TX13) (v := .ref (ad b15)) hx hb hts in13 hown hK hP ky9_0 (by decide) rfl 3 (by decide) (hts (.fieldLink RX13 431 "StoneWalkModel" "island" "LStoneWalkModel$Island;") (List.mem_of_getElem? (i := 2) (by decide +kernel))) rfl (t := 2) rfl (by show va_rf _ = _; rw [hN15]; rfl) dX13_canOn_61 ?_
                  refine lv_iload_n hx hb dX13_canOn_64 rfl (lv_at hl 3 rfl) ?_
                  refine lv_iload hx hb dX13_canOn_65 (lv_at hl 5 rfl) ?_
                  obtain ⟨z16, h16, h⟩ := ob_some h
                  refine k_i (va_runV (As := [.int y9_3, .int y9_5]) (rest := [.int y9_2, .int y9_1, .ref (ad y9_0), .int y9_4]) ⟨hx, hb, hml, hown, hts⟩ (c_X12_slopeAt (l := l) M9 b15 y9_3 y9_5 kb15 h16) (cwV 2 hts gX13_canOn_X12_slopeAt rfl rfl rfl hdV_X12_slopeAt ⟨Nat.le_of_ble_eq_true rfl, Nat.le_of_ble_eq_true rfl⟩) (pV (T := TX12) hP hK hD hT hG hS kb15 (by decide) rfl) rfl rfl hl.1 rfl (lv_room (Nat.le_of_ble_eq_true rfl)) dX13_canOn_67 ⟨Nat.zero_le _, Nat.zero_le _⟩) hS (fun H locs hP hD hT hS => ?_)
                  obtain ⟨z17, h17, h⟩ := ob_some h
                  refine k_z (va_runV (As := [.int y9_1, .int y9_2, .int z16]) (rest := [.int y9_4]) ⟨hx, hb, hml, hown, hts⟩ (c_X13_canBy (l := l) M9 y9_0 y9_1 y9_2 z16 ky9_0 h17) (cwV 3 hts gX13_canOn_X13_canBy rfl rfl rfl hdV_X13_canBy ⟨Nat.le_of_ble_eq_true rfl, Nat.le_of_ble_eq_true rfl⟩) (pV (T := TX13) hP hK hD hT hG hS ky9_0 (by decide) rfl) rfl rfl hl.1 rfl (lv_room (Nat.le_of_ble_eq_true rfl)) dX13_canOn_70 ⟨Nat.zero_le _, Nat.zero_le _⟩) hS (fun H locs hz17 hP hD hT hS => ?_)
                  refine lv_if_eq (tgt := 83) hx hb dX13_canOn_73 rfl (fun c18 => ?_) (fun c18 => ?_)
                  · replace h := ite_t c18 h
                    refine lv_iconst (v := 0) hx hb dX13_canOn_83 rfl ?_
                    refine lv_ior hx hb dX13_canOn_84 ?_
                    refine lv_istore (lv' := [(4, .int (y9_4 ||| 0)), (0, .ref (ad y9_0)), (1, .int y9_1), (2, .int y9_2), (3, .int y9_3), (5, .int y9_5)]) hx hb dX13_canOn_85 hl (by decide) rfl (fun ls hl => ?_)
                    refine lv_iinc (v := y9_5 + 1) (lv' := [(5, .int (y9_5 + 1)), (4, .int (y9_4 ||| 0)), (0, .ref (ad y9_0)), (1, .int y9_1), (2, .int y9_2), (3, .int y9_3)]) hx hb dX13_canOn_87 hl (k := 5) rfl rfl (by decide) rfl (fun ls hl => ?_)
                    refine lv_goto (tgt := 41) hx hb dX13_canOn_90 rfl ?_
                    exact ih9 M9 y9_0 y9_1 y9_2 y9_3 (y9_4 ||| 0) (y9_5 + 1) ky9_0 _ _ h hP hD hT hS ls (lv_sub hl [2, 3, 4, 5, 1, 0] rfl)
                  · replace h := ite_f c18 h
                    refine lv_iconst (v := 1) hx hb dX13_canOn_76 rfl ?_
                    refine lv_iload hx hb dX13_canOn_77 (lv_at hl 5 rfl) ?_
                    refine lv_ishl hx hb dX13_canOn_79 ?_
                    refine lv_goto (tgt := 84) hx hb dX13_canOn_80 rfl ?_
                    refine lv_ior hx hb dX13_canOn_84 ?_
                    refine lv_istore (lv' := [(4, .int (y9_4 ||| (1 <<< (y9_5 &&& 31)))), (0, .ref (ad y9_0)), (1, .int y9_1), (2, .int y9_2), (3, .int y9_3), (5, .int y9_5)]) hx hb dX13_canOn_85 hl (by decide) rfl (fun ls hl => ?_)
                    refine lv_iinc (v := y9_5 + 1) (lv' := [(5, .int (y9_5 + 1)), (4, .int (y9_4 ||| (1 <<< (y9_5 &&& 31)))), (0, .ref (ad y9_0)), (1, .int y9_1), (2, .int y9_2), (3, .int y9_3)]) hx hb dX13_canOn_87 hl (k := 5) rfl rfl (by decide) rfl (fun ls hl => ?_)
                    refine lv_goto (tgt := 41) hx hb dX13_canOn_90 rfl ?_
                    exact ih9 M9 y9_0 y9_1 y9_2 y9_3 (y9_4 ||| (1 <<< (y9_5 &&& 31))) (y9_5 + 1) ky9_0 _ _ h hP hD hT hS ls (lv_sub hl [2, 3, 4, 5, 1, 0] rfl)
        exact L9 FU (pI M a0 0 0) a0 x1 x2 x3 0 0 k0 _ _ h hP hD hT hS ls (lv_sub hl [2, 3, 4, 5, 1, 0] rfl)
      · replace h := ite_t c8 h
        refine lv_aload_n hx hb dX13_canOn_29 rfl (lv_at hl 0 rfl) ?_
        refine lv_iconst (v := 1) hx hb dX13_canOn_30 rfl ?_
        obtain ⟨z19, h19, h⟩ := ob_some h
        refine k_i (va_runV (As := [.int 1]) (rest := []) ⟨hx, hb, hml, hown, hts⟩ (c_X13_refused (l := l) (pI M a0 0 0) a0 1 k0 h19) (cwV 1 hts gX13_canOn_X13_refused rfl rfl rfl hdV_X13_refused ⟨Nat.le_of_ble_eq_true rfl, Nat.le_of_ble_eq_true rfl⟩) (pV (T := TX13) hP hK hD hT hG hS k0 (by decide) rfl) rfl rfl hl.1 rfl (lv_room (Nat.le_of_ble_eq_true rfl)) dX13_canOn_31 ⟨Nat.zero_le _, Nat.zero_le _⟩) hS (fun H locs hP hD hT hS => ?_)
        have hZ := Option.some.inj h
        exact r_iret hx hb hr hlocks hP hK hD hT hG hS (congrArg Prod.fst hZ) (congrArg Prod.snd hZ) dX13_canOn_34
set_option maxHeartbeats 4000000 in
set_option maxRecDepth 100000 in
theorem c_X13_steepest {l : Launch} {D : va_G} {ad : Nat → Nat} {cy : Nat → ClassId} {A : Nat → Prop} {g : CG} {q : SE} (M : MM) (a0 : Nat) (x1 : Int32) (x2 : Int32) (x3 : Int32) (k0 : ok g a0 13 0) {Z : (Int32 × MM)} (h : f_X13_steepest M a0 x1 x2 x3 = some Z) : Met l yX13_steepest wsX13_steepest ({ frames := 3, cells := 0, slots := 0, locals := 69 }) (va_Pc [.ref (ad a0), .int x1, .int x2, .int x3] (Wd D ad cy A g q M)) (va_Qi (fun r u => r = Z.1 ∧ u = Z.2) (Wd D ad cy A g q) A) 0 0 A := by
  refine Met.ofW (cc := cX13_steepest) (maxL := 6) (ret := (some .int)) (by decide) rfl ?_
  intro p e s m args below meth c s₁ B hml hv
  obtain ⟨rfl, hP, hK, hD, hT, hG⟩ := hv
  have hx := B.exec
  have hb := B.bytes
  have hr := B.returns
  have hts := atoms_spec (ws := wsX13_steepest) B.pre
  have hown : s.vm.findClass RX13 = some m.cls := findClass_of_methodNamed B.named
  have hlocks := B.notSynchronized
  have in13 : ∀ w ∈ u_ws RX13 TX13 29, w ∈ wsX13_steepest := fun w h => List.mem_cons_of_mem _ (List.mem_append_left _ (List.mem_append_right _ h))
  have hS : va_S A s.heap s.heap [] := va_S.rf
  have hl := lv_entry ([.ref (ad a0), .int x1, .int x2, .int x3]) (n := 6) (Nat.le_of_ble_eq_true rfl)
  rw [lg_entry_eq]
  generalize (lg_sl ([.ref (ad a0), .int x1, .int x2, .int x3]) ++ List.replicate (6 - (lg_sl ([.ref (ad a0), .int x1, .int x2, .int x3])).length) Slot.unset).toArray = ls at hl ⊢
  have hl : lv_has ls 6 [(0, .ref (ad a0)), (1, .int x1), (2, .int x2), (3, .int x3)] := hl
  unfold f_X13_steepest at h
  refine lv_aload_n hx hb dX13_steepest_0 rfl (lv_at hl 0 rfl) ?_
  refine lv_iconst (v := 0) hx hb dX13_steepest_1 rfl ?_
  refine r_putI (T := TX13) (ty := .int) (v := 0) hx hb hts in13 tyX13 tyX13_ok nmX13 hown hK hP hD hT hS k0 (by decide) rfl 0 (by decide) (hts (.fieldLink RX13 30 "StoneWalkModel" "thrown" "I") (List.mem_of_getElem? (i := 1) (by decide +kernel))) rfl rfl (tyX13_ok 0 (by decide)) rfl rfl rfl dX13_steepest_2 (fun H locs hP hD hT hS => ?_)
  refine lv_aload_n hx hb dX13_steepest_5 rfl (lv_at hl 0 rfl) ?_
  refine lv_iload_n hx hb dX13_steepest_6 rfl (lv_at hl 1 rfl) ?_
  obtain ⟨z1, h1, h⟩ := ob_some h
  refine k_z (va_runV (As := [.int x1]) (rest := []) ⟨hx, hb, hml, hown, hts⟩ (c_X13_isWay (l := l) (pI M a0 0 0) a0 x1 k0 h1) (cwV 1 hts gX13_steepest_X13_isWay rfl rfl rfl hdV_X13_isWay ⟨Nat.le_of_ble_eq_true rfl, Nat.le_of_ble_eq_true rfl⟩) (pV (T := TX13) hP hK hD hT hG hS k0 (by decide) rfl) rfl rfl hl.1 rfl (lv_room (Nat.le_of_ble_eq_true rfl)) dX13_steepest_7 ⟨Nat.zero_le _, Nat.zero_le _⟩) hS (fun H locs hz1 hP hD hT hS => ?_)
  refine lv_if_eq (tgt := 21) hx hb dX13_steepest_10 rfl (fun c2 => ?_) (fun c2 => ?_)
  · replace h := ite_t c2 h
    refine lv_aload_n hx hb dX13_steepest_21 rfl (lv_at hl 0 rfl) ?_
    refine lv_iconst (v := 1) hx hb dX13_steepest_22 rfl ?_
    obtain ⟨z3, h3, h⟩ := ob_some h
    refine k_i (va_runV (As := [.int 1]) (rest := []) ⟨hx, hb, hml, hown, hts⟩ (c_X13_lost (l := l) (pI M a0 0 0) a0 1 k0 h3) (cwV 1 hts gX13_steepest_X13_lost rfl rfl rfl hdV_X13_lost ⟨Nat.le_of_ble_eq_true rfl, Nat.le_of_ble_eq_true rfl⟩) (pV (T := TX13) hP hK hD hT hG hS k0 (by decide) rfl) rfl rfl hl.1 rfl (lv_room (Nat.le_of_ble_eq_true rfl)) dX13_steepest_23 ⟨Nat.zero_le _, Nat.zero_le _⟩) hS (fun H locs hP hD hT hS => ?_)
    have hZ := Option.some.inj h
    exact r_iret hx hb hr hlocks hP hK hD hT hG hS (congrArg Prod.fst hZ) (congrArg Prod.snd hZ) dX13_steepest_26
  · replace h := ite_f c2 h
    refine lv_aload_n hx hb dX13_steepest_13 rfl (lv_at hl 0 rfl) ?_
    refine lv_iload_n hx hb dX13_steepest_14 rfl (lv_at hl 2 rfl) ?_
    obtain ⟨z4, h4, h⟩ := ob_some h
    refine k_z (va_runV (As := [.int x2]) (rest := []) ⟨hx, hb, hml, hown, hts⟩ (c_X13_isStatue (l := l) (pI M a0 0 0) a0 x2 k0 h4) (cwV 1 hts gX13_steepest_X13_isStatue rfl rfl rfl hdV_X13_isStatue ⟨Nat.le_of_ble_eq_true rfl, Nat.le_of_ble_eq_true rfl⟩) (pV (T := TX13) hP hK hD hT hG hS k0 (by decide) rfl) rfl rfl hl.1 rfl (lv_room (Nat.le_of_ble_eq_true rfl)) dX13_steepest_15 ⟨Nat.zero_le _, Nat.zero_le _⟩) hS (fun H locs hz4 hP hD hT hS => ?_)
    refine lv_if_ne (tgt := 27) hx hb dX13_steepest_18 rfl (fun c5 => ?_) (fun c5 => ?_)
    · replace h := ite_f c5 h
      refine lv_iconst (v := 0) hx hb dX13_steepest_27 rfl ?_
      refine lv_istore (lv' := [(4, .int 0), (0, .ref (ad a0)), (1, .int x1), (2, .int x2), (3, .int x3)]) hx hb dX13_steepest_28 hl (by decide) rfl (fun ls hl => ?_)
      have L6 : ∀ n6 : Nat, ∀ (M6 : MM) (y6_0 : Nat) (y6_1 : Int32) (y6_2 : Int32) (y6_3 : Int32) (y6_4 : Int32) (ky6_0 : ok g y6_0 13 0) (H : Heap) (locs : List Loc), f_X13_steepest_L30 n6 M6 y6_0 y6_1 y6_2 y6_3 y6_4 = some Z → va_P D vwCl (wd ad cy g M6) H → va_D A (wd ad cy g M6) → WT g M6 → va_S A s.heap H locs → ∀ (ls : Array Slot), lv_has ls 6 [(0, .ref (ad y6_0)), (1, .int y6_1), (2, .int y6_2), (3, .int y6_3), (4, .int y6_4)] → W p l e ((headSpec wsX13_steepest ({ frames := 3, cells := 0, slots := 0, locals := 69 })).room) s m (([.ref (ad a0), .int x1, .int x2, .int x3] : List Value).toArray) below meth c H locs 0 0 (MQ below (va_Qi (fun r u => r = Z.1 ∧ u = Z.2) (Wd D ad cy A g q) A) ([.ref (ad a0), .int x1, .int x2, .int x3]).toArray s 0 0 A) (F0 m 30 ls []) := by
        intro n6
        induction n6 with
        | zero => intro M6 y6_0 y6_1 y6_2 y6_3 y6_4 ky6_0 H locs h; exact absurd h (by simp [f_X13_steepest_L30])
        | succ n6 ih6 =>
          intro M6 y6_0 y6_1 y6_2 y6_3 y6_4 ky6_0 H locs h hP hD hT hS ls hl
          rw [f_X13_steepest_L30] at h
          refine lv_iload hx hb dX13_steepest_30 (lv_at hl 4 rfl) ?_
          refine lv_bipush (v := 40) hx hb dX13_steepest_32 rfl ?_
          refine lv_icmp_gt (tgt := 80) hx hb dX13_steepest_34 rfl (fun c7 => ?_) (fun c7 => ?_)
          · replace h := ite_t c7 h
            refine lv_aload_n hx hb dX13_steepest_80 rfl (lv_at hl 0 rfl) ?_
            refine lv_bipush (v := (-100)) hx hb dX13_steepest_81 rfl ?_
            obtain ⟨z8, h8, h⟩ := ob_some h
            refine k_i (va_runV (As := [.int (-100)]) (rest := []) ⟨hx, hb, hml, hown, hts⟩ (c_X13_done (l := l) M6 y6_0 (-100) ky6_0 h8) (cwV 1 hts gX13_steepest_X13_done rfl rfl rfl hdV_X13_done ⟨Nat.le_of_ble_eq_true rfl, Nat.le_of_ble_eq_true rfl⟩) (pV (T := TX13) hP hK hD hT hG hS ky6_0 (by decide) rfl) rfl rfl hl.1 rfl (lv_room (Nat.le_of_ble_eq_true rfl)) dX13_steepest_83 ⟨Nat.zero_le _, Nat.zero_le _⟩) hS (fun H locs hP hD hT hS => ?_)
            have hZ := Option.some.inj h
            exact r_iret hx hb hr hlocks hP hK hD hT hG hS (congrArg Prod.fst hZ) (congrArg Prod.snd hZ) dX13_steepest_86
          · replace h := ite_f c7 h
            refine lv_iload_n hx hb dX13_steepest_37 rfl (lv_at hl 3 rfl) ?_
            refine lv_if_eq (tgt := 49) hx hb dX13_steepest_38 rfl (fun c9 => ?_) (fun c9 => ?_)
            · replace h := ite_t c9 h
              refine lv_bipush (v := 20) hx hb dX13_steepest_49 rfl ?_
              refine lv_iload hx hb dX13_steepest_51 (lv_at hl 4 rfl) ?_
              refine lv_isub hx hb dX13_steepest_53 ?_
              refine lv_istore (lv' := [(5, .int (20 - y6_4)), (0, .ref (ad y6_0)), (1, .int y6_1), (2, .int y6_2), (3, .int y6_3), (4, .int y6_4)]) hx hb dX13_steepest_54 hl (by decide) rfl (fun ls hl => ?_)
              refine lv_aload_n hx hb dX13_steepest_56 rfl (lv_at hl 1 rfl) ?_
              refine lv_iload_n hx hb dX13_steepest_57 rfl (lv_at hl 2 rfl) ?_
              refine lv_iload_n hx hb dX13_steepest_58 rfl (lv_at hl 3 rfl) ?_
              refine lv_iload hx hb dX13_steepest_59 (lv_at hl 0 rfl) ?_
              obtain ⟨z10, h10, h⟩ := ob_some h
              refine k_z (va_runV (As := [.int y6_1, .int y6_2, .int (20 - y6_4)]) (rest := []) ⟨hx, hb, hml, hown, hts⟩ (c_X13_canBy (l := l) M6 y6_0 y6_1 y6_2 (20 - y6_4) ky6_0 h10) (cwV 3 hts gX13_steepest_X13_canBy rfl rfl rfl hdV_X13_canBy ⟨Nat.le_of_ble_eq_true rfl, Nat.le_of_ble_eq_true rfl⟩) (pV (T := TX13) hP hK hD hT hG hS ky6_0 (by decide) rfl) rfl rfl hl.1 rfl (lv_room (Nat.le_of_ble_eq_true rfl)) dX13_steepest_61 ⟨Nat.zero_le _, Nat.zero_le _⟩) hS (fun H locs hz10 hP hD hT hS => ?_)
              refine lv_if_eq (tgt := 74) hx hb dX13_steepest_64 rfl (fun c11 => ?_) (fun c11 => ?_)
              · replace h := ite_t c11 h
                refine lv_iinc (v := y6_4 + 1) (lv' := [(4, .int (y6_4 + 1)), (5, .int (20 - y6_4)), (0, .ref (ad y6_0)), (1, .int y6_1), (2, .int y6_2), (3, .int y6_3)]) hx hb dX13_steepest_74 hl (k := 5) rfl rfl (by decide) rfl (fun ls hl => ?_)
                refine lv_goto (tgt := 30) hx hb dX13_steepest_77 rfl ?_
                exact ih6 M6 y6_0 y6_1 y6_2 y6_3 (y6_4 + 1) ky6_0 _ _ h hP hD hT hS ls (lv_sub hl [2, 3, 4, 5, 0] rfl)
              · replace h := ite_f c11 h
                refine lv_aload_n hx hb dX13_steepest_67 rfl (lv_at hl 1 rfl) ?_
                refine lv_iload hx hb dX13_steepest_68 (lv_at hl 0 rfl) ?_
                obtain ⟨z12, h12, h⟩ := ob_some h
                refine k_i (va_runV (As := [.int (20 - y6_4)]) (rest := []) ⟨hx, hb, hml, hown, hts⟩ (c_X13_done (l := l) M6 y6_0 (20 - y6_4) ky6_0 h12) (cwV 1 hts gX13_steepest_X13_done rfl rfl rfl hdV_X13_done ⟨Nat.le_of_ble_eq_true rfl, Nat.le_of_ble_eq_true rfl⟩) (pV (T := TX13) hP hK hD hT hG hS ky6_0 (by decide) rfl) rfl rfl hl.1 rfl (lv_room (Nat.le_of_ble_eq_true rfl)) dX13_steepest_70 ⟨Nat.zero_le _, Nat.zero_le _⟩) hS (fun H locs hP hD hT hS => ?_)
                have hZ := Option.some.inj h
                exact r_iret hx hb hr hlocks hP hK hD hT hG hS (congrArg Prod.fst hZ) (congrArg Prod.snd hZ) dX13_steepest_73
            · replace h := ite_f c9 h
              refine lv_iload hx hb dX13_steepest_41 (lv_at hl 4 rfl) ?_
              refine lv_bipush (v := 20) hx hb dX13_steepest_43 rfl ?_
              refine lv_isub hx hb dX13_steepest_45 ?_
              refine lv_goto (tgt := 54) hx hb dX13_steepest_46 rfl ?_
              refine lv_istore (lv' := [(5, .int (y6_4 - 20)), (0, .ref (ad y6_0)), (1, .int y6_1), (2, .int y6_2), (3, .int y6_3), (4, .int y6_4)]) hx hb dX13_steepest_54 hl (by decide) rfl (fun ls hl => ?_)
              refine lv_aload_n hx hb dX13_steepest_56 rfl (lv_at hl 1 rfl) ?_
              refine lv_iload_n hx hb dX13_steepest_57 rfl (lv_at hl 2 rfl) ?_
              refine lv_iload_n hx hb dX13_steepest_58 rfl (lv_at hl 3 rfl) ?_
              refine lv_iload hx hb dX13_steepest_59 (lv_at hl 0 rfl) ?_
              obtain ⟨z13, h13, h⟩ := ob_some h
              refine k_z (va_runV (As := [.int y6_1, .int y6_2, .int (y6_4 - 20)]) (rest := []) ⟨hx, hb, hml, hown, hts⟩ (c_X13_canBy (l := l) M6 y6_0 y6_1 y6_2 (y6_4 - 20) ky6_0 h13) (cwV 3 hts gX13_steepest_X13_canBy rfl rfl rfl hdV_X13_canBy ⟨Nat.le_of_ble_eq_true rfl, Nat.le_of_ble_eq_true rfl⟩) (pV (T := TX13) hP hK hD hT hG hS ky6_0 (by decide) rfl) rfl rfl hl.1 rfl (lv_room (Nat.le_of_ble_eq_true rfl)) dX13_steepest_61 ⟨Nat.zero_le _, Nat.zero_le _⟩) hS (fun H locs hz13 hP hD hT hS => ?_)
              refine lv_if_eq (tgt := 74) hx hb dX13_steepest_64 rfl (fun c14 => ?_) (fun c14 => ?_)
              · replace h := ite_t c14 h
                refine lv_iinc (v := y6_4 + 1) (lv' := [(4, .int (y6_4 + 1)), (5, .int (y6_4 - 20)), (0, .ref (ad y6_0)), (1, .int y6_1), (2, .int y6_2), (3, .int y6_3)]) hx hb dX13_steepest_74 hl (k := 5) rfl rfl (by decide) rfl (fun ls hl => ?_)
                refine lv_goto (tgt := 30) hx hb dX13_steepest_77 rfl ?_
                exact ih6 M6 y6_0 y6_1 y6_2 y6_3 (y6_4 + 1) ky6_0 _ _ h hP hD hT hS ls (lv_sub hl [2, 3, 4, 5, 0] rfl)
              · replace h := ite_f c14 h
                refine lv_aload_n hx hb dX13_steepest_67 rfl (lv_at hl 1 rfl) ?_
                refine lv_iload hx hb dX13_steepest_68 (lv_at hl 0 rfl) ?_
                obtain ⟨z15, h15, h⟩ := ob_some h
                refine k_i (va_runV (As := [.int (y6_4 - 20)]) (rest := []) ⟨hx, hb, hml, hown, hts⟩ (c_X13_done (l := l) M6 y6_0 (y6_4 - 20) ky6_0 h15) (cwV 1 hts gX13_steepest_X13_done rfl rfl rfl hdV_X13_done ⟨Nat.le_of_ble_eq_true rfl, Nat.le_of_ble_eq_true rfl⟩) (pV (T := TX13) hP hK hD hT hG hS ky6_0 (by decide) rfl) rfl rfl hl.1 rfl (lv_room (Nat.le_of_ble_eq_true rfl)) dX13_steepest_70 ⟨Nat.zero_le _, Nat.zero_le _⟩) hS (fun H locs hP hD hT hS => ?_)
                have hZ := Option.some.inj h
                exact r_iret hx hb hr hlocks hP hK hD hT hG hS (congrArg Prod.fst hZ) (congrArg Prod.snd hZ) dX13_steepest_73
      exact L6 FU (pI M a0 0 0) a0 x1 x2 x3 0 k0 _ _ h hP hD hT hS ls (lv_sub hl [1, 2, 3, 4, 0] rfl)
    · replace h := ite_t c5 h
      refine lv_aload_n hx hb dX13_steepest_21 rfl (lv_at hl 0 rfl) ?_
      refine lv_iconst (v := 1) hx hb dX13_steepest_22 rfl ?_
      obtain ⟨z16, h16, h⟩ := ob_some h
      refine k_i (va_runV (As := [.int 1]) (rest := []) ⟨hx, hb, hml, hown, hts⟩ (c_X13_lost (l := l) (pI M a0 0 0) a0 1 k0 h16) (cwV 1 hts gX13_steepest_X13_lost rfl rfl rfl hdV_X13_lost ⟨Nat.le_of_ble_eq_true rfl, Nat.le_of_ble_eq_true rfl⟩) (pV (T := TX13) hP hK hD hT hG hS k0 (by decide) rfl) rfl rfl hl.1 rfl (lv_room (Nat.le_of_ble_eq_true rfl)) dX13_steepest_23 ⟨Nat.zero_le _, Nat.zero_le _⟩) hS (fun H locs hP hD hT hS => ?_)
      have hZ := Option.some.inj h
      exact r_iret hx hb hr hlocks hP hK hD hT hG hS (congrArg Prod.fst hZ) (congrArg Prod.snd hZ) dX13_steepest_26
set_option maxHeartbeats 4000000 in
set_option maxRecDepth 100000 in
theorem c_X13_needBy {l : Launch} {D : va_G} {ad : Nat → Nat} {cy : Nat → ClassId} {A : Nat → Prop} {g : CG} {q : SE} (M : MM) (a0 : Nat) (x1 : Int32) (x2 : Int32) (x3 : Int32) (k0 : ok g a0 13 0) {Z : Int32} (h : f_X13_needBy M a0 x1 x2 x3 = some Z) : Met l yX13_needBy wsX13_needBy ({ frames := 1, cells := 0, slots := 0, locals := 21 }) (va_Pc [.ref (ad a0), .int x1, .int x2, .int x3] (Wd D ad cy A g q M)) (va_Qi (fun r u => r = Z ∧ u = M) (Wd D ad cy A g q) A) 0 0 A := by
  refine Met.ofW (cc := cX13_needBy) (maxL := 6) (ret := (some .int)) (by decide) rfl ?_
  intro p e s m args below meth c s₁ B hml hv
  obtain ⟨rfl, hP, hK, hD, hT, hG⟩ := hv
  have hx := B.exec
  have hb := B.bytes
  have hr := B.returns
  have hts := atoms_spec (ws := wsX13_needBy) B.pre
  have hown : s.vm.findClass RX13 = some m.cls := findClass_of_methodNamed B.named
  have hlocks := B.notSynchronized
  have in12 : ∀ w ∈ u_ws RX12 TX12 48, w ∈ wsX13_needBy := fun w h => List.mem_cons_of_mem _ (List.mem_append_right _ h)
  have in13 : ∀ w ∈ u_ws RX13 TX13 29, w ∈ wsX13_needBy := fun w h => List.mem_cons_of_mem _ (List.mem_append_left _ (List.mem_append_right _ h))
  have hS : va_S A s.heap s.heap [] := va_S.rf
  have hl := lv_entry ([.ref (ad a0), .int x1, .int x2, .int x3]) (n := 6) (Nat.le_of_ble_eq_true rfl)
  rw [lg_entry_eq]
  generalize (lg_sl ([.ref (ad a0), .int x1, .int x2, .int x3]) ++ List.replicate (6 - (lg_sl ([.ref (ad a0), .int x1, .int x2, .int x3])).length) Slot.unset).toArray = ls at hl ⊢
  have hl : lv_has ls 6 [(0, .ref (ad a0)), (1, .int x1), (2, .int x2), (3, .int x3)] := hl
  unfold f_X13_needBy at h
  refine lv_aload_n hx hb dX13_needBy_0 rfl (lv_at hl 0 rfl) ?_
  rcases hN1 : gR M a0 3 with _ | b1
  · replace h := oc_n hN1 h
    refine r_get (T := TX13) (v := .null) hx hb hts in13 hown hK hP k0 (by decide) rfl 3 (by decide) (hts (.fieldLink RX13 431 "StoneWalkModel" "island" "LStoneWalkModel$Island;") (List.mem_of_getElem? (i := 1) (by decide +kernel))) rfl (t := 2) rfl (by show va_rf _ = _; rw [hN1]; rfl) dX13_needBy_1 ?_
    exact absurd h (by simp)
  · replace h := oc_s hN1 h
    have kb1 := hT.f k0 (k := 3) (t := 12) (n := 0) rfl hN1
    refine r_get (T := TX13) (v := .ref (ad b1)) hx hb hts in13 hown hK hP k0 (by decide) rfl 3 (by decide) (hts (.fieldLink RX13 431 "StoneWalkModel" "island" "LStoneWalkModel$Island;") (List.mem_of_getElem? (i := 1) (by decide +kernel))) rfl (t := 2) rfl (by show va_rf _ = _; rw [hN1]; rfl) dX13_needBy_1 ?_
    rcases hN2 : gR M b1 9 with _ | b2
    · exact absurd (oc_n hN2 h) (by simp)
    replace h := oc_s hN2 h
    have kb2 := hT.f kb1 (k := 9) (t := 15) (n := 4) rfl hN2
    refine r_getN (T := TX12) (v := .ref (ad b2)) hx hb hts in12 hown hK hP kb1 (by decide) rfl 9 (by decide) (hG.2.2.1 _ (List.mem_of_getElem? (i := 8) rfl)) rfl (t := 2) rfl (by show va_rf _ = _; rw [hN2]; rfl) dX13_needBy_4 ?_
    refine lv_iload_n hx hb dX13_needBy_7 rfl (lv_at hl 1 rfl) ?_
    obtain ⟨hn3, h⟩ := chk_some h
    refine r_iald hx hb hK hP kb2 hn3 dX13_needBy_8 ?_
    refine lv_istore (lv' := [(4, .int (gI M b2 (ix x1))), (0, .ref (ad a0)), (1, .int x1), (2, .int x2), (3, .int x3)]) hx hb dX13_needBy_9 hl (by decide) rfl (fun ls hl => ?_)
    refine lv_iload hx hb dX13_needBy_11 (lv_at hl 0 rfl) ?_
    refine lv_iconst (v := 1) hx hb dX13_needBy_13 rfl ?_
    refine lv_icmp_ne (tgt := 21) hx hb dX13_needBy_14 rfl (fun c4 => ?_) (fun c4 => ?_)
    · replace h := ite_f c4 h
      refine lv_iload hx hb dX13_needBy_21 (lv_at hl 0 rfl) ?_
      refine lv_iconst (v := 3) hx hb dX13_needBy_23 rfl ?_
      refine lv_icmp_ne (tgt := 31) hx hb dX13_needBy_24 rfl (fun c5 => ?_) (fun c5 => ?_)
      · replace h := ite_f c5 h
        refine lv_iconst (v := 1) hx hb dX13_needBy_31 rfl ?_
        refine lv_istore (lv' := [(5, .int 1), (4, .int (gI M b2 (ix x1))), (0, .ref (ad a0)), (1, .int x1), (2, .int x2), (3, .int x3)]) hx hb dX13_needBy_32 hl (by decide) rfl (fun ls hl => ?_)
        refine lv_iload_n hx hb dX13_needBy_34 rfl (lv_at hl 4 rfl) ?_
        refine lv_bipush (v := 10) hx hb dX13_needBy_35 rfl ?_
        refine lv_imul hx hb dX13_needBy_37 ?_
        refine lv_iload hx hb dX13_needBy_38 (lv_at hl 0 rfl) ?_
        refine lv_imul hx hb dX13_needBy_40 ?_
        refine lv_bipush (v := 100) hx hb dX13_needBy_41 rfl ?_
        refine lv_iload_n hx hb dX13_needBy_43 rfl (lv_at hl 5 rfl) ?_
        refine lv_if_le (tgt := 53) hx hb dX13_needBy_44 rfl (fun c6 => ?_) (fun c6 => ?_)
        · replace h := ite_t c6 h
          refine lv_iconst (v := 0) hx hb dX13_needBy_53 rfl ?_
          refine lv_iadd hx hb dX13_needBy_54 ?_
          refine lv_imul hx hb dX13_needBy_55 ?_
          refine lv_bipush (v := 100) hx hb dX13_needBy_56 rfl ?_
          refine lv_aload_n hx hb dX13_needBy_58 rfl (lv_at hl 2 rfl) ?_
          rcases hN7 : gR M a0 3 with _ | b7
          · replace h := oc_n hN7 h
            refine r_get (T := TX13) (v := .null) hx hb hts in13 hown hK hP k0 (by decide) rfl 3 (by decide) (hts (.fieldLink RX13 431 "StoneWalkModel" "island" "LStoneWalkModel$Island;") (List.mem_of_getElem? (i := 1) (by decide +kernel))) rfl (t := 2) rfl (by show va_rf _ = _; rw [hN7]; rfl) dX13_needBy_59 ?_
            exact absurd h (by simp)
          · replace h := oc_s hN7 h
            have kb7 := hT.f k0 (k := 3) (t := 12) (n := 0) rfl hN7
            refine r_get (T := TX13) (v := .ref (ad b7)) hx hb hts in13 hown hK hP k0 (by decide) rfl 3 (by decide) (hts (.fieldLink RX13 431 "StoneWalkModel" "island" "LStoneWalkModel$Island;") (List.mem_of_getElem? (i := 1) (by decide +kernel))) rfl (t := 2) rfl (by show va_rf _ = _; rw [hN7]; rfl) dX13_needBy_59 ?_
            rcases hN8 : gR M b7 11 with _ | b8
            · exact absurd (oc_n hN8 h) (by simp)
            replace h := oc_s hN8 h
            have kb8 := hT.f kb7 (k := 11) (t := 15) (n := 4) rfl hN8
            refine r_getN (T := TX12) (v := .ref (ad b8)) hx hb hts in12 hown hK hP kb7 (by decide) rfl 11 (by decide) (hG.2.2.1 _ (List.mem_of_getElem? (i := 10) rfl)) rfl (t := 2) rfl (by show va_rf _ = _; rw [hN8]; rfl) dX13_needBy_62 ?_
            refine lv_iload_n hx hb dX13_needBy_65 rfl (lv_at hl 3 rfl) ?_
            obtain ⟨hn9, h⟩ := chk_some h
            refine r_iald hx hb hK hP kb8 hn9 dX13_needBy_66 ?_
            refine lv_imul hx hb dX13_needBy_67 ?_
            obtain ⟨z10, h10, h⟩ := ob_some h
            refine k_i (va_runS (As := [.int (((x2 * 10) * 1) * (100 + 0)), .int (100 * (gI M b8 (ix x1)))]) (rest := []) ⟨hx, hb, hml, hown, hts⟩ (c_X13_up (l := l) M (((x2 * 10) * 1) * (100 + 0)) (100 * (gI M b8 (ix x1))) h10) (va_cwS 2 hts gX13_needBy_X13_up rfl rfl rfl hdS_X13_up ⟨Nat.le_of_ble_eq_true rfl, Nat.le_of_ble_eq_true rfl⟩) (pS hP hK hD hT hG hS) rfl rfl hl.1 rfl (lv_room (Nat.le_of_ble_eq_true rfl)) dX13_needBy_68 ⟨Nat.zero_le _, Nat.zero_le _⟩) hS (fun H locs hP hD hT hS => ?_)
            exact r_iret hx hb hr hlocks hP hK hD hT hG hS (Option.some.inj h) rfl dX13_needBy_71
        · replace h := ite_f c6 h
          refine lv_iconst (v := 5) hx hb dX13_needBy_47 rfl ?_
          refine lv_iload_n hx hb dX13_needBy_48 rfl (lv_at hl 5 rfl) ?_
          refine lv_imul hx hb dX13_needBy_49 ?_
          refine lv_goto (tgt := 54) hx hb dX13_needBy_50 rfl ?_
          refine lv_iadd hx hb dX13_needBy_54 ?_
          refine lv_imul hx hb dX13_needBy_55 ?_
          refine lv_bipush (v := 100) hx hb dX13_needBy_56 rfl ?_
          refine lv_aload_n hx hb dX13_needBy_58 rfl (lv_at hl 2 rfl) ?_
          rcases hN11 : gR M a0 3 with _ | b11
          · replace h := oc_n hN11 h
            refine r_get (T := TX13) (v := .null) hx hb hts in13 hown hK hP k0 (by decide) rfl 3 (by decide) (hts (.fieldLink RX13 431 "StoneWalkModel" "island" "LStoneWalkModel$Island;") (List.mem_of_getElem? (i := 1) (by decide +kernel))) rfl (t := 2) rfl (by show va_rf _ = _; rw [hN11]; rfl) dX13_needBy_59 ?_
            exact absurd h (by simp)
          · replace h := oc_s hN11 h
            have kb11 := hT.f k0 (k := 3) (t := 12) (n := 0) rfl hN11
            refine r_get (T := TX13) (v := .ref (ad b11)) hx hb hts in13 hown hK hP k0 (by decide) rfl 3 (by decide) (hts (.fieldLink RX13 431 "StoneWalkModel" "island" "LStoneWalkModel$Island;") (List.mem_of_getElem? (i := 1) (by decide +kernel))) rfl (t := 2) rfl (by show va_rf _ = _; rw [hN11]; rfl) dX13_needBy_59 ?_
            rcases hN12 : gR M b11 11 with _ | b12
            · exact absurd (oc_n hN12 h) (by simp)
            replace h := oc_s hN12 h
            have kb12 := hT.f kb11 (k := 11) (t := 15) (n := 4) rfl hN12
            refine r_getN (T := TX12) (v := .ref (ad b12)) hx hb hts in12 hown hK hP kb11 (by decide) rfl 11 (by decide) (hG.2.2.1 _ (List.mem_of_getElem? (i := 10) rfl)) rfl (t := 2) rfl (by show va_rf _ = _; rw [hN12]; rfl) dX13_needBy_62 ?_
            refine lv_iload_n hx hb dX13_needBy_65 rfl (lv_at hl 3 rfl) ?_
            obtain ⟨hn13, h⟩ := chk_some h
            refine r_iald hx hb hK hP kb12 hn13 dX13_needBy_66 ?_
            refine lv_imul hx hb dX13_needBy_67 ?_
            obtain ⟨z14, h14, h⟩ := ob_some h
            refine k_i (va_runS (As := [.int (((x2 * 10) * 1) * (100 + (5 * x3))), .int (100 * (gI M b12 (ix x1)))]) (rest := []) ⟨hx, hb, hml, hown, hts⟩ (c_X13_up (l := l) M (((x2 * 10) * 1) * (100 + (5 * x3))) (100 * (gI M b12 (ix x1))) h14) (va_cwS 2 hts gX13_needBy_X13_up rfl rfl rfl hdS_X13_up ⟨Nat.le_of_ble_eq_true rfl, Nat.le_of_ble_eq_true rfl⟩) (pS hP hK hD hT hG hS) rfl rfl hl.1 rfl (lv_room (Nat.le_of_ble_eq_true rfl)) dX13_needBy_68 ⟨Nat.zero_le _, Nat.zero_le _⟩) hS (fun H locs hP hD hT hS => ?_)
            exact r_iret hx hb hr hlocks hP hK hD hT hG hS (Option.some.inj h) rfl dX13_needBy_71
      · replace h := ite_t c5 h
        refine lv_iconst (v := 3) hx hb dX13_needBy_27 rfl ?_
        refine lv_goto (tgt := 32) hx hb dX13_needBy_28 rfl ?_
        refine lv_istore (lv' := [(5, .int 3), (4, .int (gI M b2 (ix x1))), (0, .ref (ad a0)), (1, .int x1), (2, .int x2), (3, .int x3)]) hx hb dX13_needBy_32 hl (by decide) rfl (fun ls hl => ?_)
        refine lv_iload_n hx hb dX13_needBy_34 rfl (lv_at hl 4 rfl) ?_
        refine lv_bipush (v := 10) hx hb dX13_needBy_35 rfl ?_
        refine lv_imul hx hb dX13_needBy_37 ?_
        refine lv_iload hx hb dX13_needBy_38 (lv_at hl 0 rfl) ?_
        refine lv_imul hx hb dX13_needBy_40 ?_
        refine lv_bipush (v := 100) hx hb dX13_needBy_41 rfl ?_
        refine lv_iload_n hx hb dX13_needBy_43 rfl (lv_at hl 5 rfl) ?_
        refine lv_if_le (tgt := 53) hx hb dX13_needBy_44 rfl (fun c15 => ?_) (fun c15 => ?_)
        · replace h := ite_t c15 h
          refine lv_iconst (v := 0) hx hb dX13_needBy_53 rfl ?_
          refine lv_iadd hx hb dX13_needBy_54 ?_
          refine lv_imul hx hb dX13_needBy_55 ?_
          refine lv_bipush (v := 100) hx hb dX13_needBy_56 rfl ?_
          refine lv_aload_n hx hb dX13_needBy_58 rfl (lv_at hl 2 rfl) ?_
          rcases hN16 : gR M a0 3 with _ | b16
          · replace h := oc_n hN16 h
            refine r_get (T := TX13) (v := .null) hx hb hts in13 hown hK hP k0 (by decide) rfl 3 (by decide) (hts (.fieldLink RX13 431 "StoneWalkModel" "island" "LStoneWalkModel$Island;") (List.mem_of_getElem? (i := 1) (by decide +kernel))) rfl (t := 2) rfl (by show va_rf _ = _; rw [hN16]; rfl) dX13_needBy_59 ?_
            exact absurd h (by simp)
          · replace h := oc_s hN16 h
            have kb16 := hT.f k0 (k := 3) (t := 12) (n := 0) rfl hN16
            refine r_get (T := TX13) (v := .ref (ad b16)) hx hb hts in13 hown hK hP k0 (by decide) rfl 3 (by decide) (hts (.fieldLink RX13 431 "StoneWalkModel" "island" "LStoneWalkModel$Island;") (List.mem_of_getElem? (i := 1) (by decide +kernel))) rfl (t := 2) rfl (by show va_rf _ = _; rw [hN16]; rfl) dX13_needBy_59 ?_
            rcases hN17 : gR M b16 11 with _ | b17
            · exact absurd (oc_n hN17 h) (by simp)
            replace h := oc_s hN17 h
            have kb17 := hT.f kb16 (k := 11) (t := 15) (n := 4) rfl hN17
            refine r_getN (T := TX12) (v := .ref (ad b17)) hx hb hts in12 hown hK hP kb16 (by decide) rfl 11 (by decide) (hG.2.2.1 _ (List.mem_of_getElem? (i := 10) rfl)) rfl (t := 2) rfl (by show va_rf _ = _; rw [hN17]; rfl) dX13_needBy_62 ?_
            refine lv_iload_n hx hb dX13_needBy_65 rfl (lv_at hl 3 rfl) ?_
            obtain ⟨hn18, h⟩ := chk_some h
            refine r_iald hx hb hK hP kb17 hn18 dX13_needBy_66 ?_
            refine lv_imul hx hb dX13_needBy_67 ?_
            obtain ⟨z19, h19, h⟩ := ob_some h
            refine k_i (va_runS (As := [.int (((x2 * 10) * 3) * (100 + 0)), .int (100 * (gI M b17 (ix x1)))]) (rest := []) ⟨hx, hb, hml, hown, hts⟩ (c_X13_up (l := l) M (((x2 * 10) * 3) * (100 + 0)) (100 * (gI M b17 (ix x1))) h19) (va_cwS 2 hts gX13_needBy_X13_up rfl rfl rfl hdS_X13_up ⟨Nat.le_of_ble_eq_true rfl, Nat.le_of_ble_eq_true rfl⟩) (pS hP hK hD hT hG hS) rfl rfl hl.1 rfl (lv_room (Nat.le_of_ble_eq_true rfl)) dX13_needBy_68 ⟨Nat.zero_le _, Nat.zero_le _⟩) hS (fun H locs hP hD hT hS => ?_)
            exact r_iret hx hb hr hlocks hP hK hD hT hG hS (Option.some.inj h) rfl dX13_needBy_71
        · replace h := ite_f c15 h
          refine lv_iconst (v := 5) hx hb dX13_needBy_47 rfl ?_
          refine lv_iload_n hx hb dX13_needBy_48 rfl (lv_at hl 5 rfl) ?_
          refine lv_imul hx hb dX13_needBy_49 ?_
          refine lv_goto (tgt := 54) hx hb dX13_needBy_50 rfl ?_
          refine lv_iadd hx hb dX13_needBy_54 ?_
          refine lv_imul hx hb dX13_needBy_55 ?_
          refine lv_bipush (v := 100) hx hb dX13_needBy_56 rfl ?_
          refine lv_aload_n hx hb dX13_needBy_58 rfl (lv_at hl 2 rfl) ?_
          rcases hN20 : gR M a0 3 with _ | b20
          · replace h := oc_n hN20 h
            refine r_get (T := TX13) (v := .null) hx hb hts in13 hown hK hP k0 (by decide) rfl 3 (by decide) (hts (.fieldLink RX13 431 "StoneWalkModel" "island" "LStoneWalkModel$Island;") (List.mem_of_getElem? (i := 1) (by decide +kernel))) rfl (t := 2) rfl (by show va_rf _ = _; rw [hN20]; rfl) dX13_needBy_59 ?_
            exact absurd h (by simp)
          · replace h := oc_s hN20 h
            have kb20 := hT.f k0 (k := 3) (t := 12) (n := 0) rfl hN20
            refine r_get (T := TX13) (v := .ref (ad b20)) hx hb hts in13 hown hK hP k0 (by decide) rfl 3 (by decide) (hts (.fieldLink RX13 431 "StoneWalkModel" "island" "LStoneWalkModel$Island;") (List.mem_of_getElem? (i := 1) (by decide +kernel))) rfl (t := 2) rfl (by show va_rf _ = _; rw [hN20]; rfl) dX13_needBy_59 ?_
            rcases hN21 : gR M b20 11 with _ | b21
            · exact absurd (oc_n hN21 h) (by simp)
            replace h := oc_s hN21 h
            have kb21 := hT.f kb20 (k := 11) (t := 15) (n := 4) rfl hN21
            refine r_getN (T := TX12) (v := .ref (ad b21)) hx hb hts in12 hown hK hP kb20 (by decide) rfl 11 (by decide) (hG.2.2.1 _ (List.mem_of_getElem? (i := 10) rfl)) rfl (t := 2) rfl (by show va_rf _ = _; rw [hN21]; rfl) dX13_needBy_62 ?_
            refine lv_iload_n hx hb dX13_needBy_65 rfl (lv_at hl 3 rfl) ?_
            obtain ⟨hn22, h⟩ := chk_some h
            refine r_iald hx hb hK hP kb21 hn22 dX13_needBy_66 ?_
            refine lv_imul hx hb dX13_needBy_67 ?_
            obtain ⟨z23, h23, h⟩ := ob_some h
            refine k_i (va_runS (As := [.int (((x2 * 10) * 3) * (100 + (5 * x3))), .int (100 * (gI M b21 (ix x1)))]) (rest := []) ⟨hx, hb, hml, hown, hts⟩ (c_X13_up (l := l) M (((x2 * 10) * 3) * (100 + (5 * x3))) (100 * (gI M b21 (ix x1))) h23) (va_cwS 2 hts gX13_needBy_X13_up rfl rfl rfl hdS_X13_up ⟨Nat.le_of_ble_eq_true rfl, Nat.le_of_ble_eq_true rfl⟩) (pS hP hK hD hT hG hS) rfl rfl hl.1 rfl (lv_room (Nat.le_of_ble_eq_true rfl)) dX13_needBy_68 ⟨Nat.zero_le _, Nat.zero_le _⟩) hS (fun H locs hP hD hT hS => ?_)
            exact r_iret hx hb hr hlocks hP hK hD hT hG hS (Option.some.inj h) rfl dX13_needBy_71
    · replace h := ite_t c4 h
      refine lv_iconst (v := 2) hx hb dX13_needBy_17 rfl ?_
      refine lv_goto (tgt := 32) hx hb dX13_needBy_18 rfl ?_
      refine lv_istore (lv' := [(5, .int 2), (4, .int (gI M b2 (ix x1))), (0, .ref (ad a0)), (1, .int x1), (2, .int x2), (3, .int x3)]) hx hb dX13_needBy_32 hl (by decide) rfl (fun ls hl => ?_)
      refine lv_iload_n hx hb dX13_needBy_34 rfl (lv_at hl 4 rfl) ?_
      refine lv_bipush (v := 10) hx hb dX13_needBy_35 rfl ?_
      refine lv_imul hx hb dX13_needBy_37 ?_
      refine lv_iload hx hb dX13_needBy_38 (lv_at hl 0 rfl) ?_
      refine lv_imul hx hb dX13_needBy_40 ?_
      refine lv_bipush (v := 100) hx hb dX13_needBy_41 rfl ?_
      refine lv_iload_n hx hb dX13_needBy_43 rfl (lv_at hl 5 rfl) ?_
      refine lv_if_le (tgt := 53) hx hb dX13_needBy_44 rfl (fun c24 => ?_) (fun c24 => ?_)
      · replace h := ite_t c24 h
        refine lv_iconst (v := 0) hx hb dX13_needBy_53 rfl ?_
        refine lv_iadd hx hb dX13_needBy_54 ?_
        refine lv_imul hx hb dX13_needBy_55 ?_
        refine lv_bipush (v := 100) hx hb dX13_needBy_56 rfl ?_
        refine lv_aload_n hx hb dX13_needBy_58 rfl (lv_at hl 2 rfl) ?_
        rcases hN25 : gR M a0 3 with _ | b25
        · replace h := oc_n hN25 h
          refine r_get (T := TX13) (v := .null) hx hb hts in13 hown hK hP k0 (by decide) rfl 3 (by decide) (hts (.fieldLink RX13 431 "StoneWalkModel" "island" "LStoneWalkModel$Island;") (List.mem_of_getElem? (i := 1) (by decide +kernel))) rfl (t := 2) rfl (by show va_rf _ = _; rw [hN25]; rfl) dX13_needBy_59 ?_
          exact absurd h (by simp)
        · replace h := oc_s hN25 h
          have kb25 := hT.f k0 (k := 3) (t := 12) (n := 0) rfl hN25
          refine r_get (T := TX13) (v := .ref (ad b25)) hx hb hts in13 hown hK hP k0 (by decide) rfl 3 (by decide) (hts (.fieldLink RX13 431 "StoneWalkModel" "island" "LStoneWalkModel$Island;") (List.mem_of_getElem? (i := 1) (by decide +kernel))) rfl (t := 2) rfl (by show va_rf _ = _; rw [hN25]; rfl) dX13_needBy_59 ?_
          rcases hN26 : gR M b25 11 with _ | b26
          · exact absurd (oc_n hN26 h) (by simp)
          replace h := oc_s hN26 h
          have kb26 := hT.f kb25 (k := 11) (t := 15) (n := 4) rfl hN26
          refine r_getN (T := TX12) (v := .ref (ad b26)) hx hb hts in12 hown hK hP kb25 (by decide) rfl 11 (by decide) (hG.2.2.1 _ (List.mem_of_getElem? (i := 10) rfl)) rfl (t := 2) rfl (by show va_rf _ = _; rw [hN26]; rfl) dX13_needBy_62 ?_
          refine lv_iload_n hx hb dX13_needBy_65 rfl (lv_at hl 3 rfl) ?_
          obtain ⟨hn27, h⟩ := chk_some h
          refine r_iald hx hb hK hP kb26 hn27 dX13_needBy_66 ?_
          refine lv_imul hx hb dX13_needBy_67 ?_
          obtain ⟨z28, h28, h⟩ := ob_some h
          refine k_i (va_runS (As := [.int (((x2 * 10) * 2) * (100 + 0)), .int (100 * (gI M b26 (ix x1)))]) (rest := []) ⟨hx, hb, hml, hown, hts⟩ (c_X13_up (l := l) M (((x2 * 10) * 2) * (100 + 0)) (100 * (gI M b26 (ix x1))) h28) (va_cwS 2 hts gX13_needBy_X13_up rfl rfl rfl hdS_X13_up ⟨Nat.le_of_ble_eq_true rfl, Nat.le_of_ble_eq_true rfl⟩) (pS hP hK hD hT hG hS) rfl rfl hl.1 rfl (lv_room (Nat.le_of_ble_eq_true rfl)) dX13_needBy_68 ⟨Nat.zero_le _, Nat.zero_le _⟩) hS (fun H locs hP hD hT hS => ?_)
          exact r_iret hx hb hr hlocks hP hK hD hT hG hS (Option.some.inj h) rfl dX13_needBy_71
      · replace h := ite_f c24 h
        refine lv_iconst (v := 5) hx hb dX13_needBy_47 rfl ?_
        refine lv_iload_n hx hb dX13_needBy_48 rfl (lv_at hl 5 rfl) ?_
        refine lv_imul hx hb dX13_needBy_49 ?_
        refine lv_goto (tgt := 54) hx hb dX13_needBy_50 rfl ?_
        refine lv_iadd hx hb dX13_needBy_54 ?_
        refine lv_imul hx hb dX13_needBy_55 ?_
        refine lv_bipush (v := 100) hx hb dX13_needBy_56 rfl ?_
        refine lv_aload_n hx hb dX13_needBy_58 rfl (lv_at hl 2 rfl) ?_
        rcases hN29 : gR M a0 3 with _ | b29
        · replace h := oc_n hN29 h
          refine r_get (T := TX13) (v := .null) hx hb hts in13 hown hK hP k0 (by decide) rfl 3 (by decide) (hts (.fieldLink RX13 431 "StoneWalkModel" "island" "LStoneWalkModel$Island;") (List.mem_of_getElem? (i := 1) (by decide +kernel))) rfl (t := 2) rfl (by show va_rf _ = _; rw [hN29]; rfl) dX13_needBy_59 ?_
          exact absurd h (by simp)
        · replace h := oc_s hN29 h
          have kb29 := hT.f k0 (k := 3) (t := 12) (n := 0) rfl hN29
          refine r_get (T := TX13) (v := .ref (ad b29)) hx hb hts in13 hown hK hP k0 (by decide) rfl 3 (by decide) (hts (.fieldLink RX13 431 "StoneWalkModel" "island" "LStoneWalkModel$Island;") (List.mem_of_getElem? (i := 1) (by decide +kernel))) rfl (t := 2) rfl (by show va_rf _ = _; rw [hN29]; rfl) dX13_needBy_59 ?_
          rcases hN30 : gR M b29 11 with _ | b30
          · exact absurd (oc_n hN30 h) (by simp)
          replace h := oc_s hN30 h
          have kb30 := hT.f kb29 (k := 11) (t := 15) (n := 4) rfl hN30
          refine r_getN (T := TX12) (v := .ref (ad b30)) hx hb hts in12 hown hK hP kb29 (by decide) rfl 11 (by decide) (hG.2.2.1 _ (List.mem_of_getElem? (i := 10) rfl)) rfl (t := 2) rfl (by show va_rf _ = _; rw [hN30]; rfl) dX13_needBy_62 ?_
          refine lv_iload_n hx hb dX13_needBy_65 rfl (lv_at hl 3 rfl) ?_
          obtain ⟨hn31, h⟩ := chk_some h
          refine r_iald hx hb hK hP kb30 hn31 dX13_needBy_66 ?_
          refine lv_imul hx hb dX13_needBy_67 ?_
          obtain ⟨z32, h32, h⟩ := ob_some h
          refine k_i (va_runS (As := [.int (((x2 * 10) * 2) * (100 + (5 * x3))), .int (100 * (gI M b30 (ix x1)))]) (rest := []) ⟨hx, hb, hml, hown, hts⟩ (c_X13_up (l := l) M (((x2 * 10) * 2) * (100 + (5 * x3))) (100 * (gI M b30 (ix x1))) h32) (va_cwS 2 hts gX13_needBy_X13_up rfl rfl rfl hdS_X13_up ⟨Nat.le_of_ble_eq_true rfl, Nat.le_of_ble_eq_true rfl⟩) (pS hP hK hD hT hG hS) rfl rfl hl.1 rfl (lv_room (Nat.le_of_ble_eq_true rfl)) dX13_needBy_68 ⟨Nat.zero_le _, Nat.zero_le _⟩) hS (fun H locs hP hD hT hS => ?_)
          exact r_iret hx hb hr hlocks hP hK hD hT hG hS (Option.some.inj h) rfl dX13_needBy_71
set_option maxHeartbeats 4000000 in
set_option maxRecDepth 100000 in
theorem c_X13_need {l : Launch} {D : va_G} {ad : Nat → Nat} {cy : Nat → ClassId} {A : Nat → Prop} {g : CG} {q : SE} (M : MM) (a0 : Nat) (x1 : Int32) (x2 : Int32) (x3 : Int32) (k0 : ok g a0 13 0) {Z : (Int32 × MM)} (h : f_X13_need M a0 x1 x2 x3 = some Z) : Met l yX13_need wsX13_need ({ frames := 2, cells := 0, slots := 0, locals := 46 }) (va_Pc [.ref (ad a0), .int x1, .int x2, .int x3] (Wd D ad cy A g q M)) (va_Qi (fun r u => r = Z.1 ∧ u = Z.2) (Wd D ad cy A g q) A) 0 0 A := by
  refine Met.ofW (cc := cX13_need) (maxL := 5) (ret := (some .int)) (by decide) rfl ?_
  intro p e s m args below meth c s₁ B hml hv
  obtain ⟨rfl, hP, hK, hD, hT, hG⟩ := hv
  have hx := B.exec
  have hb := B.bytes
  have hr := B.returns
  have hts := atoms_spec (ws := wsX13_need) B.pre
  have hown : s.vm.findClass RX13 = some m.cls := findClass_of_methodNamed B.named
  have hlocks := B.notSynchronized
  have in12 : ∀ w ∈ u_ws RX12 TX12 48, w ∈ wsX13_need := fun w h => List.mem_cons_of_mem _ (List.mem_append_right _ h)
  have in13 : ∀ w ∈ u_ws RX13 TX13 29, w ∈ wsX13_need := fun w h => List.mem_cons_of_mem _ (List.mem_append_left _ (List.mem_append_right _ h))
  have hS : va_S A s.heap s.heap [] := va_S.rf
  have hl := lv_entry ([.ref (ad a0), .int x1, .int x2, .int x3]) (n := 5) (Nat.le_of_ble_eq_true rfl)
  rw [lg_entry_eq]
  generalize (lg_sl ([.ref (ad a0), .int x1, .int x2, .int x3]) ++ List.replicate (5 - (lg_sl ([.ref (ad a0), .int x1, .int x2, .int x3])).length) Slot.unset).toArray = ls at hl ⊢
  have hl : lv_has ls 5 [(0, .ref (ad a0)), (1, .int x1), (2, .int x2), (3, .int x3)] := hl
  unfold f_X13_need at h
  refine lv_aload_n hx hb dX13_need_0 rfl (lv_at hl 0 rfl) ?_
  refine lv_iconst (v := 0) hx hb dX13_need_1 rfl ?_
  refine r_putI (T := TX13) (ty := .int) (v := 0) hx hb hts in13 tyX13 tyX13_ok nmX13 hown hK hP hD hT hS k0 (by decide) rfl 0 (by decide) (hts (.fieldLink RX13 30 "StoneWalkModel" "thrown" "I") (List.mem_of_getElem? (i := 1) (by decide +kernel))) rfl rfl (tyX13_ok 0 (by decide)) rfl rfl rfl dX13_need_2 (fun H locs hP hD hT hS => ?_)
  refine lv_aload_n hx hb dX13_need_5 rfl (lv_at hl 0 rfl) ?_
  refine lv_iload_n hx hb dX13_need_6 rfl (lv_at hl 1 rfl) ?_
  refine lv_iload_n hx hb dX13_need_7 rfl (lv_at hl 2 rfl) ?_
  refine lv_iload_n hx hb dX13_need_8 rfl (lv_at hl 3 rfl) ?_
  obtain ⟨z1, h1, h⟩ := ob_some h
  refine k_i (va_runV (As := [.int x1, .int x2, .int x3]) (rest := []) ⟨hx, hb, hml, hown, hts⟩ (c_X13_refusesSlope (l := l) (pI M a0 0 0) a0 x1 x2 x3 k0 h1) (cwV 3 hts gX13_need_X13_refusesSlope rfl rfl rfl hdV_X13_refusesSlope ⟨Nat.le_of_ble_eq_true rfl, Nat.le_of_ble_eq_true rfl⟩) (pV (T := TX13) hP hK hD hT hG hS k0 (by decide) rfl) rfl rfl hl.1 rfl (lv_room (Nat.le_of_ble_eq_true rfl)) dX13_need_9 ⟨Nat.zero_le _, Nat.zero_le _⟩) hS (fun H locs hP hD hT hS => ?_)
  refine lv_istore (lv' := [(4, .int z1), (0, .ref (ad a0)), (1, .int x1), (2, .int x2), (3, .int x3)]) hx hb dX13_need_12 hl (by decide) rfl (fun ls hl => ?_)
  refine lv_iload hx hb dX13_need_14 (lv_at hl 0 rfl) ?_
  refine lv_if_le (tgt := 28) hx hb dX13_need_16 rfl (fun c2 => ?_) (fun c2 => ?_)
  · replace h := ite_t c2 h
    refine lv_aload_n hx hb dX13_need_28 rfl (lv_at hl 1 rfl) ?_
    refine lv_aload_n hx hb dX13_need_29 rfl (lv_at hl 1 rfl) ?_
    refine lv_iload_n hx hb dX13_need_30 rfl (lv_at hl 2 rfl) ?_
    refine lv_aload_n hx hb dX13_need_31 rfl (lv_at hl 1 rfl) ?_
    rcases hN3 : gR (pI M a0 0 0) a0 3 with _ | b3
    · replace h := oc_n hN3 h
      refine r_get (T := TX13) (v := .null) hx hb hts in13 hown hK hP k0 (by decide) rfl 3 (by decide) (hts (.fieldLink RX13 431 "StoneWalkModel" "island" "LStoneWalkModel$Island;") (List.mem_of_getElem? (i := 2) (by decide +kernel))) rfl (t := 2) rfl (by show va_rf _ = _; rw [hN3]; rfl) dX13_need_32 ?_
      exact absurd h (by simp)
    · replace h := oc_s hN3 h
      have kb3 := hT.f k0 (k := 3) (t := 12) (n := 0) rfl hN3
      refine r_get (T := TX13) (v := .ref (ad b3)) hx hb hts in13 hown hK hP k0 (by decide) rfl 3 (by decide) (hts (.fieldLink RX13 431 "StoneWalkModel" "island" "LStoneWalkModel$Island;") (List.mem_of_getElem? (i := 2) (by decide +kernel))) rfl (t := 2) rfl (by show va_rf _ = _; rw [hN3]; rfl) dX13_need_32 ?_
      rcases hN4 : gR (pI M a0 0 0) b3 15 with _ | b4
      · exact absurd (oc_n hN4 h) (by simp)
      replace h := oc_s hN4 h
      have kb4 := hT.f kb3 (k := 15) (t := 15) (n := 10) rfl hN4
      refine r_getN (T := TX12) (v := .ref (ad b4)) hx hb hts in12 hown hK hP kb3 (by decide) rfl 15 (by decide) (hG.2.2.1 _ (List.mem_of_getElem? (i := 15) rfl)) rfl (t := 2) rfl (by show va_rf _ = _; rw [hN4]; rfl) dX13_need_35 ?_
      refine lv_iload_n hx hb dX13_need_38 rfl (lv_at hl 3 rfl) ?_
      obtain ⟨hn5, h⟩ := chk_some h
      refine r_iald hx hb hK hP kb4 hn5 dX13_need_39 ?_
      refine lv_iload_n hx hb dX13_need_40 rfl (lv_at hl 4 rfl) ?_
      obtain ⟨z6, h6, h⟩ := ob_some h
      refine k_i (va_runV (As := [.int x1, .int (gI (pI M a0 0 0) b4 (ix x2)), .int x3]) (rest := [.ref (ad a0)]) ⟨hx, hb, hml, hown, hts⟩ (c_X13_needBy (l := l) (pI M a0 0 0) a0 x1 (gI (pI M a0 0 0) b4 (ix x2)) x3 k0 h6) (cwV 3 hts gX13_need_X13_needBy rfl rfl rfl hdV_X13_needBy ⟨Nat.le_of_ble_eq_true rfl, Nat.le_of_ble_eq_true rfl⟩) (pV (T := TX13) hP hK hD hT hG hS k0 (by decide) rfl) rfl rfl hl.1 rfl (lv_room (Nat.le_of_ble_eq_true rfl)) dX13_need_41 ⟨Nat.zero_le _, Nat.zero_le _⟩) hS (fun H locs hP hD hT hS => ?_)
      obtain ⟨z7, h7, h⟩ := ob_some h
      refine k_i (va_runV (As := [.int z6]) (rest := []) ⟨hx, hb, hml, hown, hts⟩ (c_X13_done (l := l) (pI M a0 0 0) a0 z6 k0 h7) (cwV 1 hts gX13_need_X13_done rfl rfl rfl hdV_X13_done ⟨Nat.le_of_ble_eq_true rfl, Nat.le_of_ble_eq_true rfl⟩) (pV (T := TX13) hP hK hD hT hG hS k0 (by decide) rfl) rfl rfl hl.1 rfl (lv_room (Nat.le_of_ble_eq_true rfl)) dX13_need_44 ⟨Nat.zero_le _, Nat.zero_le _⟩) hS (fun H locs hP hD hT hS => ?_)
      have hZ := Option.some.inj h
      exact r_iret hx hb hr hlocks hP hK hD hT hG hS (congrArg Prod.fst hZ) (congrArg Prod.snd hZ) dX13_need_47
  · replace h := ite_f c2 h
    refine lv_aload_n hx hb dX13_need_19 rfl (lv_at hl 1 rfl) ?_
    refine lv_iload hx hb dX13_need_20 (lv_at hl 0 rfl) ?_
    obtain ⟨z8, h8, h⟩ := ob_some h
    refine k_i (va_runV (As := [.int z1]) (rest := []) ⟨hx, hb, hml, hown, hts⟩ (c_X13_refused (l := l) (pI M a0 0 0) a0 z1 k0 h8) (cwV 1 hts gX13_need_X13_refused rfl rfl rfl hdV_X13_refused ⟨Nat.le_of_ble_eq_true rfl, Nat.le_of_ble_eq_true rfl⟩) (pV (T := TX13) hP hK hD hT hG hS k0 (by decide) rfl) rfl rfl hl.1 rfl (lv_room (Nat.le_of_ble_eq_true rfl)) dX13_need_22 ⟨Nat.zero_le _, Nat.zero_le _⟩) hS (fun H locs hP hD hT hS => ?_)
    refine lv_goto (tgt := 47) hx hb dX13_need_25 rfl ?_
    have hZ := Option.some.inj h
    exact r_iret hx hb hr hlocks hP hK hD hT hG hS (congrArg Prod.fst hZ) (congrArg Prod.snd hZ) dX13_need_47
set_option maxHeartbeats 4000000 in
set_option maxRecDepth 100000 in
theorem c_X13_minutesBy {l : Launch} {D : va_G} {ad : Nat → Nat} {cy : Nat → ClassId} {A : Nat → Prop} {g : CG} {q : SE} (M : MM) (a0 : Nat) (x1 : Int32) (x2 : Int32) (x3 : Int32) (k0 : ok g a0 13 0) {Z : Int32} (h : f_X13_minutesBy M a0 x1 x2 x3 = some Z) : Met l yX13_minutesBy wsX13_minutesBy ({ frames := 1, cells := 0, slots := 0, locals := 21 }) (va_Pc [.ref (ad a0), .int x1, .int x2, .int x3] (Wd D ad cy A g q M)) (va_Qi (fun r u => r = Z ∧ u = M) (Wd D ad cy A g q) A) 0 0 A := by
  refine Met.ofW (cc := cX13_minutesBy) (maxL := 7) (ret := (some .int)) (by decide) rfl ?_
  intro p e s m args below meth c s₁ B hml hv
  obtain ⟨rfl, hP, hK, hD, hT, hG⟩ := hv
  have hx := B.exec
  have hb := B.bytes
  have hr := B.returns
  have hts := atoms_spec (ws := wsX13_minutesBy) B.pre
  have hown : s.vm.findClass RX13 = some m.cls := findClass_of_methodNamed B.named
  have hlocks := B.notSynchronized
  have in12 : ∀ w ∈ u_ws RX12 TX12 48, w ∈ wsX13_minutesBy := fun w h => List.mem_cons_of_mem _ (List.mem_append_right _ h)
  have in13 : ∀ w ∈ u_ws RX13 TX13 29, w ∈ wsX13_minutesBy := fun w h => List.mem_cons_of_mem _ (List.mem_append_left _ (List.mem_append_right _ h))
  have hS : va_S A s.heap s.heap [] := va_S.rf
  have hl := lv_entry ([.ref (ad a0), .int x1, .int x2, .int x3]) (n := 7) (Nat.le_of_ble_eq_true rfl)
  rw [lg_entry_eq]
  generalize (lg_sl ([.ref (ad a0), .int x1, .int x2, .int x3]) ++ List.replicate (7 - (lg_sl ([.ref (ad a0), .int x1, .int x2, .int x3])).length) Slot.unset).toArray = ls at hl ⊢
  have hl : lv_has ls 7 [(0, .ref (ad a0)), (1, .int x1), (2, .int x2), (3, .int x3)] := hl
  unfold f_X13_minutesBy at h
  refine lv_aload_n hx hb dX13_minutesBy_0 rfl (lv_at hl 0 rfl) ?_
  rcases hN1 : gR M a0 3 with _ | b1
  · replace h := oc_n hN1 h
    refine r_get (T := TX13) (v := .null) hx hb hts in13 hown hK hP k0 (by decide) rfl 3 (by decide) (hts (.fieldLink RX13 431 "StoneWalkModel" "island" "LStoneWalkModel$Island;") (List.mem_of_getElem? (i := 1) (by decide +kernel))) rfl (t := 2) rfl (by show va_rf _ = _; rw [hN1]; rfl) dX13_minutesBy_1 ?_
    exact absurd h (by simp)
  · replace h := oc_s hN1 h
    have kb1 := hT.f k0 (k := 3) (t := 12) (n := 0) rfl hN1
    refine r_get (T := TX13) (v := .ref (ad b1)) hx hb hts in13 hown hK hP k0 (by decide) rfl 3 (by decide) (hts (.fieldLink RX13 431 "StoneWalkModel" "island" "LStoneWalkModel$Island;") (List.mem_of_getElem? (i := 1) (by decide +kernel))) rfl (t := 2) rfl (by show va_rf _ = _; rw [hN1]; rfl) dX13_minutesBy_1 ?_
    rcases hN2 : gR M b1 9 with _ | b2
    · exact absurd (oc_n hN2 h) (by simp)
    replace h := oc_s hN2 h
    have kb2 := hT.f kb1 (k := 9) (t := 15) (n := 4) rfl hN2
    refine r_getN (T := TX12) (v := .ref (ad b2)) hx hb hts in12 hown hK hP kb1 (by decide) rfl 9 (by decide) (hG.2.2.1 _ (List.mem_of_getElem? (i := 8) rfl)) rfl (t := 2) rfl (by show va_rf _ = _; rw [hN2]; rfl) dX13_minutesBy_4 ?_
    refine lv_iload_n hx hb dX13_minutesBy_7 rfl (lv_at hl 1 rfl) ?_
    obtain ⟨hn3, h⟩ := chk_some h
    refine r_iald hx hb hK hP kb2 hn3 dX13_minutesBy_8 ?_
    refine lv_istore (lv' := [(4, .int (gI M b2 (ix x1))), (0, .ref (ad a0)), (1, .int x1), (2, .int x2), (3, .int x3)]) hx hb dX13_minutesBy_9 hl (by decide) rfl (fun ls hl => ?_)
    refine lv_iload hx hb dX13_minutesBy_11 (lv_at hl 0 rfl) ?_
    refine lv_if_ne (tgt := 21) hx hb dX13_minutesBy_13 rfl (fun c4 => ?_) (fun c4 => ?_)
    · replace h := ite_f c4 h
      refine lv_iload hx hb dX13_minutesBy_21 (lv_at hl 0 rfl) ?_
      refine lv_iconst (v := 1) hx hb dX13_minutesBy_23 rfl ?_
      refine lv_icmp_ne (tgt := 32) hx hb dX13_minutesBy_24 rfl (fun c5 => ?_) (fun c5 => ?_)
      · replace h := ite_f c5 h
        refine lv_iload hx hb dX13_minutesBy_32 (lv_at hl 0 rfl) ?_
        refine lv_iconst (v := 2) hx hb dX13_minutesBy_34 rfl ?_
        refine lv_icmp_ne (tgt := 43) hx hb dX13_minutesBy_35 rfl (fun c6 => ?_) (fun c6 => ?_)
        · replace h := ite_f c6 h
          refine lv_bipush (v := 90) hx hb dX13_minutesBy_43 rfl ?_
          refine lv_istore (lv' := [(5, .int 90), (4, .int (gI M b2 (ix x1))), (0, .ref (ad a0)), (1, .int x1), (2, .int x2), (3, .int x3)]) hx hb dX13_minutesBy_45 hl (by decide) rfl (fun ls hl => ?_)
          refine lv_iload hx hb dX13_minutesBy_47 (lv_at hl 0 rfl) ?_
          refine lv_iload_n hx hb dX13_minutesBy_49 rfl (lv_at hl 4 rfl) ?_
          refine lv_imul hx hb dX13_minutesBy_50 ?_
          refine lv_iload_n hx hb dX13_minutesBy_51 rfl (lv_at hl 5 rfl) ?_
          obtain ⟨z7, h7, h⟩ := ob_some h
          refine k_i (va_runS (As := [.int (90 * x2), .int x3]) (rest := []) ⟨hx, hb, hml, hown, hts⟩ (c_X13_up (l := l) M (90 * x2) x3 h7) (va_cwS 2 hts gX13_minutesBy_X13_up rfl rfl rfl hdS_X13_up ⟨Nat.le_of_ble_eq_true rfl, Nat.le_of_ble_eq_true rfl⟩) (pS hP hK hD hT hG hS) rfl rfl hl.1 rfl (lv_room (Nat.le_of_ble_eq_true rfl)) dX13_minutesBy_52 ⟨Nat.zero_le _, Nat.zero_le _⟩) hS (fun H locs hP hD hT hS => ?_)
          refine lv_istore (lv' := [(6, .int z7), (5, .int 90), (4, .int (gI M b2 (ix x1))), (0, .ref (ad a0)), (1, .int x1), (2, .int x2), (3, .int x3)]) hx hb dX13_minutesBy_55 hl (by decide) rfl (fun ls hl => ?_)
          refine lv_iload hx hb dX13_minutesBy_57 (lv_at hl 0 rfl) ?_
          refine lv_iload hx hb dX13_minutesBy_59 (lv_at hl 1 rfl) ?_
          refine lv_iconst (v := 2) hx hb dX13_minutesBy_61 rfl ?_
          refine lv_idiv hx hb dX13_minutesBy_62 (by decide) ?_
          refine lv_icmp_ge (tgt := 73) hx hb dX13_minutesBy_63 rfl (fun c8 => ?_) (fun c8 => ?_)
          · replace h := ite_t c8 h
            refine lv_iload hx hb dX13_minutesBy_73 (lv_at hl 0 rfl) ?_
            exact r_iret hx hb hr hlocks hP hK hD hT hG hS (Option.some.inj h) rfl dX13_minutesBy_75
          · replace h := ite_f c8 h
            refine lv_iload hx hb dX13_minutesBy_66 (lv_at hl 1 rfl) ?_
            refine lv_iconst (v := 2) hx hb dX13_minutesBy_68 rfl ?_
            refine lv_idiv hx hb dX13_minutesBy_69 (by decide) ?_
            refine lv_goto (tgt := 75) hx hb dX13_minutesBy_70 rfl ?_
            exact r_iret hx hb hr hlocks hP hK hD hT hG hS (Option.some.inj h) rfl dX13_minutesBy_75
        · replace h := ite_t c6 h
          refine lv_bipush (v := 30) hx hb dX13_minutesBy_38 rfl ?_
          refine lv_goto (tgt := 45) hx hb dX13_minutesBy_40 rfl ?_
          refine lv_istore (lv' := [(5, .int 30), (4, .int (gI M b2 (ix x1))), (0, .ref (ad a0)), (1, .int x1), (2, .int x2), (3, .int x3)]) hx hb dX13_minutesBy_45 hl (by decide) rfl (fun ls hl => ?_)
          refine lv_iload hx hb dX13_minutesBy_47 (lv_at hl 0 rfl) ?_
          refine lv_iload_n hx hb dX13_minutesBy_49 rfl (lv_at hl 4 rfl) ?_
          refine lv_imul hx hb dX13_minutesBy_50 ?_
          refine lv_iload_n hx hb dX13_minutesBy_51 rfl (lv_at hl 5 rfl) ?_
          obtain ⟨z9, h9, h⟩ := ob_some h
          refine k_i (va_runS (As := [.int (30 * x2), .int x3]) (rest := []) ⟨hx, hb, hml, hown, hts⟩ (c_X13_up (l := l) M (30 * x2) x3 h9) (va_cwS 2 hts gX13_minutesBy_X13_up rfl rfl rfl hdS_X13_up ⟨Nat.le_of_ble_eq_true rfl, Nat.le_of_ble_eq_true rfl⟩) (pS hP hK hD hT hG hS) rfl rfl hl.1 rfl (lv_room (Nat.le_of_ble_eq_true rfl)) dX13_minutesBy_52 ⟨Nat.zero_le _, Nat.zero_le _⟩) hS (fun H locs hP hD hT hS => ?_)
          refine lv_istore (lv' := [(6, .int z9), (5, .int 30), (4, .int (gI M b2 (ix x1))), (0, .ref (ad a0)), (1, .int x1), (2, .int x2), (3, .int x3)]) hx hb dX13_minutesBy_55 hl (by decide) rfl (fun ls hl => ?_)
          refine lv_iload hx hb dX13_minutesBy_57 (lv_at hl 0 rfl) ?_
          refine lv_iload hx hb dX13_minutesBy_59 (lv_at hl 1 rfl) ?_
          refine lv_iconst (v := 2) hx hb dX13_minutesBy_61 rfl ?_
          refine lv_idiv hx hb dX13_minutesBy_62 (by decide) ?_
          refine lv_icmp_ge (tgt := 73) hx hb dX13_minutesBy_63 rfl (fun c10 => ?_) (fun c10 => ?_)
          · replace h := ite_t c10 h
            refine lv_iload hx hb dX13_minutesBy_73 (lv_at hl 0 rfl) ?_
            exact r_iret hx hb hr hlocks hP hK hD hT hG hS (Option.some.inj h) rfl dX13_minutesBy_75
          · replace h := ite_f c10 h
            refine lv_iload hx hb dX13_minutesBy_66 (lv_at hl 1 rfl) ?_
            refine lv_iconst (v := 2) hx hb dX13_minutesBy_68 rfl ?_
            refine lv_idiv hx hb dX13_minutesBy_69 (by decide) ?_
            refine lv_goto (tgt := 75) hx hb dX13_minutesBy_70 rfl ?_
            exact r_iret hx hb hr hlocks hP hK hD hT hG hS (Option.some.inj h) rfl dX13_minutesBy_75
      · replace h := ite_t c5 h
        refine lv_bipush (v := 60) hx hb dX13_minutesBy_27 rfl ?_
        refine lv_goto (tgt := 45) hx hb dX13_minutesBy_29 rfl ?_
        refine lv_istore (lv' := [(5, .int 60), (4, .int (gI M b2 (ix x1))), (0, .ref (ad a0)), (1, .int x1), (2, .int x2), (3, .int x3)]) hx hb dX13_minutesBy_45 hl (by decide) rfl (fun ls hl => ?_)
        refine lv_iload hx hb dX13_minutesBy_47 (lv_at hl 0 rfl) ?_
        refine lv_iload_n hx hb dX13_minutesBy_49 rfl (lv_at hl 4 rfl) ?_
        refine lv_imul hx hb dX13_minutesBy_50 ?_
        refine lv_iload_n hx hb dX13_minutesBy_51 rfl (lv_at hl 5 rfl) ?_
        obtain ⟨z11, h11, h⟩ := ob_some h
        refine k_i (va_runS (As := [.int (60 * x2), .int x3]) (rest := []) ⟨hx, hb, hml, hown, hts⟩ (c_X13_up (l := l) M (60 * x2) x3 h11) (va_cwS 2 hts gX13_minutesBy_X13_up rfl rfl rfl hdS_X13_up ⟨Nat.le_of_ble_eq_true rfl, Nat.le_of_ble_eq_true rfl⟩) (pS hP hK hD hT hG hS) rfl rfl hl.1 rfl (lv_room (Nat.le_of_ble_eq_true rfl)) dX13_minutesBy_52 ⟨Nat.zero_le _, Nat.zero_le _⟩) hS (fun H locs hP hD hT hS => ?_)
        refine lv_istore (lv' := [(6, .int z11), (5, .int 60), (4, .int (gI M b2 (ix x1))), (0, .ref (ad a0)), (1, .int x1), (2, .int x2), (3, .int x3)]) hx hb dX13_minutesBy_55 hl (by decide) rfl (fun ls hl => ?_)
        refine lv_iload hx hb dX13_minutesBy_57 (lv_at hl 0 rfl) ?_
        refine lv_iload hx hb dX13_minutesBy_59 (lv_at hl 1 rfl) ?_
        refine lv_iconst (v := 2) hx hb dX13_minutesBy_61 rfl ?_
        refine lv_idiv hx hb dX13_minutesBy_62 (by decide) ?_
        refine lv_icmp_ge (tgt := 73) hx hb dX13_minutesBy_63 rfl (fun c12 => ?_) (fun c12 => ?_)
        · replace h := ite_t c12 h
          refine lv_iload hx hb dX13_minutesBy_73 (lv_at hl 0 rfl) ?_
          exact r_iret hx hb hr hlocks hP hK hD hT hG hS (Option.some.inj h) rfl dX13_minutesBy_75
        · replace h := ite_f c12 h
          refine lv_iload hx hb dX13_minutesBy_66 (lv_at hl 1 rfl) ?_
          refine lv_iconst (v := 2) hx hb dX13_minutesBy_68 rfl ?_
          refine lv_idiv hx hb dX13_minutesBy_69 (by decide) ?_
          refine lv_goto (tgt := 75) hx hb dX13_minutesBy_70 rfl ?_
          exact r_iret hx hb hr hlocks hP hK hD hT hG hS (Option.some.inj h) rfl dX13_minutesBy_75
    · replace h := ite_t c4 h
      refine lv_bipush (v := 40) hx hb dX13_minutesBy_16 rfl ?_
      refine lv_goto (tgt := 45) hx hb dX13_minutesBy_18 rfl ?_
      refine lv_istore (lv' := [(5, .int 40), (4, .int (gI M b2 (ix x1))), (0, .ref (ad a0)), (1, .int x1), (2, .int x2), (3, .int x3)]) hx hb dX13_minutesBy_45 hl (by decide) rfl (fun ls hl => ?_)
      refine lv_iload hx hb dX13_minutesBy_47 (lv_at hl 0 rfl) ?_
      refine lv_iload_n hx hb dX13_minutesBy_49 rfl (lv_at hl 4 rfl) ?_
      refine lv_imul hx hb dX13_minutesBy_50 ?_
      refine lv_iload_n hx hb dX13_minutesBy_51 rfl (lv_at hl 5 rfl) ?_
      obtain ⟨z13, h13, h⟩ := ob_some h
      refine k_i (va_runS (As := [.int (40 * x2), .int x3]) (rest := []) ⟨hx, hb, hml, hown, hts⟩ (c_X13_up (l := l) M (40 * x2) x3 h13) (va_cwS 2 hts gX13_minutesBy_X13_up rfl rfl rfl hdS_X13_up ⟨Nat.le_of_ble_eq_true rfl, Nat.le_of_ble_eq_true rfl⟩) (pS hP hK hD hT hG hS) rfl rfl hl.1 rfl (lv_room (Nat.le_of_ble_eq_true rfl)) dX13_minutesBy_52 ⟨Nat.zero_le _, Nat.zero_le _⟩) hS (fun H locs hP hD hT hS => ?_)
      refine lv_istore (lv' := [(6, .int z13), (5, .int 40), (4, .int (gI M b2 (ix x1))), (0, .ref (ad a0)), (1, .int x1), (2, .int x2), (3, .int x3)]) hx hb dX13_minutesBy_55 hl (by decide) rfl (fun ls hl => ?_)
      refine lv_iload hx hb dX13_minutesBy_57 (lv_at hl 0 rfl) ?_
      refine lv_iload hx hb dX13_minutesBy_59 (lv_at hl 1 rfl) ?_
      refine lv_iconst (v := 2) hx hb dX13_minutesBy_61 rfl ?_
      refine lv_idiv hx hb dX13_minutesBy_62 (by decide) ?_
      refine lv_icmp_ge (tgt := 73) hx hb dX13_minutesBy_63 rfl (fun c14 => ?_) (fun c14 => ?_)
      · replace h := ite_t c14 h
        refine lv_iload hx hb dX13_minutesBy_73 (lv_at hl 0 rfl) ?_
        exact r_iret hx hb hr hlocks hP hK hD hT hG hS (Option.some.inj h) rfl dX13_minutesBy_75
      · replace h := ite_f c14 h
        refine lv_iload hx hb dX13_minutesBy_66 (lv_at hl 1 rfl) ?_
        refine lv_iconst (v := 2) hx hb dX13_minutesBy_68 rfl ?_
        refine lv_idiv hx hb dX13_minutesBy_69 (by decide) ?_
        refine lv_goto (tgt := 75) hx hb dX13_minutesBy_70 rfl ?_
        exact r_iret hx hb hr hlocks hP hK hD hT hG hS (Option.some.inj h) rfl dX13_minutesBy_75
set_option maxHeartbeats 4000000 in
set_option maxRecDepth 100000 in
theorem c_X13_minutes {l : Launch} {D : va_G} {ad : Nat → Nat} {cy : Nat → ClassId} {A : Nat → Prop} {g : CG} {q : SE} (M : MM) (a0 : Nat) (x1 : Int32) (x2 : Int32) (x3 : Int32) (x4 : Int32) (k0 : ok g a0 13 0) {Z : (Int32 × MM)} (h : f_X13_minutes M a0 x1 x2 x3 x4 = some Z) : Met l yX13_minutes wsX13_minutes ({ frames := 2, cells := 0, slots := 0, locals := 47 }) (va_Pc [.ref (ad a0), .int x1, .int x2, .int x3, .int x4] (Wd D ad cy A g q M)) (va_Qi (fun r u => r = Z.1 ∧ u = Z.2) (Wd D ad cy A g q) A) 0 0 A := by
  refine Met.ofW (cc := cX13_minutes) (maxL := 6) (ret := (some .int)) (by decide) rfl ?_
  intro p e s m args below meth c s₁ B hml hv
  obtain ⟨rfl, hP, hK, hD, hT, hG⟩ := hv
  have hx := B.exec
  have hb := B.bytes
  have hr := B.returns
  have hts := atoms_spec (ws := wsX13_minutes) B.pre
  have hown : s.vm.findClass RX13 = some m.cls := findClass_of_methodNamed B.named
  have hlocks := B.notSynchronized
  have in12 : ∀ w ∈ u_ws RX12 TX12 48, w ∈ wsX13_minutes := fun w h => List.mem_cons_of_mem _ (List.mem_append_right _ h)
  have in13 : ∀ w ∈ u_ws RX13 TX13 29, w ∈ wsX13_minutes := fun w h => List.mem_cons_of_mem _ (List.mem_append_left _ (List.mem_append_right _ h))
  have hS : va_S A s.heap s.heap [] := va_S.rf
  have hl := lv_entry ([.ref (ad a0), .int x1, .int x2, .int x3, .int x4]) (n := 6) (Nat.le_of_ble_eq_true rfl)
  rw [lg_entry_eq]
  generalize (lg_sl ([.ref (ad a0), .int x1, .int x2, .int x3, .int x4]) ++ List.replicate (6 - (lg_sl ([.ref (ad a0), .int x1, .int x2, .int x3, .int x4])).length) Slot.unset).toArray = ls at hl ⊢
  have hl : lv_has ls 6 [(0, .ref (ad a0)), (1, .int x1), (2, .int x2), (3, .int x3), (4, .int x4)] := hl
  unfold f_X13_minutes at h
  refine lv_aload_n hx hb dX13_minutes_0 rfl (lv_at hl 0 rfl) ?_
  refine lv_iconst (v := 0) hx hb dX13_minutes_1 rfl ?_
  refine r_putI (T := TX13) (ty := .int) (v := 0) hx hb hts in13 tyX13 tyX13_ok nmX13 hown hK hP hD hT hS k0 (by decide) rfl 0 (by decide) (hts (.fieldLink RX13 30 "StoneWalkModel" "thrown" "I") (List.mem_of_getElem? (i := 1) (by decide +kernel))) rfl rfl (tyX13_ok 0 (by decide)) rfl rfl rfl dX13_minutes_2 (fun H locs hP hD hT hS => ?_)
  refine lv_aload_n hx hb dX13_minutes_5 rfl (lv_at hl 0 rfl) ?_
  refine lv_iload_n hx hb dX13_minutes_6 rfl (lv_at hl 1 rfl) ?_
  refine lv_iload_n hx hb dX13_minutes_7 rfl (lv_at hl 2 rfl) ?_
  refine lv_iload_n hx hb dX13_minutes_8 rfl (lv_at hl 3 rfl) ?_
  obtain ⟨z1, h1, h⟩ := ob_some h
  refine k_i (va_runV (As := [.int x1, .int x2, .int x3]) (rest := []) ⟨hx, hb, hml, hown, hts⟩ (c_X13_refusesSlope (l := l) (pI M a0 0 0) a0 x1 x2 x3 k0 h1) (cwV 3 hts gX13_minutes_X13_refusesSlope rfl rfl rfl hdV_X13_refusesSlope ⟨Nat.le_of_ble_eq_true rfl, Nat.le_of_ble_eq_true rfl⟩) (pV (T := TX13) hP hK hD hT hG hS k0 (by decide) rfl) rfl rfl hl.1 rfl (lv_room (Nat.le_of_ble_eq_true rfl)) dX13_minutes_9 ⟨Nat.zero_le _, Nat.zero_le _⟩) hS (fun H locs hP hD hT hS => ?_)
  refine lv_istore (lv' := [(5, .int z1), (0, .ref (ad a0)), (1, .int x1), (2, .int x2), (3, .int x3), (4, .int x4)]) hx hb dX13_minutes_12 hl (by decide) rfl (fun ls hl => ?_)
  refine lv_iload hx hb dX13_minutes_14 (lv_at hl 0 rfl) ?_
  refine lv_if_le (tgt := 26) hx hb dX13_minutes_16 rfl (fun c2 => ?_) (fun c2 => ?_)
  · replace h := ite_t c2 h
    refine lv_iload hx hb dX13_minutes_26 (lv_at hl 5 rfl) ?_
    refine lv_iconst (v := 1) hx hb dX13_minutes_28 rfl ?_
    refine lv_sipush (v := 200) hx hb dX13_minutes_29 rfl ?_
    obtain ⟨z3, h3, h⟩ := ob_some h
    refine k_z (va_runS (As := [.int x4, .int 1, .int 200]) (rest := []) ⟨hx, hb, hml, hown, hts⟩ (c_X13_in (l := l) (pI M a0 0 0) x4 1 200 h3) (va_cwS 3 hts gX13_minutes_X13_in rfl rfl rfl hdS_X13_in ⟨Nat.le_of_ble_eq_true rfl, Nat.le_of_ble_eq_true rfl⟩) (pS hP hK hD hT hG hS) rfl rfl hl.1 rfl (lv_room (Nat.le_of_ble_eq_true rfl)) dX13_minutes_32 ⟨Nat.zero_le _, Nat.zero_le _⟩) hS (fun H locs hz3 hP hD hT hS => ?_)
    refine lv_if_eq (tgt := 67) hx hb dX13_minutes_35 rfl (fun c4 => ?_) (fun c4 => ?_)
    · replace h := ite_t c4 h
      refine lv_aload_n hx hb dX13_minutes_67 rfl (lv_at hl 1 rfl) ?_
      refine lv_iconst (v := 2) hx hb dX13_minutes_68 rfl ?_
      obtain ⟨z5, h5, h⟩ := ob_some h
      refine k_i (va_runV (As := [.int 2]) (rest := []) ⟨hx, hb, hml, hown, hts⟩ (c_X13_refused (l := l) (pI M a0 0 0) a0 2 k0 h5) (cwV 1 hts gX13_minutes_X13_refused rfl rfl rfl hdV_X13_refused ⟨Nat.le_of_ble_eq_true rfl, Nat.le_of_ble_eq_true rfl⟩) (pV (T := TX13) hP hK hD hT hG hS k0 (by decide) rfl) rfl rfl hl.1 rfl (lv_room (Nat.le_of_ble_eq_true rfl)) dX13_minutes_69 ⟨Nat.zero_le _, Nat.zero_le _⟩) hS (fun H locs hP hD hT hS => ?_)
      have hZ := Option.some.inj h
      exact r_iret hx hb hr hlocks hP hK hD hT hG hS (congrArg Prod.fst hZ) (congrArg Prod.snd hZ) dX13_minutes_72
    · replace h := ite_f c4 h
      refine lv_aload_n hx hb dX13_minutes_38 rfl (lv_at hl 1 rfl) ?_
      refine lv_aload_n hx hb dX13_minutes_39 rfl (lv_at hl 1 rfl) ?_
      refine lv_iload_n hx hb dX13_minutes_40 rfl (lv_at hl 2 rfl) ?_
      refine lv_aload_n hx hb dX13_minutes_41 rfl (lv_at hl 1 rfl) ?_
      refine lv_iload_n hx hb dX13_minutes_42 rfl (lv_at hl 2 rfl) ?_
      refine lv_aload_n hx hb dX13_minutes_43 rfl (lv_at hl 1 rfl) ?_
      rcases hN6 : gR (pI M a0 0 0) a0 3 with _ | b6
      · replace h := oc_n hN6 h
        refine r_get (T := TX13) (v := .null) hx hb hts in13 hown hK hP k0 (by decide) rfl 3 (by decide) (hts (.fieldLink RX13 431 "StoneWalkModel" "island" "LStoneWalkModel$Island;") (List.mem_of_getElem? (i := 2) (by decide +kernel))) rfl (t := 2) rfl (by show va_rf _ = _; rw [hN6]; rfl) dX13_minutes_44 ?_
        exact absurd h (by simp)
      · replace h := oc_s hN6 h
        have kb6 := hT.f k0 (k := 3) (t := 12) (n := 0) rfl hN6
        refine r_get (T := TX13) (v := .ref (ad b6)) hx hb hts in13 hown hK hP k0 (by decide) rfl 3 (by decide) (hts (.fieldLink RX13 431 "StoneWalkModel" "island" "LStoneWalkModel$Island;") (List.mem_of_getElem? (i := 2) (by decide +kernel))) rfl (t := 2) rfl (by show va_rf _ = _; rw [hN6]; rfl) dX13_minutes_44 ?_
        rcases hN7 : gR (pI M a0 0 0) b6 15 with _ | b7
        · exact absurd (oc_n hN7 h) (by simp)
        replace h := oc_s hN7 h
        have kb7 := hT.f kb6 (k := 15) (t := 15) (n := 10) rfl hN7
        refine r_getN (T := TX12) (v := .ref (ad b7)) hx hb hts in12 hown hK hP kb6 (by decide) rfl 15 (by decide) (hG.2.2.1 _ (List.mem_of_getElem? (i := 15) rfl)) rfl (t := 2) rfl (by show va_rf _ = _; rw [hN7]; rfl) dX13_minutes_47 ?_
        refine lv_iload_n hx hb dX13_minutes_50 rfl (lv_at hl 3 rfl) ?_
        obtain ⟨hn8, h⟩ := chk_some h
        refine r_iald hx hb hK hP kb7 hn8 dX13_minutes_51 ?_
        refine lv_iload_n hx hb dX13_minutes_52 rfl (lv_at hl 4 rfl) ?_
        obtain ⟨z9, h9, h⟩ := ob_some h
        refine k_i (va_runV (As := [.int x1, .int (gI (pI M a0 0 0) b7 (ix x2)), .int x3]) (rest := [.int x1, .ref (ad a0), .ref (ad a0)]) ⟨hx, hb, hml, hown, hts⟩ (c_X13_needBy (l := l) (pI M a0 0 0) a0 x1 (gI (pI M a0 0 0) b7 (ix x2)) x3 k0 h9) (cwV 3 hts gX13_minutes_X13_needBy rfl rfl rfl hdV_X13_needBy ⟨Nat.le_of_ble_eq_true rfl, Nat.le_of_ble_eq_true rfl⟩) (pV (T := TX13) hP hK hD hT hG hS k0 (by decide) rfl) rfl rfl hl.1 rfl (lv_room (Nat.le_of_ble_eq_true rfl)) dX13_minutes_53 ⟨Nat.zero_le _, Nat.zero_le _⟩) hS (fun H locs hP hD hT hS => ?_)
        refine lv_iload hx hb dX13_minutes_56 (lv_at hl 5 rfl) ?_
        obtain ⟨z10, h10, h⟩ := ob_some h
        refine k_i (va_runV (As := [.int x1, .int z9, .int x4]) (rest := [.ref (ad a0)]) ⟨hx, hb, hml, hown, hts⟩ (c_X13_minutesBy (l := l) (pI M a0 0 0) a0 x1 z9 x4 k0 h10) (cwV 3 hts gX13_minutes_X13_minutesBy rfl rfl rfl hdV_X13_minutesBy ⟨Nat.le_of_ble_eq_true rfl, Nat.le_of_ble_eq_true rfl⟩) (pV (T := TX13) hP hK hD hT hG hS k0 (by decide) rfl) rfl rfl hl.1 rfl (lv_room (Nat.le_of_ble_eq_true rfl)) dX13_minutes_58 ⟨Nat.zero_le _, Nat.zero_le _⟩) hS (fun H locs hP hD hT hS => ?_)
        obtain ⟨z11, h11, h⟩ := ob_some h
        refine k_i (va_runV (As := [.int z10]) (rest := []) ⟨hx, hb, hml, hown, hts⟩ (c_X13_done (l := l) (pI M a0 0 0) a0 z10 k0 h11) (cwV 1 hts gX13_minutes_X13_done rfl rfl rfl hdV_X13_done ⟨Nat.le_of_ble_eq_true rfl, Nat.le_of_ble_eq_true rfl⟩) (pV (T := TX13) hP hK hD hT hG hS k0 (by decide) rfl) rfl rfl hl.1 rfl (lv_room (Nat.le_of_ble_eq_true rfl)) dX13_minutes_61 ⟨Nat.zero_le _, Nat.zero_le _⟩) hS (fun H locs hP hD hT hS => ?_)
        refine lv_goto (tgt := 72) hx hb dX13_minutes_64 rfl ?_
        have hZ := Option.some.inj h
        exact r_iret hx hb hr hlocks hP hK hD hT hG hS (congrArg Prod.fst hZ) (congrArg Prod.snd hZ) dX13_minutes_72
  · replace h := ite_f c2 h
    refine lv_aload_n hx hb dX13_minutes_19 rfl (lv_at hl 1 rfl) ?_
    refine lv_iload hx hb dX13_minutes_20 (lv_at hl 0 rfl) ?_
    obtain ⟨z12, h12, h⟩ := ob_some h
    refine k_i (va_runV (As := [.int z1]) (rest := []) ⟨hx, hb, hml, hown, hts⟩ (c_X13_refused (l := l) (pI M a0 0 0) a0 z1 k0 h12) (cwV 1 hts gX13_minutes_X13_refused rfl rfl rfl hdV_X13_refused ⟨Nat.le_of_ble_eq_true rfl, Nat.le_of_ble_eq_true rfl⟩) (pV (T := TX13) hP hK hD hT hG hS k0 (by decide) rfl) rfl rfl hl.1 rfl (lv_room (Nat.le_of_ble_eq_true rfl)) dX13_minutes_22 ⟨Nat.zero_le _, Nat.zero_le _⟩) hS (fun H locs hP hD hT hS => ?_)
    have hZ := Option.some.inj h
    exact r_iret hx hb hr hlocks hP hK hD hT hG hS (congrArg Prod.fst hZ) (congrArg Prod.snd hZ) dX13_minutes_25
set_option maxHeartbeats 4000000 in
set_option maxRecDepth 100000 in
theorem c_X13_chanceBy {l : Launch} {D : va_G} {ad : Nat → Nat} {cy : Nat → ClassId} {A : Nat → Prop} {g : CG} {q : SE} (M : MM) (a0 : Nat) (x1 : Int32) (x2 : Int32) (x3 : Int32) (k0 : ok g a0 13 0) {Z : Int32} (h : f_X13_chanceBy M a0 x1 x2 x3 = some Z) : Met l yX13_chanceBy wsX13_chanceBy ({ frames := 0, cells := 0, slots := 0, locals := 0 }) (va_Pc [.ref (ad a0), .int x1, .int x2, .int x3] (Wd D ad cy A g q M)) (va_Qi (fun r u => r = Z ∧ u = M) (Wd D ad cy A g q) A) 0 0 A := by
  refine Met.ofW (cc := cX13_chanceBy) (maxL := 8) (ret := (some .int)) (by decide) rfl ?_
  intro p e s m args below meth c s₁ B hml hv
  obtain ⟨rfl, hP, hK, hD, hT, hG⟩ := hv
  have hx := B.exec
  have hb := B.bytes
  have hr := B.returns
  have hts := atoms_spec (ws := wsX13_chanceBy) B.pre
  have hown : s.vm.findClass RX13 = some m.cls := findClass_of_methodNamed B.named
  have hlocks := B.notSynchronized
  have in12 : ∀ w ∈ u_ws RX12 TX12 48, w ∈ wsX13_chanceBy := fun w h => List.mem_cons_of_mem _ (List.mem_append_right _ h)
  have in13 : ∀ w ∈ u_ws RX13 TX13 29, w ∈ wsX13_chanceBy := fun w h => List.mem_cons_of_mem _ (List.mem_append_left _ (List.mem_append_right _ h))
  have hS : va_S A s.heap s.heap [] := va_S.rf
  have hl := lv_entry ([.ref (ad a0), .int x1, .int x2, .int x3]) (n := 8) (Nat.le_of_ble_eq_true rfl)
  rw [lg_entry_eq]
  generalize (lg_sl ([.ref (ad a0), .int x1, .int x2, .int x3]) ++ List.replicate (8 - (lg_sl ([.ref (ad a0), .int x1, .int x2, .int x3])).length) Slot.unset).toArray = ls at hl ⊢
  have hl : lv_has ls 8 [(0, .ref (ad a0)), (1, .int x1), (2, .int x2), (3, .int x3)] := hl
  unfold f_X13_chanceBy at h
  refine lv_iload_n hx hb dX13_chanceBy_0 rfl (lv_at hl 3 rfl) ?_
  refine lv_if_ge (tgt := 9) hx hb dX13_chanceBy_1 rfl (fun c1 => ?_) (fun c1 => ?_)
  · replace h := ite_t c1 h
    refine lv_iload_n hx hb dX13_chanceBy_9 rfl (lv_at hl 3 rfl) ?_
    refine lv_istore (lv' := [(4, .int x3), (0, .ref (ad a0)), (1, .int x1), (2, .int x2), (3, .int x3)]) hx hb dX13_chanceBy_10 hl (by decide) rfl (fun ls hl => ?_)
    refine lv_aload_n hx hb dX13_chanceBy_12 rfl (lv_at hl 1 rfl) ?_
    rcases hN2 : gR M a0 3 with _ | b2
    · replace h := oc_n hN2 h
      refine r_get (T := TX13) (v := .null) hx hb hts in13 hown hK hP k0 (by decide) rfl 3 (by decide) (hts (.fieldLink RX13 431 "StoneWalkModel" "island" "LStoneWalkModel$Island;") (List.mem_of_getElem? (i := 1) (by decide +kernel))) rfl (t := 2) rfl (by show va_rf _ = _; rw [hN2]; rfl) dX13_chanceBy_13 ?_
      exact absurd h (by simp)
    · replace h := oc_s hN2 h
      have kb2 := hT.f k0 (k := 3) (t := 12) (n := 0) rfl hN2
      refine r_get (T := TX13) (v := .ref (ad b2)) hx hb hts in13 hown hK hP k0 (by decide) rfl 3 (by decide) (hts (.fieldLink RX13 431 "StoneWalkModel" "island" "LStoneWalkModel$Island;") (List.mem_of_getElem? (i := 1) (by decide +kernel))) rfl (t := 2) rfl (by show va_rf _ = _; rw [hN2]; rfl) dX13_chanceBy_13 ?_
      rcases hN3 : gR M b2 9 with _ | b3
      · exact absurd (oc_n hN3 h) (by simp)
      replace h := oc_s hN3 h
      have kb3 := hT.f kb2 (k := 9) (t := 15) (n := 4) rfl hN3
      refine r_getN (T := TX12) (v := .ref (ad b3)) hx hb hts in12 hown hK hP kb2 (by decide) rfl 9 (by decide) (hG.2.2.1 _ (List.mem_of_getElem? (i := 8) rfl)) rfl (t := 2) rfl (by show va_rf _ = _; rw [hN3]; rfl) dX13_chanceBy_16 ?_
      refine lv_iload_n hx hb dX13_chanceBy_19 rfl (lv_at hl 2 rfl) ?_
      obtain ⟨hn4, h⟩ := chk_some h
      refine r_iald hx hb hK hP kb3 hn4 dX13_chanceBy_20 ?_
      refine lv_istore (lv' := [(5, .int (gI M b3 (ix x1))), (4, .int x3), (0, .ref (ad a0)), (1, .int x1), (2, .int x2), (3, .int x3)]) hx hb dX13_chanceBy_21 hl (by decide) rfl (fun ls hl => ?_)
      refine lv_bipush (v := 10) hx hb dX13_chanceBy_23 rfl ?_
      refine lv_aload_n hx hb dX13_chanceBy_25 rfl (lv_at hl 2 rfl) ?_
      rcases hN5 : gR M a0 3 with _ | b5
      · replace h := oc_n hN5 h
        refine r_get (T := TX13) (v := .null) hx hb hts in13 hown hK hP k0 (by decide) rfl 3 (by decide) (hts (.fieldLink RX13 431 "StoneWalkModel" "island" "LStoneWalkModel$Island;") (List.mem_of_getElem? (i := 1) (by decide +kernel))) rfl (t := 2) rfl (by show va_rf _ = _; rw [hN5]; rfl) dX13_chanceBy_26 ?_
        exact absurd h (by simp)
      · replace h := oc_s hN5 h
        have kb5 := hT.f k0 (k := 3) (t := 12) (n := 0) rfl hN5
        refine r_get (T := TX13) (v := .ref (ad b5)) hx hb hts in13 hown hK hP k0 (by decide) rfl 3 (by decide) (hts (.fieldLink RX13 431 "StoneWalkModel" "island" "LStoneWalkModel$Island;") (List.mem_of_getElem? (i := 1) (by decide +kernel))) rfl (t := 2) rfl (by show va_rf _ = _; rw [hN5]; rfl) dX13_chanceBy_26 ?_
        rcases hN6 : gR M b5 17 with _ | b6
        · exact absurd (oc_n hN6 h) (by simp)
        replace h := oc_s hN6 h
        have kb6 := hT.f kb5 (k := 17) (t := 15) (n := 10) rfl hN6
        refine r_getN (T := TX12) (v := .ref (ad b6)) hx hb hts in12 hown hK hP kb5 (by decide) rfl 17 (by decide) (hG.2.2.1 _ (List.mem_of_getElem? (i := 17) rfl)) rfl (t := 2) rfl (by show va_rf _ = _; rw [hN6]; rfl) dX13_chanceBy_29 ?_
        refine lv_iload_n hx hb dX13_chanceBy_32 rfl (lv_at hl 4 rfl) ?_
        obtain ⟨hn7, h⟩ := chk_some h
        refine r_iald hx hb hK hP kb6 hn7 dX13_chanceBy_33 ?_
        refine lv_isub hx hb dX13_chanceBy_34 ?_
        refine lv_istore (lv' := [(6, .int (10 - (gI M b6 (ix x2)))), (5, .int (gI M b3 (ix x1))), (4, .int x3), (0, .ref (ad a0)), (1, .int x1), (2, .int x2), (3, .int x3)]) hx hb dX13_chanceBy_35 hl (by decide) rfl (fun ls hl => ?_)
        refine lv_iload hx hb dX13_chanceBy_37 (lv_at hl 1 rfl) ?_
        refine lv_if_ne (tgt := 61) hx hb dX13_chanceBy_39 rfl (fun c8 => ?_) (fun c8 => ?_)
        · replace h := ite_f c8 h
          refine lv_iload hx hb dX13_chanceBy_61 (lv_at hl 1 rfl) ?_
          refine lv_iconst (v := 1) hx hb dX13_chanceBy_63 rfl ?_
          refine lv_icmp_ne (tgt := 72) hx hb dX13_chanceBy_64 rfl (fun c9 => ?_) (fun c9 => ?_)
          · replace h := ite_f c9 h
            refine lv_iload hx hb dX13_chanceBy_72 (lv_at hl 1 rfl) ?_
            refine lv_iconst (v := 2) hx hb dX13_chanceBy_74 rfl ?_
            refine lv_icmp_ne (tgt := 85) hx hb dX13_chanceBy_75 rfl (fun c10 => ?_) (fun c10 => ?_)
            · replace h := ite_f c10 h
              refine lv_iconst (v := 0) hx hb dX13_chanceBy_85 rfl ?_
              refine lv_istore (lv' := [(7, .int 0), (6, .int (10 - (gI M b6 (ix x2)))), (5, .int (gI M b3 (ix x1))), (4, .int x3), (0, .ref (ad a0)), (1, .int x1), (2, .int x2), (3, .int x3)]) hx hb dX13_chanceBy_86 hl (by decide) rfl (fun ls hl => ?_)
              refine lv_iload hx hb dX13_chanceBy_88 (lv_at hl 0 rfl) ?_
              refine lv_bipush (v := 100) hx hb dX13_chanceBy_90 rfl ?_
              refine lv_icmp_le (tgt := 100) hx hb dX13_chanceBy_92 rfl (fun _ => ?_) (fun c11 => absurd c11 (by decide))
              refine lv_iload hx hb dX13_chanceBy_100 (lv_at hl 0 rfl) ?_
              exact r_iret hx hb hr hlocks hP hK hD hT hG hS (Option.some.inj h) rfl dX13_chanceBy_102
            · replace h := ite_t c10 h
              refine lv_iconst (v := 3) hx hb dX13_chanceBy_78 rfl ?_
              refine lv_iload hx hb dX13_chanceBy_79 (lv_at hl 2 rfl) ?_
              refine lv_imul hx hb dX13_chanceBy_81 ?_
              refine lv_goto (tgt := 86) hx hb dX13_chanceBy_82 rfl ?_
              refine lv_istore (lv' := [(7, .int (3 * x3)), (6, .int (10 - (gI M b6 (ix x2)))), (5, .int (gI M b3 (ix x1))), (4, .int x3), (0, .ref (ad a0)), (1, .int x1), (2, .int x2), (3, .int x3)]) hx hb dX13_chanceBy_86 hl (by decide) rfl (fun ls hl => ?_)
              refine lv_iload hx hb dX13_chanceBy_88 (lv_at hl 0 rfl) ?_
              refine lv_bipush (v := 100) hx hb dX13_chanceBy_90 rfl ?_
              refine lv_icmp_le (tgt := 100) hx hb dX13_chanceBy_92 rfl (fun c12 => ?_) (fun c12 => ?_)
              · replace h := ite_t c12 h
                refine lv_iload hx hb dX13_chanceBy_100 (lv_at hl 0 rfl) ?_
                exact r_iret hx hb hr hlocks hP hK hD hT hG hS (Option.some.inj h) rfl dX13_chanceBy_102
              · replace h := ite_f c12 h
                refine lv_bipush (v := 100) hx hb dX13_chanceBy_95 rfl ?_
                refine lv_goto (tgt := 102) hx hb dX13_chanceBy_97 rfl ?_
                exact r_iret hx hb hr hlocks hP hK hD hT hG hS (Option.some.inj h) rfl dX13_chanceBy_102
          · replace h := ite_t c9 h
            refine lv_iload hx hb dX13_chanceBy_67 (lv_at hl 2 rfl) ?_
            refine lv_goto (tgt := 86) hx hb dX13_chanceBy_69 rfl ?_
            refine lv_istore (lv' := [(7, .int x3), (6, .int (10 - (gI M b6 (ix x2)))), (5, .int (gI M b3 (ix x1))), (4, .int x3), (0, .ref (ad a0)), (1, .int x1), (2, .int x2), (3, .int x3)]) hx hb dX13_chanceBy_86 hl (by decide) rfl (fun ls hl => ?_)
            refine lv_iload hx hb dX13_chanceBy_88 (lv_at hl 0 rfl) ?_
            refine lv_bipush (v := 100) hx hb dX13_chanceBy_90 rfl ?_
            refine lv_icmp_le (tgt := 100) hx hb dX13_chanceBy_92 rfl (fun c13 => ?_) (fun c13 => ?_)
            · replace h := ite_t c13 h
              refine lv_iload hx hb dX13_chanceBy_100 (lv_at hl 0 rfl) ?_
              exact r_iret hx hb hr hlocks hP hK hD hT hG hS (Option.some.inj h) rfl dX13_chanceBy_102
            · replace h := ite_f c13 h
              refine lv_bipush (v := 100) hx hb dX13_chanceBy_95 rfl ?_
              refine lv_goto (tgt := 102) hx hb dX13_chanceBy_97 rfl ?_
              exact r_iret hx hb hr hlocks hP hK hD hT hG hS (Option.some.inj h) rfl dX13_chanceBy_102
        · replace h := ite_t c8 h
          refine lv_iconst (v := 2) hx hb dX13_chanceBy_42 rfl ?_
          refine lv_iload hx hb dX13_chanceBy_43 (lv_at hl 2 rfl) ?_
          refine lv_imul hx hb dX13_chanceBy_45 ?_
          refine lv_iload hx hb dX13_chanceBy_46 (lv_at hl 0 rfl) ?_
          refine lv_if_le (tgt := 56) hx hb dX13_chanceBy_48 rfl (fun c14 => ?_) (fun c14 => ?_)
          · replace h := ite_t c14 h
            refine lv_iconst (v := 0) hx hb dX13_chanceBy_56 rfl ?_
            refine lv_iadd hx hb dX13_chanceBy_57 ?_
            refine lv_goto (tgt := 86) hx hb dX13_chanceBy_58 rfl ?_
            refine lv_istore (lv' := [(7, .int ((2 * x3) + 0)), (6, .int (10 - (gI M b6 (ix x2)))), (5, .int (gI M b3 (ix x1))), (4, .int x3), (0, .ref (ad a0)), (1, .int x1), (2, .int x2), (3, .int x3)]) hx hb dX13_chanceBy_86 hl (by decide) rfl (fun ls hl => ?_)
            refine lv_iload hx hb dX13_chanceBy_88 (lv_at hl 0 rfl) ?_
            refine lv_bipush (v := 100) hx hb dX13_chanceBy_90 rfl ?_
            refine lv_icmp_le (tgt := 100) hx hb dX13_chanceBy_92 rfl (fun c15 => ?_) (fun c15 => ?_)
            · replace h := ite_t c15 h
              refine lv_iload hx hb dX13_chanceBy_100 (lv_at hl 0 rfl) ?_
              exact r_iret hx hb hr hlocks hP hK hD hT hG hS (Option.some.inj h) rfl dX13_chanceBy_102
            · replace h := ite_f c15 h
              refine lv_bipush (v := 100) hx hb dX13_chanceBy_95 rfl ?_
              refine lv_goto (tgt := 102) hx hb dX13_chanceBy_97 rfl ?_
              exact r_iret hx hb hr hlocks hP hK hD hT hG hS (Option.some.inj h) rfl dX13_chanceBy_102
          · replace h := ite_f c14 h
            refine lv_iload hx hb dX13_chanceBy_51 (lv_at hl 0 rfl) ?_
            refine lv_goto (tgt := 57) hx hb dX13_chanceBy_53 rfl ?_
            refine lv_iadd hx hb dX13_chanceBy_57 ?_
            refine lv_goto (tgt := 86) hx hb dX13_chanceBy_58 rfl ?_
            refine lv_istore (lv' := [(7, .int ((2 * x3) + (10 - (gI M b6 (ix x2))))), (6, .int (10 - (gI M b6 (ix x2)))), (5, .int (gI M b3 (ix x1))), (4, .int x3), (0, .ref (ad a0)), (1, .int x1), (2, .int x2), (3, .int x3)]) hx hb dX13_chanceBy_86 hl (by decide) rfl (fun ls hl => ?_)
            refine lv_iload hx hb dX13_chanceBy_88 (lv_at hl 0 rfl) ?_
            refine lv_bipush (v := 100) hx hb dX13_chanceBy_90 rfl ?_
            refine lv_icmp_le (tgt := 100) hx hb dX13_chanceBy_92 rfl (fun c16 => ?_) (fun c16 => ?_)
            · replace h := ite_t c16 h
              refine lv_iload hx hb dX13_chanceBy_100 (lv_at hl 0 rfl) ?_
              exact r_iret hx hb hr hlocks hP hK hD hT hG hS (Option.some.inj h) rfl dX13_chanceBy_102
            · replace h := ite_f c16 h
              refine lv_bipush (v := 100) hx hb dX13_chanceBy_95 rfl ?_
              refine lv_goto (tgt := 102) hx hb dX13_chanceBy_97 rfl ?_
              exact r_iret hx hb hr hlocks hP hK hD hT hG hS (Option.some.inj h) rfl dX13_chanceBy_102
  · replace h := ite_f c1 h
    refine lv_iload_n hx hb dX13_chanceBy_4 rfl (lv_at hl 3 rfl) ?_
    refine lv_ineg hx hb dX13_chanceBy_5 ?_
    refine lv_goto (tgt := 10) hx hb dX13_chanceBy_6 rfl ?_
    refine lv_istore (lv' := [(4, .int (-x3)), (0, .ref (ad a0)), (1, .int x1), (2, .int x2), (3, .int x3)]) hx hb dX13_chanceBy_10 hl (by decide) rfl (fun ls hl => ?_)
    refine lv_aload_n hx hb dX13_chanceBy_12 rfl (lv_at hl 1 rfl) ?_
    rcases hN17 : gR M a0 3 with _ | b17
    · replace h := oc_n hN17 h
      refine r_get (T := TX13) (v := .null) hx hb hts in13 hown hK hP k0 (by decide) rfl 3 (by decide) (hts (.fieldLink RX13 431 "StoneWalkModel" "island" "LStoneWalkModel$Island;") (List.mem_of_getElem? (i := 1) (by decide +kernel))) rfl (t := 2) rfl (by show va_rf _ = _; rw [hN17]; rfl) dX13_chanceBy_13 ?_
      exact absurd h (by simp)
    · replace h := oc_s hN17 h
      have kb17 := hT.f k0 (k := 3) (t := 12) (n := 0) rfl hN17
      refine r_get (T := TX13) (v := .ref (ad b17)) hx hb hts in13 hown hK hP k0 (by decide) rfl 3 (by decide) (hts (.fieldLink RX13 431 "StoneWalkModel" "island" "LStoneWalkModel$Island;") (List.mem_of_getElem? (i := 1) (by decide +kernel))) rfl (t := 2) rfl (by show va_rf _ = _; rw [hN17]; rfl) dX13_chanceBy_13 ?_
      rcases hN18 : gR M b17 9 with _ | b18
      · exact absurd (oc_n hN18 h) (by simp)
      replace h := oc_s hN18 h
      have kb18 := hT.f kb17 (k := 9) (t := 15) (n := 4) rfl hN18
      refine r_getN (T := TX12) (v := .ref (ad b18)) hx hb hts in12 hown hK hP kb17 (by decide) rfl 9 (by decide) (hG.2.2.1 _ (List.mem_of_getElem? (i := 8) rfl)) rfl (t := 2) rfl (by show va_rf _ = _; rw [hN18]; rfl) dX13_chanceBy_16 ?_
      refine lv_iload_n hx hb dX13_chanceBy_19 rfl (lv_at hl 2 rfl) ?_
      obtain ⟨hn19, h⟩ := chk_some h
      refine r_iald hx hb hK hP kb18 hn19 dX13_chanceBy_20 ?_
      refine lv_istore (lv' := [(5, .int (gI M b18 (ix x1))), (4, .int (-x3)), (0, .ref (ad a0)), (1, .int x1), (2, .int x2), (3, .int x3)]) hx hb dX13_chanceBy_21 hl (by decide) rfl (fun ls hl => ?_)
      refine lv_bipush (v := 10) hx hb dX13_chanceBy_23 rfl ?_
      refine lv_aload_n hx hb dX13_chanceBy_25 rfl (lv_at hl 2 rfl) ?_
      rcases hN20 : gR M a0 3 with _ | b20
      · replace h := oc_n hN20 h
        refine r_get (T := TX13) (v := .null) hx hb hts in13 hown hK hP k0 (by decide) rfl 3 (by decide) (hts (.fieldLink RX13 431 "StoneWalkModel" "island" "LStoneWalkModel$Island;") (List.mem_of_getElem? (i := 1) (by decide +kernel))) rfl (t := 2) rfl (by show va_rf _ = _; rw [hN20]; rfl) dX13_chanceBy_26 ?_
        exact absurd h (by simp)
      · replace h := oc_s hN20 h
        have kb20 := hT.f k0 (k := 3) (t := 12) (n := 0) rfl hN20
        refine r_get (T := TX13) (v := .ref (ad b20)) hx hb hts in13 hown hK hP k0 (by decide) rfl 3 (by decide) (hts (.fieldLink RX13 431 "StoneWalkModel" "island" "LStoneWalkModel$Island;") (List.mem_of_getElem? (i := 1) (by decide +kernel))) rfl (t := 2) rfl (by show va_rf _ = _; rw [hN20]; rfl) dX13_chanceBy_26 ?_
        rcases hN21 : gR M b20 17 with _ | b21
        · exact absurd (oc_n hN21 h) (by simp)
        replace h := oc_s hN21 h
        have kb21 := hT.f kb20 (k := 17) (t := 15) (n := 10) rfl hN21
        refine r_getN (T := TX12) (v := .ref (ad b21)) hx hb hts in12 hown hK hP kb20 (by decide) rfl 17 (by decide) (hG.2.2.1 _ (List.mem_of_getElem? (i := 17) rfl)) rfl (t := 2) rfl (by show va_rf _ = _; rw [hN21]; rfl) dX13_chanceBy_29 ?_
        refine lv_iload_n hx hb dX13_chanceBy_32 rfl (lv_at hl 4 rfl) ?_
        obtain ⟨hn22, h⟩ := chk_some h
        refine r_iald hx hb hK hP kb21 hn22 dX13_chanceBy_33 ?_
        refine lv_isub hx hb dX13_chanceBy_34 ?_
        refine lv_istore (lv' := [(6, .int (10 - (gI M b21 (ix x2)))), (5, .int (gI M b18 (ix x1))), (4, .int (-x3)), (0, .ref (ad a0)), (1, .int x1), (2, .int x2), (3, .int x3)]) hx hb dX13_chanceBy_35 hl (by decide) rfl (fun ls hl => ?_)
        refine lv_iload hx hb dX13_chanceBy_37 (lv_at hl 1 rfl) ?_
        refine lv_if_ne (tgt := 61) hx hb dX13_chanceBy_39 rfl (fun c23 => ?_) (fun c23 => ?_)
        · replace h := ite_f c23 h
          refine lv_iload hx hb dX13_chanceBy_61 (lv_at hl 1 rfl) ?_
          refine lv_iconst (v := 1) hx hb dX13_chanceBy_63 rfl ?_
          refine lv_icmp_ne (tgt := 72) hx hb dX13_chanceBy_64 rfl (fun c24 => ?_) (fun c24 => ?_)
          · replace h := ite_f c24 h
            refine lv_iload hx hb dX13_chanceBy_72 (lv_at hl 1 rfl) ?_
            refine lv_iconst (v := 2) hx hb dX13_chanceBy_74 rfl ?_
            refine lv_icmp_ne (tgt := 85) hx hb dX13_chanceBy_75 rfl (fun c25 => ?_) (fun c25 => ?_)
            · replace h := ite_f c25 h
              refine lv_iconst (v := 0) hx hb dX13_chanceBy_85 rfl ?_
              refine lv_istore (lv' := [(7, .int 0), (6, .int (10 - (gI M b21 (ix x2)))), (5, .int (gI M b18 (ix x1))), (4, .int (-x3)), (0, .ref (ad a0)), (1, .int x1), (2, .int x2), (3, .int x3)]) hx hb dX13_chanceBy_86 hl (by decide) rfl (fun ls hl => ?_)
              refine lv_iload hx hb dX13_chanceBy_88 (lv_at hl 0 rfl) ?_
              refine lv_bipush (v := 100) hx hb dX13_chanceBy_90 rfl ?_
              refine lv_icmp_le (tgt := 100) hx hb dX13_chanceBy_92 rfl (fun _ => ?_) (fun c26 => absurd c26 (by decide))
              refine lv_iload hx hb dX13_chanceBy_100 (lv_at hl 0 rfl) ?_
              exact r_iret hx hb hr hlocks hP hK hD hT hG hS (Option.some.inj h) rfl dX13_chanceBy_102
            · replace h := ite_t c25 h
              refine lv_iconst (v := 3) hx hb dX13_chanceBy_78 rfl ?_
              refine lv_iload hx hb dX13_chanceBy_79 (lv_at hl 2 rfl) ?_
              refine lv_imul hx hb dX13_chanceBy_81 ?_
              refine lv_goto (tgt := 86) hx hb dX13_chanceBy_82 rfl ?_
              refine lv_istore (lv' := [(7, .int (3 * (-x3))), (6, .int (10 - (gI M b21 (ix x2)))), (5, .int (gI M b18 (ix x1))), (4, .int (-x3)), (0, .ref (ad a0)), (1, .int x1), (2, .int x2), (3, .int x3)]) hx hb dX13_chanceBy_86 hl (by decide) rfl (fun ls hl => ?_)
              refine lv_iload hx hb dX13_chanceBy_88 (lv_at hl 0 rfl) ?_
              refine lv_bipush (v := 100) hx hb dX13_chanceBy_90 rfl ?_
              refine lv_icmp_le (tgt := 100) hx hb dX13_chanceBy_92 rfl (fun c27 => ?_) (fun c27 => ?_)
              · replace h := ite_t c27 h
                refine lv_iload hx hb dX13_chanceBy_100 (lv_at hl 0 rfl) ?_
                exact r_iret hx hb hr hlocks hP hK hD hT hG hS (Option.some.inj h) rfl dX13_chanceBy_102
              · replace h := ite_f c27 h
                refine lv_bipush (v := 100) hx hb dX13_chanceBy_95 rfl ?_
                refine lv_goto (tgt := 102) hx hb dX13_chanceBy_97 rfl ?_
                exact r_iret hx hb hr hlocks hP hK hD hT hG hS (Option.some.inj h) rfl dX13_chanceBy_102
          · replace h := ite_t c24 h
            refine lv_iload hx hb dX13_chanceBy_67 (lv_at hl 2 rfl) ?_
            refine lv_goto (tgt := 86) hx hb dX13_chanceBy_69 rfl ?_
            refine lv_istore (lv' := [(7, .int (-x3)), (6, .int (10 - (gI M b21 (ix x2)))), (5, .int (gI M b18 (ix x1))), (4, .int (-x3)), (0, .ref (ad a0)), (1, .int x1), (2, .int x2), (3, .int x3)]) hx hb dX13_chanceBy_86 hl (by decide) rfl (fun ls hl => ?_)
            refine lv_iload hx hb dX13_chanceBy_88 (lv_at hl 0 rfl) ?_
            refine lv_bipush (v := 100) hx hb dX13_chanceBy_90 rfl ?_
            refine lv_icmp_le (tgt := 100) hx hb dX13_chanceBy_92 rfl (fun c28 => ?_) (fun c28 => ?_)
            · replace h := ite_t c28 h
              refine lv_iload hx hb dX13_chanceBy_100 (lv_at hl 0 rfl) ?_
              exact r_iret hx hb hr hlocks hP hK hD hT hG hS (Option.some.inj h) rfl dX13_chanceBy_102
            · replace h := ite_f c28 h
              refine lv_bipush (v := 100) hx hb dX13_chanceBy_95 rfl ?_
              refine lv_goto (tgt := 102) hx hb dX13_chanceBy_97 rfl ?_
              exact r_iret hx hb hr hlocks hP hK hD hT hG hS (Option.some.inj h) rfl dX13_chanceBy_102
        · replace h := ite_t c23 h
          refine lv_iconst (v := 2) hx hb dX13_chanceBy_42 rfl ?_
          refine lv_iload hx hb dX13_chanceBy_43 (lv_at hl 2 rfl) ?_
          refine lv_imul hx hb dX13_chanceBy_45 ?_
          refine lv_iload hx hb dX13_chanceBy_46 (lv_at hl 0 rfl) ?_
          refine lv_if_le (tgt := 56) hx hb dX13_chanceBy_48 rfl (fun c29 => ?_) (fun c29 => ?_)
          · replace h := ite_t c29 h
            refine lv_iconst (v := 0) hx hb dX13_chanceBy_56 rfl ?_
            refine lv_iadd hx hb dX13_chanceBy_57 ?_
            refine lv_goto (tgt := 86) hx hb dX13_chanceBy_58 rfl ?_
            refine lv_istore (lv' := [(7, .int ((2 * (-x3)) + 0)), (6, .int (10 - (gI M b21 (ix x2)))), (5, .int (gI M b18 (ix x1))), (4, .int (-x3)), (0, .ref (ad a0)), (1, .int x1), (2, .int x2), (3, .int x3)]) hx hb dX13_chanceBy_86 hl (by decide) rfl (fun ls hl => ?_)
            refine lv_iload hx hb dX13_chanceBy_88 (lv_at hl 0 rfl) ?_
            refine lv_bipush (v := 100) hx hb dX13_chanceBy_90 rfl ?_
            refine lv_icmp_le (tgt := 100) hx hb dX13_chanceBy_92 rfl (fun c30 => ?_) (fun c30 => ?_)
            · replace h := ite_t c30 h
              refine lv_iload hx hb dX13_chanceBy_100 (lv_at hl 0 rfl) ?_
              exact r_iret hx hb hr hlocks hP hK hD hT hG hS (Option.some.inj h) rfl dX13_chanceBy_102
            · replace h := ite_f c30 h
              refine lv_bipush (v := 100) hx hb dX13_chanceBy_95 rfl ?_
              refine lv_goto (tgt := 102) hx hb dX13_chanceBy_97 rfl ?_
              exact r_iret hx hb hr hlocks hP hK hD hT hG hS (Option.some.inj h) rfl dX13_chanceBy_102
          · replace h := ite_f c29 h
            refine lv_iload hx hb dX13_chanceBy_51 (lv_at hl 0 rfl) ?_
            refine lv_goto (tgt := 57) hx hb dX13_chanceBy_53 rfl ?_
            refine lv_iadd hx hb dX13_chanceBy_57 ?_
            refine lv_goto (tgt := 86) hx hb dX13_chanceBy_58 rfl ?_
            refine lv_istore (lv' := [(7, .int ((2 * (-x3)) + (10 - (gI M b21 (ix x2))))), (6, .int (10 - (gI M b21 (ix x2)))), (5, .int (gI M b18 (ix x1))), (4, .int (-x3)), (0, .ref (ad a0)), (1, .int x1), (2, .int x2), (3, .int x3)]) hx hb dX13_chanceBy_86 hl (by decide) rfl (fun ls hl => ?_)
            refine lv_iload hx hb dX13_chanceBy_88 (lv_at hl 0 rfl) ?_
            refine lv_bipush (v := 100) hx hb dX13_chanceBy_90 rfl ?_
            refine lv_icmp_le (tgt := 100) hx hb dX13_chanceBy_92 rfl (fun c31 => ?_) (fun c31 => ?_)
            · replace h := ite_t c31 h
              refine lv_iload hx hb dX13_chanceBy_100 (lv_at hl 0 rfl) ?_
              exact r_iret hx hb hr hlocks hP hK hD hT hG hS (Option.some.inj h) rfl dX13_chanceBy_102
            · replace h := ite_f c31 h
              refine lv_bipush (v := 100) hx hb dX13_chanceBy_95 rfl ?_
              refine lv_goto (tgt := 102) hx hb dX13_chanceBy_97 rfl ?_
              exact r_iret hx hb hr hlocks hP hK hD hT hG hS (Option.some.inj h) rfl dX13_chanceBy_102
set_option maxHeartbeats 4000000 in
set_option maxRecDepth 100000 in
theorem c_X13_chance {l : Launch} {D : va_G} {ad : Nat → Nat} {cy : Nat → ClassId} {A : Nat → Prop} {g : CG} {q : SE} (M : MM) (a0 : Nat) (x1 : Int32) (x2 : Int32) (x3 : Int32) (k0 : ok g a0 13 0) {Z : (Int32 × MM)} (h : f_X13_chance M a0 x1 x2 x3 = some Z) : Met l yX13_chance wsX13_chance ({ frames := 2, cells := 0, slots := 0, locals := 45 }) (va_Pc [.ref (ad a0), .int x1, .int x2, .int x3] (Wd D ad cy A g q M)) (va_Qi (fun r u => r = Z.1 ∧ u = Z.2) (Wd D ad cy A g q) A) 0 0 A := by
  refine Met.ofW (cc := cX13_chance) (maxL := 5) (ret := (some .int)) (by decide) rfl ?_
  intro p e s m args below meth c s₁ B hml hv
  obtain ⟨rfl, hP, hK, hD, hT, hG⟩ := hv
  have hx := B.exec
  have hb := B.bytes
  have hr := B.returns
  have hts := atoms_spec (ws := wsX13_chance) B.pre
  have hown : s.vm.findClass RX13 = some m.cls := findClass_of_methodNamed B.named
  have hlocks := B.notSynchronized
  have in13 : ∀ w ∈ u_ws RX13 TX13 29, w ∈ wsX13_chance := fun w h => List.mem_cons_of_mem _ (List.mem_append_left _ (List.mem_append_right _ h))
  have hS : va_S A s.heap s.heap [] := va_S.rf
  have hl := lv_entry ([.ref (ad a0), .int x1, .int x2, .int x3]) (n := 5) (Nat.le_of_ble_eq_true rfl)
  rw [lg_entry_eq]
  generalize (lg_sl ([.ref (ad a0), .int x1, .int x2, .int x3]) ++ List.replicate (5 - (lg_sl ([.ref (ad a0), .int x1, .int x2, .int x3])).length) Slot.unset).toArray = ls at hl ⊢
  have hl : lv_has ls 5 [(0, .ref (ad a0)), (1, .int x1), (2, .int x2), (3, .int x3)] := hl
  unfold f_X13_chance at h
  refine lv_aload_n hx hb dX13_chance_0 rfl (lv_at hl 0 rfl) ?_
  refine lv_iconst (v := 0) hx hb dX13_chance_1 rfl ?_
  refine r_putI (T := TX13) (ty := .int) (v := 0) hx hb hts in13 tyX13 tyX13_ok nmX13 hown hK hP hD hT hS k0 (by decide) rfl 0 (by decide) (hts (.fieldLink RX13 30 "StoneWalkModel" "thrown" "I") (List.mem_of_getElem? (i := 1) (by decide +kernel))) rfl rfl (tyX13_ok 0 (by decide)) rfl rfl rfl dX13_chance_2 (fun H locs hP hD hT hS => ?_)
  refine lv_aload_n hx hb dX13_chance_5 rfl (lv_at hl 0 rfl) ?_
  refine lv_iload_n hx hb dX13_chance_6 rfl (lv_at hl 1 rfl) ?_
  refine lv_iload_n hx hb dX13_chance_7 rfl (lv_at hl 2 rfl) ?_
  refine lv_iload_n hx hb dX13_chance_8 rfl (lv_at hl 3 rfl) ?_
  obtain ⟨z1, h1, h⟩ := ob_some h
  refine k_i (va_runV (As := [.int x1, .int x2, .int x3]) (rest := []) ⟨hx, hb, hml, hown, hts⟩ (c_X13_refusesSlope (l := l) (pI M a0 0 0) a0 x1 x2 x3 k0 h1) (cwV 3 hts gX13_chance_X13_refusesSlope rfl rfl rfl hdV_X13_refusesSlope ⟨Nat.le_of_ble_eq_true rfl, Nat.le_of_ble_eq_true rfl⟩) (pV (T := TX13) hP hK hD hT hG hS k0 (by decide) rfl) rfl rfl hl.1 rfl (lv_room (Nat.le_of_ble_eq_true rfl)) dX13_chance_9 ⟨Nat.zero_le _, Nat.zero_le _⟩) hS (fun H locs hP hD hT hS => ?_)
  refine lv_istore (lv' := [(4, .int z1), (0, .ref (ad a0)), (1, .int x1), (2, .int x2), (3, .int x3)]) hx hb dX13_chance_12 hl (by decide) rfl (fun ls hl => ?_)
  refine lv_iload hx hb dX13_chance_14 (lv_at hl 0 rfl) ?_
  refine lv_if_le (tgt := 28) hx hb dX13_chance_16 rfl (fun c2 => ?_) (fun c2 => ?_)
  · replace h := ite_t c2 h
    refine lv_aload_n hx hb dX13_chance_28 rfl (lv_at hl 1 rfl) ?_
    refine lv_aload_n hx hb dX13_chance_29 rfl (lv_at hl 1 rfl) ?_
    refine lv_iload_n hx hb dX13_chance_30 rfl (lv_at hl 2 rfl) ?_
    refine lv_iload_n hx hb dX13_chance_31 rfl (lv_at hl 3 rfl) ?_
    refine lv_iload_n hx hb dX13_chance_32 rfl (lv_at hl 4 rfl) ?_
    obtain ⟨z3, h3, h⟩ := ob_some h
    refine k_i (va_runV (As := [.int x1, .int x2, .int x3]) (rest := [.ref (ad a0)]) ⟨hx, hb, hml, hown, hts⟩ (c_X13_chanceBy (l := l) (pI M a0 0 0) a0 x1 x2 x3 k0 h3) (cwV 3 hts gX13_chance_X13_chanceBy rfl rfl rfl hdV_X13_chanceBy ⟨Nat.le_of_ble_eq_true rfl, Nat.le_of_ble_eq_true rfl⟩) (pV (T := TX13) hP hK hD hT hG hS k0 (by decide) rfl) rfl rfl hl.1 rfl (lv_room (Nat.le_of_ble_eq_true rfl)) dX13_chance_33 ⟨Nat.zero_le _, Nat.zero_le _⟩) hS (fun H locs hP hD hT hS => ?_)
    obtain ⟨z4, h4, h⟩ := ob_some h
    refine k_i (va_runV (As := [.int z3]) (rest := []) ⟨hx, hb, hml, hown, hts⟩ (c_X13_done (l := l) (pI M a0 0 0) a0 z3 k0 h4) (cwV 1 hts gX13_chance_X13_done rfl rfl rfl hdV_X13_done ⟨Nat.le_of_ble_eq_true rfl, Nat.le_of_ble_eq_true rfl⟩) (pV (T := TX13) hP hK hD hT hG hS k0 (by decide) rfl) rfl rfl hl.1 rfl (lv_room (Nat.le_of_ble_eq_true rfl)) dX13_chance_36 ⟨Nat.zero_le _, Nat.zero_le _⟩) hS (fun H locs hP hD hT hS => ?_)
    have hZ := Option.some.inj h
    exact r_iret hx hb hr hlocks hP hK hD hT hG hS (congrArg Prod.fst hZ) (congrArg Prod.snd hZ) dX13_chance_39
  · replace h := ite_f c2 h
    refine lv_aload_n hx hb dX13_chance_19 rfl (lv_at hl 1 rfl) ?_
    refine lv_iload hx hb dX13_chance_20 (lv_at hl 0 rfl) ?_
    obtain ⟨z5, h5, h⟩ := ob_some h
    refine k_i (va_runV (As := [.int z1]) (rest := []) ⟨hx, hb, hml, hown, hts⟩ (c_X13_refused (l := l) (pI M a0 0 0) a0 z1 k0 h5) (cwV 1 hts gX13_chance_X13_refused rfl rfl rfl hdV_X13_refused ⟨Nat.le_of_ble_eq_true rfl, Nat.le_of_ble_eq_true rfl⟩) (pV (T := TX13) hP hK hD hT hG hS k0 (by decide) rfl) rfl rfl hl.1 rfl (lv_room (Nat.le_of_ble_eq_true rfl)) dX13_chance_22 ⟨Nat.zero_le _, Nat.zero_le _⟩) hS (fun H locs hP hD hT hS => ?_)
    refine lv_goto (tgt := 39) hx hb dX13_chance_25 rfl ?_
    have hZ := Option.some.inj h
    exact r_iret hx hb hr hlocks hP hK hD hT hG hS (congrArg Prod.fst hZ) (congrArg Prod.snd hZ) dX13_chance_39
set_option maxHeartbeats 4000000 in
set_option maxRecDepth 100000 in
theorem c_X13_tenths {l : Launch} {D : va_G} {ad : Nat → Nat} {cy : Nat → ClassId} {A : Nat → Prop} {g : CG} {q : SE} (M : MM) (a0 : Nat) (x1 : Int32) (x2 : Int32) (x3 : Int32) (k0 : ok g a0 13 0) {Z : Int32} (h : f_X13_tenths M a0 x1 x2 x3 = some Z) : Met l yX13_tenths wsX13_tenths ({ frames := 0, cells := 0, slots := 0, locals := 0 }) (va_Pc [.ref (ad a0), .int x1, .int x2, .int x3] (Wd D ad cy A g q M)) (va_Qi (fun r u => r = Z ∧ u = M) (Wd D ad cy A g q) A) 0 0 A := by
  refine Met.ofW (cc := cX13_tenths) (maxL := 6) (ret := (some .int)) (by decide) rfl ?_
  intro p e s m args below meth c s₁ B hml hv
  obtain ⟨rfl, hP, hK, hD, hT, hG⟩ := hv
  have hx := B.exec
  have hb := B.bytes
  have hr := B.returns
  have hts := atoms_spec (ws := wsX13_tenths) B.pre
  have hown : s.vm.findClass RX13 = some m.cls := findClass_of_methodNamed B.named
  have hlocks := B.notSynchronized
  have in12 : ∀ w ∈ u_ws RX12 TX12 48, w ∈ wsX13_tenths := fun w h => List.mem_cons_of_mem _ (List.mem_append_right _ h)
  have in13 : ∀ w ∈ u_ws RX13 TX13 29, w ∈ wsX13_tenths := fun w h => List.mem_cons_of_mem _ (List.mem_append_left _ (List.mem_append_right _ h))
  have hS : va_S A s.heap s.heap [] := va_S.rf
  have hl := lv_entry ([.ref (ad a0), .int x1, .int x2, .int x3]) (n := 6) (Nat.le_of_ble_eq_true rfl)
  rw [lg_entry_eq]
  generalize (lg_sl ([.ref (ad a0), .int x1, .int x2, .int x3]) ++ List.replicate (6 - (lg_sl ([.ref (ad a0), .int x1, .int x2, .int x3])).length) Slot.unset).toArray = ls at hl ⊢
  have hl : lv_has ls 6 [(0, .ref (ad a0)), (1, .int x1), (2, .int x2), (3, .int x3)] := hl
  unfold f_X13_tenths at h
  refine lv_aload_n hx hb dX13_tenths_0 rfl (lv_at hl 0 rfl) ?_
  rcases hN1 : gR M a0 3 with _ | b1
  · replace h := oc_n hN1 h
    refine r_get (T := TX13) (v := .null) hx hb hts in13 hown hK hP k0 (by decide) rfl 3 (by decide) (hts (.fieldLink RX13 431 "StoneWalkModel" "island" "LStoneWalkModel$Island;") (List.mem_of_getElem? (i := 1) (by decide +kernel))) rfl (t := 2) rfl (by show va_rf _ = _; rw [hN1]; rfl) dX13_tenths_1 ?_
    exact absurd h (by simp)
  · replace h := oc_s hN1 h
    have kb1 := hT.f k0 (k := 3) (t := 12) (n := 0) rfl hN1
    refine r_get (T := TX13) (v := .ref (ad b1)) hx hb hts in13 hown hK hP k0 (by decide) rfl 3 (by decide) (hts (.fieldLink RX13 431 "StoneWalkModel" "island" "LStoneWalkModel$Island;") (List.mem_of_getElem? (i := 1) (by decide +kernel))) rfl (t := 2) rfl (by show va_rf _ = _; rw [hN1]; rfl) dX13_tenths_1 ?_
    rcases hN2 : gR M b1 9 with _ | b2
    · exact absurd (oc_n hN2 h) (by simp)
    replace h := oc_s hN2 h
    have kb2 := hT.f kb1 (k := 9) (t := 15) (n := 4) rfl hN2
    refine r_getN (T := TX12) (v := .ref (ad b2)) hx hb hts in12 hown hK hP kb1 (by decide) rfl 9 (by decide) (hG.2.2.1 _ (List.mem_of_getElem? (i := 8) rfl)) rfl (t := 2) rfl (by show va_rf _ = _; rw [hN2]; rfl) dX13_tenths_4 ?_
    refine lv_iload_n hx hb dX13_tenths_7 rfl (lv_at hl 1 rfl) ?_
    obtain ⟨hn3, h⟩ := chk_some h
    refine r_iald hx hb hK hP kb2 hn3 dX13_tenths_8 ?_
    by_cases c4_0 : gI M b2 (ix x1) = 0
    · replace h := ite_t c4_0 h
      refine lv_tableIn (tgt := 36) (off := 27) hx hb dX13_tenths_9 (by rw [c4_0]; decide) (by rw [c4_0]; decide) (by rw [c4_0]; decide) rfl ?_
      refine lv_iload_n hx hb dX13_tenths_36 rfl (lv_at hl 2 rfl) ?_
      refine lv_if_ge (tgt := 45) hx hb dX13_tenths_37 rfl (fun c5 => ?_) (fun c5 => ?_)
      · replace h := ite_t c5 h
        refine lv_iload_n hx hb dX13_tenths_45 rfl (lv_at hl 2 rfl) ?_
        refine lv_if_ne (tgt := 53) hx hb dX13_tenths_46 rfl (fun c6 => ?_) (fun c6 => ?_)
        · replace h := ite_f c6 h
          refine lv_iconst (v := 2) hx hb dX13_tenths_53 rfl ?_
          refine lv_istore (lv' := [(4, .int 2), (0, .ref (ad a0)), (1, .int x1), (2, .int x2), (3, .int x3)]) hx hb dX13_tenths_54 hl (by decide) rfl (fun ls hl => ?_)
          refine lv_iload_n hx hb dX13_tenths_56 rfl (lv_at hl 3 rfl) ?_
          refine lv_if_ge (tgt := 64) hx hb dX13_tenths_57 rfl (fun c7 => ?_) (fun c7 => ?_)
          · replace h := ite_t c7 h
            refine lv_iload_n hx hb dX13_tenths_64 rfl (lv_at hl 3 rfl) ?_
            refine lv_if_ne (tgt := 72) hx hb dX13_tenths_65 rfl (fun c8 => ?_) (fun c8 => ?_)
            · replace h := ite_f c8 h
              refine lv_bipush (v := 7) hx hb dX13_tenths_72 rfl ?_
              refine lv_istore (lv' := [(5, .int 7), (4, .int 2), (0, .ref (ad a0)), (1, .int x1), (2, .int x2), (3, .int x3)]) hx hb dX13_tenths_74 hl (by decide) rfl (fun ls hl => ?_)
              refine lv_goto (tgt := 136) hx hb dX13_tenths_76 rfl ?_
              refine lv_iload_n hx hb dX13_tenths_136 rfl (lv_at hl 5 rfl) ?_
              refine lv_if_ne (tgt := 145) hx hb dX13_tenths_137 rfl (fun c9 => ?_) (fun c9 => ?_)
              · replace h := ite_f c9 h
                refine lv_iload_n hx hb dX13_tenths_145 rfl (lv_at hl 5 rfl) ?_
                refine lv_iconst (v := 1) hx hb dX13_tenths_146 rfl ?_
                refine lv_icmp_ne (tgt := 155) hx hb dX13_tenths_147 rfl (fun c10 => ?_) (fun c10 => ?_)
                · replace h := ite_f c10 h
                  refine lv_bipush (v := 10) hx hb dX13_tenths_155 rfl ?_
                  refine lv_iload hx hb dX13_tenths_157 (lv_at hl 1 rfl) ?_
                  refine lv_isub hx hb dX13_tenths_159 ?_
                  refine lv_iload hx hb dX13_tenths_160 (lv_at hl 0 rfl) ?_
                  refine lv_isub hx hb dX13_tenths_162 ?_
                  exact r_iret hx hb hr hlocks hP hK hD hT hG hS (Option.some.inj h) rfl dX13_tenths_163
                · replace h := ite_t c10 h
                  refine lv_iload hx hb dX13_tenths_150 (lv_at hl 0 rfl) ?_
                  refine lv_goto (tgt := 163) hx hb dX13_tenths_152 rfl ?_
                  exact r_iret hx hb hr hlocks hP hK hD hT hG hS (Option.some.inj h) rfl dX13_tenths_163
              · replace h := ite_t c9 h
                refine lv_iload hx hb dX13_tenths_140 (lv_at hl 1 rfl) ?_
                refine lv_goto (tgt := 163) hx hb dX13_tenths_142 rfl ?_
                exact r_iret hx hb hr hlocks hP hK hD hT hG hS (Option.some.inj h) rfl dX13_tenths_163
            · replace h := ite_t c8 h
              refine lv_iconst (v := 4) hx hb dX13_tenths_68 rfl ?_
              refine lv_goto (tgt := 74) hx hb dX13_tenths_69 rfl ?_
              refine lv_istore (lv' := [(5, .int 4), (4, .int 2), (0, .ref (ad a0)), (1, .int x1), (2, .int x2), (3, .int x3)]) hx hb dX13_tenths_74 hl (by decide) rfl (fun ls hl => ?_)
              refine lv_goto (tgt := 136) hx hb dX13_tenths_76 rfl ?_
              refine lv_iload_n hx hb dX13_tenths_136 rfl (lv_at hl 5 rfl) ?_
              refine lv_if_ne (tgt := 145) hx hb dX13_tenths_137 rfl (fun c11 => ?_) (fun c11 => ?_)
              · replace h := ite_f c11 h
                refine lv_iload_n hx hb dX13_tenths_145 rfl (lv_at hl 5 rfl) ?_
                refine lv_iconst (v := 1) hx hb dX13_tenths_146 rfl ?_
                refine lv_icmp_ne (tgt := 155) hx hb dX13_tenths_147 rfl (fun c12 => ?_) (fun c12 => ?_)
                · replace h := ite_f c12 h
                  refine lv_bipush (v := 10) hx hb dX13_tenths_155 rfl ?_
                  refine lv_iload hx hb dX13_tenths_157 (lv_at hl 1 rfl) ?_
                  refine lv_isub hx hb dX13_tenths_159 ?_
                  refine lv_iload hx hb dX13_tenths_160 (lv_at hl 0 rfl) ?_
                  refine lv_isub hx hb dX13_tenths_162 ?_
                  exact r_iret hx hb hr hlocks hP hK hD hT hG hS (Option.some.inj h) rfl dX13_tenths_163
                · replace h := ite_t c12 h
                  refine lv_iload hx hb dX13_tenths_150 (lv_at hl 0 rfl) ?_
                  refine lv_goto (tgt := 163) hx hb dX13_tenths_152 rfl ?_
                  exact r_iret hx hb hr hlocks hP hK hD hT hG hS (Option.some.inj h) rfl dX13_tenths_163
              · replace h := ite_t c11 h
                refine lv_iload hx hb dX13_tenths_140 (lv_at hl 1 rfl) ?_
                refine lv_goto (tgt := 163) hx hb dX13_tenths_142 rfl ?_
                exact r_iret hx hb hr hlocks hP hK hD hT hG hS (Option.some.inj h) rfl dX13_tenths_163
          · replace h := ite_f c7 h
            refine lv_iconst (v := 1) hx hb dX13_tenths_60 rfl ?_
            refine lv_goto (tgt := 74) hx hb dX13_tenths_61 rfl ?_
            refine lv_istore (lv' := [(5, .int 1), (4, .int 2), (0, .ref (ad a0)), (1, .int x1), (2, .int x2), (3, .int x3)]) hx hb dX13_tenths_74 hl (by decide) rfl (fun ls hl => ?_)
            refine lv_goto (tgt := 136) hx hb dX13_tenths_76 rfl ?_
            refine lv_iload_n hx hb dX13_tenths_136 rfl (lv_at hl 5 rfl) ?_
            refine lv_if_ne (tgt := 145) hx hb dX13_tenths_137 rfl (fun c13 => ?_) (fun c13 => ?_)
            · replace h := ite_f c13 h
              refine lv_iload_n hx hb dX13_tenths_145 rfl (lv_at hl 5 rfl) ?_
              refine lv_iconst (v := 1) hx hb dX13_tenths_146 rfl ?_
              refine lv_icmp_ne (tgt := 155) hx hb dX13_tenths_147 rfl (fun c14 => ?_) (fun c14 => ?_)
              · replace h := ite_f c14 h
                refine lv_bipush (v := 10) hx hb dX13_tenths_155 rfl ?_
                refine lv_iload hx hb dX13_tenths_157 (lv_at hl 1 rfl) ?_
                refine lv_isub hx hb dX13_tenths_159 ?_
                refine lv_iload hx hb dX13_tenths_160 (lv_at hl 0 rfl) ?_
                refine lv_isub hx hb dX13_tenths_162 ?_
                exact r_iret hx hb hr hlocks hP hK hD hT hG hS (Option.some.inj h) rfl dX13_tenths_163
              · replace h := ite_t c14 h
                refine lv_iload hx hb dX13_tenths_150 (lv_at hl 0 rfl) ?_
                refine lv_goto (tgt := 163) hx hb dX13_tenths_152 rfl ?_
                exact r_iret hx hb hr hlocks hP hK hD hT hG hS (Option.some.inj h) rfl dX13_tenths_163
            · replace h := ite_t c13 h
              refine lv_iload hx hb dX13_tenths_140 (lv_at hl 1 rfl) ?_
              refine lv_goto (tgt := 163) hx hb dX13_tenths_142 rfl ?_
              exact r_iret hx hb hr hlocks hP hK hD hT hG hS (Option.some.inj h) rfl dX13_tenths_163
        · replace h := ite_t c6 h
          refine lv_iconst (v := 4) hx hb dX13_tenths_49 rfl ?_
          refine lv_goto (tgt := 54) hx hb dX13_tenths_50 rfl ?_
          refine lv_istore (lv' := [(4, .int 4), (0, .ref (ad a0)), (1, .int x1), (2, .int x2), (3, .int x3)]) hx hb dX13_tenths_54 hl (by decide) rfl (fun ls hl => ?_)
          refine lv_iload_n hx hb dX13_tenths_56 rfl (lv_at hl 3 rfl) ?_
          refine lv_if_ge (tgt := 64) hx hb dX13_tenths_57 rfl (fun c15 => ?_) (fun c15 => ?_)
          · replace h := ite_t c15 h
            refine lv_iload_n hx hb dX13_tenths_64 rfl (lv_at hl 3 rfl) ?_
            refine lv_if_ne (tgt := 72) hx hb dX13_tenths_65 rfl (fun c16 => ?_) (fun c16 => ?_)
            · replace h := ite_f c16 h
              refine lv_bipush (v := 7) hx hb dX13_tenths_72 rfl ?_
              refine lv_istore (lv' := [(5, .int 7), (4, .int 4), (0, .ref (ad a0)), (1, .int x1), (2, .int x2), (3, .int x3)]) hx hb dX13_tenths_74 hl (by decide) rfl (fun ls hl => ?_)
              refine lv_goto (tgt := 136) hx hb dX13_tenths_76 rfl ?_
              refine lv_iload_n hx hb dX13_tenths_136 rfl (lv_at hl 5 rfl) ?_
              refine lv_if_ne (tgt := 145) hx hb dX13_tenths_137 rfl (fun c17 => ?_) (fun c17 => ?_)
              · replace h := ite_f c17 h
                refine lv_iload_n hx hb dX13_tenths_145 rfl (lv_at hl 5 rfl) ?_
                refine lv_iconst (v := 1) hx hb dX13_tenths_146 rfl ?_
                refine lv_icmp_ne (tgt := 155) hx hb dX13_tenths_147 rfl (fun c18 => ?_) (fun c18 => ?_)
                · replace h := ite_f c18 h
                  refine lv_bipush (v := 10) hx hb dX13_tenths_155 rfl ?_
                  refine lv_iload hx hb dX13_tenths_157 (lv_at hl 1 rfl) ?_
                  refine lv_isub hx hb dX13_tenths_159 ?_
                  refine lv_iload hx hb dX13_tenths_160 (lv_at hl 0 rfl) ?_
                  refine lv_isub hx hb dX13_tenths_162 ?_
                  exact r_iret hx hb hr hlocks hP hK hD hT hG hS (Option.some.inj h) rfl dX13_tenths_163
                · replace h := ite_t c18 h
                  refine lv_iload hx hb dX13_tenths_150 (lv_at hl 0 rfl) ?_
                  refine lv_goto (tgt := 163) hx hb dX13_tenths_152 rfl ?_
                  exact r_iret hx hb hr hlocks hP hK hD hT hG hS (Option.some.inj h) rfl dX13_tenths_163
              · replace h := ite_t c17 h
                refine lv_iload hx hb dX13_tenths_140 (lv_at hl 1 rfl) ?_
                refine lv_goto (tgt := 163) hx hb dX13_tenths_142 rfl ?_
                exact r_iret hx hb hr hlocks hP hK hD hT hG hS (Option.some.inj h) rfl dX13_tenths_163
            · replace h := ite_t c16 h
              refine lv_iconst (v := 4) hx hb dX13_tenths_68 rfl ?_
              refine lv_goto (tgt := 74) hx hb dX13_tenths_69 rfl ?_
              refine lv_istore (lv' := [(5, .int 4), (4, .int 4), (0, .ref (ad a0)), (1, .int x1), (2, .int x2), (3, .int x3)]) hx hb dX13_tenths_74 hl (by decide) rfl (fun ls hl => ?_)
              refine lv_goto (tgt := 136) hx hb dX13_tenths_76 rfl ?_
              refine lv_iload_n hx hb dX13_tenths_136 rfl (lv_at hl 5 rfl) ?_
              refine lv_if_ne (tgt := 145) hx hb dX13_tenths_137 rfl (fun c19 => ?_) (fun c19 => ?_)
              · replace h := ite_f c19 h
                refine lv_iload_n hx hb dX13_tenths_145 rfl (lv_at hl 5 rfl) ?_
                refine lv_iconst (v := 1) hx hb dX13_tenths_146 rfl ?_
                refine lv_icmp_ne (tgt := 155) hx hb dX13_tenths_147 rfl (fun c20 => ?_) (fun c20 => ?_)
                · replace h := ite_f c20 h
                  refine lv_bipush (v := 10) hx hb dX13_tenths_155 rfl ?_
                  refine lv_iload hx hb dX13_tenths_157 (lv_at hl 1 rfl) ?_
                  refine lv_isub hx hb dX13_tenths_159 ?_
                  refine lv_iload hx hb dX13_tenths_160 (lv_at hl 0 rfl) ?_
                  refine lv_isub hx hb dX13_tenths_162 ?_
                  exact r_iret hx hb hr hlocks hP hK hD hT hG hS (Option.some.inj h) rfl dX13_tenths_163
                · replace h := ite_t c20 h
                  refine lv_iload hx hb dX13_tenths_150 (lv_at hl 0 rfl) ?_
                  refine lv_goto (tgt := 163) hx hb dX13_tenths_152 rfl ?_
                  exact r_iret hx hb hr hlocks hP hK hD hT hG hS (Option.some.inj h) rfl dX13_tenths_163
              · replace h := ite_t c19 h
                refine lv_iload hx hb dX13_tenths_140 (lv_at hl 1 rfl) ?_
                refine lv_goto (tgt := 163) hx hb dX13_tenths_142 rfl ?_
                exact r_iret hx hb hr hlocks hP hK hD hT hG hS (Option.some.inj h) rfl dX13_tenths_163
          · replace h := ite_f c15 h
            refine lv_iconst (v := 1) hx hb dX13_tenths_60 rfl ?_
            refine lv_goto (tgt := 74) hx hb dX13_tenths_61 rfl ?_
            refine lv_istore (lv' := [(5, .int 1), (4, .int 4), (0, .ref (ad a0)), (1, .int x1), (2, .int x2), (3, .int x3)]) hx hb dX13_tenths_74 hl (by decide) rfl (fun ls hl => ?_)
            refine lv_goto (tgt := 136) hx hb dX13_tenths_76 rfl ?_
            refine lv_iload_n hx hb dX13_tenths_136 rfl (lv_at hl 5 rfl) ?_
            refine lv_if_ne (tgt := 145) hx hb dX13_tenths_137 rfl (fun c21 => ?_) (fun c21 => ?_)
            · replace h := ite_f c21 h
              refine lv_iload_n hx hb dX13_tenths_145 rfl (lv_at hl 5 rfl) ?_
              refine lv_iconst (v := 1) hx hb dX13_tenths_146 rfl ?_
              refine lv_icmp_ne (tgt := 155) hx hb dX13_tenths_147 rfl (fun c22 => ?_) (fun c22 => ?_)
              · replace h := ite_f c22 h
                refine lv_bipush (v := 10) hx hb dX13_tenths_155 rfl ?_
                refine lv_iload hx hb dX13_tenths_157 (lv_at hl 1 rfl) ?_
                refine lv_isub hx hb dX13_tenths_159 ?_
                refine lv_iload hx hb dX13_tenths_160 (lv_at hl 0 rfl) ?_
                refine lv_isub hx hb dX13_tenths_162 ?_
                exact r_iret hx hb hr hlocks hP hK hD hT hG hS (Option.some.inj h) rfl dX13_tenths_163
              · replace h := ite_t c22 h
                refine lv_iload hx hb dX13_tenths_150 (lv_at hl 0 rfl) ?_
                refine lv_goto (tgt := 163) hx hb dX13_tenths_152 rfl ?_
                exact r_iret hx hb hr hlocks hP hK hD hT hG hS (Option.some.inj h) rfl dX13_tenths_163
            · replace h := ite_t c21 h
              refine lv_iload hx hb dX13_tenths_140 (lv_at hl 1 rfl) ?_
              refine lv_goto (tgt := 163) hx hb dX13_tenths_142 rfl ?_
              exact r_iret hx hb hr hlocks hP hK hD hT hG hS (Option.some.inj h) rfl dX13_tenths_163
      · replace h := ite_f c5 h
        refine lv_bipush (v := 8) hx hb dX13_tenths_40 rfl ?_
        refine lv_goto (tgt := 54) hx hb dX13_tenths_42 rfl ?_
        refine lv_istore (lv' := [(4, .int 8), (0, .ref (ad a0)), (1, .int x1), (2, .int x2), (3, .int x3)]) hx hb dX13_tenths_54 hl (by decide) rfl (fun ls hl => ?_)
        refine lv_iload_n hx hb dX13_tenths_56 rfl (lv_at hl 3 rfl) ?_
        refine lv_if_ge (tgt := 64) hx hb dX13_tenths_57 rfl (fun c23 => ?_) (fun c23 => ?_)
        · replace h := ite_t c23 h
          refine lv_iload_n hx hb dX13_tenths_64 rfl (lv_at hl 3 rfl) ?_
          refine lv_if_ne (tgt := 72) hx hb dX13_tenths_65 rfl (fun c24 => ?_) (fun c24 => ?_)
          · replace h := ite_f c24 h
            refine lv_bipush (v := 7) hx hb dX13_tenths_72 rfl ?_
            refine lv_istore (lv' := [(5, .int 7), (4, .int 8), (0, .ref (ad a0)), (1, .int x1), (2, .int x2), (3, .int x3)]) hx hb dX13_tenths_74 hl (by decide) rfl (fun ls hl => ?_)
            refine lv_goto (tgt := 136) hx hb dX13_tenths_76 rfl ?_
            refine lv_iload_n hx hb dX13_tenths_136 rfl (lv_at hl 5 rfl) ?_
            refine lv_if_ne (tgt := 145) hx hb dX13_tenths_137 rfl (fun c25 => ?_) (fun c25 => ?_)
            · replace h := ite_f c25 h
              refine lv_iload_n hx hb dX13_tenths_145 rfl (lv_at hl 5 rfl) ?_
              refine lv_iconst (v := 1) hx hb dX13_tenths_146 rfl ?_
              refine lv_icmp_ne (tgt := 155) hx hb dX13_tenths_147 rfl (fun c26 => ?_) (fun c26 => ?_)
              · replace h := ite_f c26 h
                refine lv_bipush (v := 10) hx hb dX13_tenths_155 rfl ?_
                refine lv_iload hx hb dX13_tenths_157 (lv_at hl 1 rfl) ?_
                refine lv_isub hx hb dX13_tenths_159 ?_
                refine lv_iload hx hb dX13_tenths_160 (lv_at hl 0 rfl) ?_
                refine lv_isub hx hb dX13_tenths_162 ?_
                exact r_iret hx hb hr hlocks hP hK hD hT hG hS (Option.some.inj h) rfl dX13_tenths_163
              · replace h := ite_t c26 h
                refine lv_iload hx hb dX13_tenths_150 (lv_at hl 0 rfl) ?_
                refine lv_goto (tgt := 163) hx hb dX13_tenths_152 rfl ?_
                exact r_iret hx hb hr hlocks hP hK hD hT hG hS (Option.some.inj h) rfl dX13_tenths_163
            · replace h := ite_t c25 h
              refine lv_iload hx hb dX13_tenths_140 (lv_at hl 1 rfl) ?_
              refine lv_goto (tgt := 163) hx hb dX13_tenths_142 rfl ?_
              exact r_iret hx hb hr hlocks hP hK hD hT hG hS (Option.some.inj h) rfl dX13_tenths_163
          · replace h := ite_t c24 h
            refine lv_iconst (v := 4) hx hb dX13_tenths_68 rfl ?_
            refine lv_goto (tgt := 74) hx hb dX13_tenths_69 rfl ?_
            refine lv_istore (lv' := [(5, .int 4), (4, .int 8), (0, .ref (ad a0)), (1, .int x1), (2, .int x2), (3, .int x3)]) hx hb dX13_tenths_74 hl (by decide) rfl (fun ls hl => ?_)
            refine lv_goto (tgt := 136) hx hb dX13_tenths_76 rfl ?_
            refine lv_iload_n hx hb dX13_tenths_136 rfl (lv_at hl 5 rfl) ?_
            refine lv_if_ne (tgt := 145) hx hb dX13_tenths_137 rfl (fun c27 => ?_) (fun c27 => ?_)
            · replace h := ite_f c27 h
              refine lv_iload_n hx hb dX13_tenths_145 rfl (lv_at hl 5 rfl) ?_
              refine lv_iconst (v := 1) hx hb dX13_tenths_146 rfl ?_
              refine lv_icmp_ne (tgt := 155) hx hb dX13_tenths_147 rfl (fun c28 => ?_) (fun c28 => ?_)
              · replace h := ite_f c28 h
                refine lv_bipush (v := 10) hx hb dX13_tenths_155 rfl ?_
                refine lv_iload hx hb dX13_tenths_157 (lv_at hl 1 rfl) ?_
                refine lv_isub hx hb dX13_tenths_159 ?_
                refine lv_iload hx hb dX13_tenths_160 (lv_at hl 0 rfl) ?_
                refine lv_isub hx hb dX13_tenths_162 ?_
                exact r_iret hx hb hr hlocks hP hK hD hT hG hS (Option.some.inj h) rfl dX13_tenths_163
              · replace h := ite_t c28 h
                refine lv_iload hx hb dX13_tenths_150 (lv_at hl 0 rfl) ?_
                refine lv_goto (tgt := 163) hx hb dX13_tenths_152 rfl ?_
                exact r_iret hx hb hr hlocks hP hK hD hT hG hS (Option.some.inj h) rfl dX13_tenths_163
            · replace h := ite_t c27 h
              refine lv_iload hx hb dX13_tenths_140 (lv_at hl 1 rfl) ?_
              refine lv_goto (tgt := 163) hx hb dX13_tenths_142 rfl ?_
              exact r_iret hx hb hr hlocks hP hK hD hT hG hS (Option.some.inj h) rfl dX13_tenths_163
        · replace h := ite_f c23 h
          refine lv_iconst (v := 1) hx hb dX13_tenths_60 rfl ?_
          refine lv_goto (tgt := 74) hx hb dX13_tenths_61 rfl ?_
          refine lv_istore (lv' := [(5, .int 1), (4, .int 8), (0, .ref (ad a0)), (1, .int x1), (2, .int x2), (3, .int x3)]) hx hb dX13_tenths_74 hl (by decide) rfl (fun ls hl => ?_)
          refine lv_goto (tgt := 136) hx hb dX13_tenths_76 rfl ?_
          refine lv_iload_n hx hb dX13_tenths_136 rfl (lv_at hl 5 rfl) ?_
          refine lv_if_ne (tgt := 145) hx hb dX13_tenths_137 rfl (fun c29 => ?_) (fun c29 => ?_)
          · replace h := ite_f c29 h
            refine lv_iload_n hx hb dX13_tenths_145 rfl (lv_at hl 5 rfl) ?_
            refine lv_iconst (v := 1) hx hb dX13_tenths_146 rfl ?_
            refine lv_icmp_ne (tgt := 155) hx hb dX13_tenths_147 rfl (fun c30 => ?_) (fun c30 => ?_)
            · replace h := ite_f c30 h
              refine lv_bipush (v := 10) hx hb dX13_tenths_155 rfl ?_
              refine lv_iload hx hb dX13_tenths_157 (lv_at hl 1 rfl) ?_
              refine lv_isub hx hb dX13_tenths_159 ?_
              refine lv_iload hx hb dX13_tenths_160 (lv_at hl 0 rfl) ?_
              refine lv_isub hx hb dX13_tenths_162 ?_
              exact r_iret hx hb hr hlocks hP hK hD hT hG hS (Option.some.inj h) rfl dX13_tenths_163
            · replace h := ite_t c30 h
              refine lv_iload hx hb dX13_tenths_150 (lv_at hl 0 rfl) ?_
              refine lv_goto (tgt := 163) hx hb dX13_tenths_152 rfl ?_
              exact r_iret hx hb hr hlocks hP hK hD hT hG hS (Option.some.inj h) rfl dX13_tenths_163
          · replace h := ite_t c29 h
            refine lv_iload hx hb dX13_tenths_140 (lv_at hl 1 rfl) ?_
            refine lv_goto (tgt := 163) hx hb dX13_tenths_142 rfl ?_
            exact r_iret hx hb hr hlocks hP hK hD hT hG hS (Option.some.inj h) rfl dX13_tenths_163
    · replace h := ite_f c4_0 h
      by_cases c4_1 : gI M b2 (ix x1) = 1
      · replace h := ite_t c4_1 h
        refine lv_tableIn (tgt := 79) (off := 70) hx hb dX13_tenths_9 (by rw [c4_1]; decide) (by rw [c4_1]; decide) (by rw [c4_1]; decide) rfl ?_
        refine lv_iconst (v := 2) hx hb dX13_tenths_79 rfl ?_
        refine lv_istore (lv' := [(4, .int 2), (0, .ref (ad a0)), (1, .int x1), (2, .int x2), (3, .int x3)]) hx hb dX13_tenths_80 hl (by decide) rfl (fun ls hl => ?_)
        refine lv_iconst (v := 2) hx hb dX13_tenths_82 rfl ?_
        refine lv_istore (lv' := [(5, .int 2), (4, .int 2), (0, .ref (ad a0)), (1, .int x1), (2, .int x2), (3, .int x3)]) hx hb dX13_tenths_83 hl (by decide) rfl (fun ls hl => ?_)
        refine lv_goto (tgt := 136) hx hb dX13_tenths_85 rfl ?_
        refine lv_iload_n hx hb dX13_tenths_136 rfl (lv_at hl 5 rfl) ?_
        refine lv_if_ne (tgt := 145) hx hb dX13_tenths_137 rfl (fun c31 => ?_) (fun c31 => ?_)
        · replace h := ite_f c31 h
          refine lv_iload_n hx hb dX13_tenths_145 rfl (lv_at hl 5 rfl) ?_
          refine lv_iconst (v := 1) hx hb dX13_tenths_146 rfl ?_
          refine lv_icmp_ne (tgt := 155) hx hb dX13_tenths_147 rfl (fun c32 => ?_) (fun c32 => ?_)
          · replace h := ite_f c32 h
            refine lv_bipush (v := 10) hx hb dX13_tenths_155 rfl ?_
            refine lv_iload hx hb dX13_tenths_157 (lv_at hl 1 rfl) ?_
            refine lv_isub hx hb dX13_tenths_159 ?_
            refine lv_iload hx hb dX13_tenths_160 (lv_at hl 0 rfl) ?_
            refine lv_isub hx hb dX13_tenths_162 ?_
            exact r_iret hx hb hr hlocks hP hK hD hT hG hS (Option.some.inj h) rfl dX13_tenths_163
          · replace h := ite_t c32 h
            refine lv_iload hx hb dX13_tenths_150 (lv_at hl 0 rfl) ?_
            refine lv_goto (tgt := 163) hx hb dX13_tenths_152 rfl ?_
            exact r_iret hx hb hr hlocks hP hK hD hT hG hS (Option.some.inj h) rfl dX13_tenths_163
        · replace h := ite_t c31 h
          refine lv_iload hx hb dX13_tenths_140 (lv_at hl 1 rfl) ?_
          refine lv_goto (tgt := 163) hx hb dX13_tenths_142 rfl ?_
          exact r_iret hx hb hr hlocks hP hK hD hT hG hS (Option.some.inj h) rfl dX13_tenths_163
      · replace h := ite_f c4_1 h
        by_cases c4_2 : gI M b2 (ix x1) = 2
        · replace h := ite_t c4_2 h
          refine lv_tableIn (tgt := 88) (off := 79) hx hb dX13_tenths_9 (by rw [c4_2]; decide) (by rw [c4_2]; decide) (by rw [c4_2]; decide) rfl ?_
          refine lv_iload_n hx hb dX13_tenths_88 rfl (lv_at hl 2 rfl) ?_
          refine lv_if_ge (tgt := 96) hx hb dX13_tenths_89 rfl (fun c33 => ?_) (fun c33 => ?_)
          · replace h := ite_t c33 h
            refine lv_iconst (v := 2) hx hb dX13_tenths_96 rfl ?_
            refine lv_istore (lv' := [(4, .int 2), (0, .ref (ad a0)), (1, .int x1), (2, .int x2), (3, .int x3)]) hx hb dX13_tenths_97 hl (by decide) rfl (fun ls hl => ?_)
            refine lv_iload_n hx hb dX13_tenths_99 rfl (lv_at hl 3 rfl) ?_
            refine lv_if_ge (tgt := 107) hx hb dX13_tenths_100 rfl (fun c34 => ?_) (fun c34 => ?_)
            · replace h := ite_t c34 h
              refine lv_iconst (v := 3) hx hb dX13_tenths_107 rfl ?_
              refine lv_istore (lv' := [(5, .int 3), (4, .int 2), (0, .ref (ad a0)), (1, .int x1), (2, .int x2), (3, .int x3)]) hx hb dX13_tenths_108 hl (by decide) rfl (fun ls hl => ?_)
              refine lv_goto (tgt := 136) hx hb dX13_tenths_110 rfl ?_
              refine lv_iload_n hx hb dX13_tenths_136 rfl (lv_at hl 5 rfl) ?_
              refine lv_if_ne (tgt := 145) hx hb dX13_tenths_137 rfl (fun c35 => ?_) (fun c35 => ?_)
              · replace h := ite_f c35 h
                refine lv_iload_n hx hb dX13_tenths_145 rfl (lv_at hl 5 rfl) ?_
                refine lv_iconst (v := 1) hx hb dX13_tenths_146 rfl ?_
                refine lv_icmp_ne (tgt := 155) hx hb dX13_tenths_147 rfl (fun c36 => ?_) (fun c36 => ?_)
                · replace h := ite_f c36 h
                  refine lv_bipush (v := 10) hx hb dX13_tenths_155 rfl ?_
                  refine lv_iload hx hb dX13_tenths_157 (lv_at hl 1 rfl) ?_
                  refine lv_isub hx hb dX13_tenths_159 ?_
                  refine lv_iload hx hb dX13_tenths_160 (lv_at hl 0 rfl) ?_
                  refine lv_isub hx hb dX13_tenths_162 ?_
                  exact r_iret hx hb hr hlocks hP hK hD hT hG hS (Option.some.inj h) rfl dX13_tenths_163
                · replace h := ite_t c36 h
                  refine lv_iload hx hb dX13_tenths_150 (lv_at hl 0 rfl) ?_
                  refine lv_goto (tgt := 163) hx hb dX13_tenths_152 rfl ?_
                  exact r_iret hx hb hr hlocks hP hK hD hT hG hS (Option.some.inj h) rfl dX13_tenths_163
              · replace h := ite_t c35 h
                refine lv_iload hx hb dX13_tenths_140 (lv_at hl 1 rfl) ?_
                refine lv_goto (tgt := 163) hx hb dX13_tenths_142 rfl ?_
                exact r_iret hx hb hr hlocks hP hK hD hT hG hS (Option.some.inj h) rfl dX13_tenths_163
            · replace h := ite_f c34 h
              refine lv_iconst (v := 2) hx hb dX13_tenths_103 rfl ?_
              refine lv_goto (tgt := 108) hx hb dX13_tenths_104 rfl ?_
              refine lv_istore (lv' := [(5, .int 2), (4, .int 2), (0, .ref (ad a0)), (1, .int x1), (2, .int x2), (3, .int x3)]) hx hb dX13_tenths_108 hl (by decide) rfl (fun ls hl => ?_)
              refine lv_goto (tgt := 136) hx hb dX13_tenths_110 rfl ?_
              refine lv_iload_n hx hb dX13_tenths_136 rfl (lv_at hl 5 rfl) ?_
              refine lv_if_ne (tgt := 145) hx hb dX13_tenths_137 rfl (fun c37 => ?_) (fun c37 => ?_)
              · replace h := ite_f c37 h
                refine lv_iload_n hx hb dX13_tenths_145 rfl (lv_at hl 5 rfl) ?_
                refine lv_iconst (v := 1) hx hb dX13_tenths_146 rfl ?_
                refine lv_icmp_ne (tgt := 155) hx hb dX13_tenths_147 rfl (fun c38 => ?_) (fun c38 => ?_)
                · replace h := ite_f c38 h
                  refine lv_bipush (v := 10) hx hb dX13_tenths_155 rfl ?_
                  refine lv_iload hx hb dX13_tenths_157 (lv_at hl 1 rfl) ?_
                  refine lv_isub hx hb dX13_tenths_159 ?_
                  refine lv_iload hx hb dX13_tenths_160 (lv_at hl 0 rfl) ?_
                  refine lv_isub hx hb dX13_tenths_162 ?_
                  exact r_iret hx hb hr hlocks hP hK hD hT hG hS (Option.some.inj h) rfl dX13_tenths_163
                · replace h := ite_t c38 h
                  refine lv_iload hx hb dX13_tenths_150 (lv_at hl 0 rfl) ?_
                  refine lv_goto (tgt := 163) hx hb dX13_tenths_152 rfl ?_
                  exact r_iret hx hb hr hlocks hP hK hD hT hG hS (Option.some.inj h) rfl dX13_tenths_163
              · replace h := ite_t c37 h
                refine lv_iload hx hb dX13_tenths_140 (lv_at hl 1 rfl) ?_
                refine lv_goto (tgt := 163) hx hb dX13_tenths_142 rfl ?_
                exact r_iret hx hb hr hlocks hP hK hD hT hG hS (Option.some.inj h) rfl dX13_tenths_163
          · replace h := ite_f c33 h
            refine lv_iconst (v := 3) hx hb dX13_tenths_92 rfl ?_
            refine lv_goto (tgt := 97) hx hb dX13_tenths_93 rfl ?_
            refine lv_istore (lv' := [(4, .int 3), (0, .ref (ad a0)), (1, .int x1), (2, .int x2), (3, .int x3)]) hx hb dX13_tenths_97 hl (by decide) rfl (fun ls hl => ?_)
            refine lv_iload_n hx hb dX13_tenths_99 rfl (lv_at hl 3 rfl) ?_
            refine lv_if_ge (tgt := 107) hx hb dX13_tenths_100 rfl (fun c39 => ?_) (fun c39 => ?_)
            · replace h := ite_t c39 h
              refine lv_iconst (v := 3) hx hb dX13_tenths_107 rfl ?_
              refine lv_istore (lv' := [(5, .int 3), (4, .int 3), (0, .ref (ad a0)), (1, .int x1), (2, .int x2), (3, .int x3)]) hx hb dX13_tenths_108 hl (by decide) rfl (fun ls hl => ?_)
              refine lv_goto (tgt := 136) hx hb dX13_tenths_110 rfl ?_
              refine lv_iload_n hx hb dX13_tenths_136 rfl (lv_at hl 5 rfl) ?_
              refine lv_if_ne (tgt := 145) hx hb dX13_tenths_137 rfl (fun c40 => ?_) (fun c40 => ?_)
              · replace h := ite_f c40 h
                refine lv_iload_n hx hb dX13_tenths_145 rfl (lv_at hl 5 rfl) ?_
                refine lv_iconst (v := 1) hx hb dX13_tenths_146 rfl ?_
                refine lv_icmp_ne (tgt := 155) hx hb dX13_tenths_147 rfl (fun c41 => ?_) (fun c41 => ?_)
                · replace h := ite_f c41 h
                  refine lv_bipush (v := 10) hx hb dX13_tenths_155 rfl ?_
                  refine lv_iload hx hb dX13_tenths_157 (lv_at hl 1 rfl) ?_
                  refine lv_isub hx hb dX13_tenths_159 ?_
                  refine lv_iload hx hb dX13_tenths_160 (lv_at hl 0 rfl) ?_
                  refine lv_isub hx hb dX13_tenths_162 ?_
                  exact r_iret hx hb hr hlocks hP hK hD hT hG hS (Option.some.inj h) rfl dX13_tenths_163
                · replace h := ite_t c41 h
                  refine lv_iload hx hb dX13_tenths_150 (lv_at hl 0 rfl) ?_
                  refine lv_goto (tgt := 163) hx hb dX13_tenths_152 rfl ?_
                  exact r_iret hx hb hr hlocks hP hK hD hT hG hS (Option.some.inj h) rfl dX13_tenths_163
              · replace h := ite_t c40 h
                refine lv_iload hx hb dX13_tenths_140 (lv_at hl 1 rfl) ?_
                refine lv_goto (tgt := 163) hx hb dX13_tenths_142 rfl ?_
                exact r_iret hx hb hr hlocks hP hK hD hT hG hS (Option.some.inj h) rfl dX13_tenths_163
            · replace h := ite_f c39 h
              refine lv_iconst (v := 2) hx hb dX13_tenths_103 rfl ?_
              refine lv_goto (tgt := 108) hx hb dX13_tenths_104 rfl ?_
              refine lv_istore (lv' := [(5, .int 2), (4, .int 3), (0, .ref (ad a0)), (1, .int x1), (2, .int x2), (3, .int x3)]) hx hb dX13_tenths_108 hl (by decide) rfl (fun ls hl => ?_)
              refine lv_goto (tgt := 136) hx hb dX13_tenths_110 rfl ?_
              refine lv_iload_n hx hb dX13_tenths_136 rfl (lv_at hl 5 rfl) ?_
              refine lv_if_ne (tgt := 145) hx hb dX13_tenths_137 rfl (fun c42 => ?_) (fun c42 => ?_)
              · replace h := ite_f c42 h
                refine lv_iload_n hx hb dX13_tenths_145 rfl (lv_at hl 5 rfl) ?_
                refine lv_iconst (v := 1) hx hb dX13_tenths_146 rfl ?_
                refine lv_icmp_ne (tgt := 155) hx hb dX13_tenths_147 rfl (fun c43 => ?_) (fun c43 => ?_)
                · replace h := ite_f c43 h
                  refine lv_bipush (v := 10) hx hb dX13_tenths_155 rfl ?_
                  refine lv_iload hx hb dX13_tenths_157 (lv_at hl 1 rfl) ?_
                  refine lv_isub hx hb dX13_tenths_159 ?_
                  refine lv_iload hx hb dX13_tenths_160 (lv_at hl 0 rfl) ?_
                  refine lv_isub hx hb dX13_tenths_162 ?_
                  exact r_iret hx hb hr hlocks hP hK hD hT hG hS (Option.some.inj h) rfl dX13_tenths_163
                · replace h := ite_t c43 h
                  refine lv_iload hx hb dX13_tenths_150 (lv_at hl 0 rfl) ?_
                  refine lv_goto (tgt := 163) hx hb dX13_tenths_152 rfl ?_
                  exact r_iret hx hb hr hlocks hP hK hD hT hG hS (Option.some.inj h) rfl dX13_tenths_163
              · replace h := ite_t c42 h
                refine lv_iload hx hb dX13_tenths_140 (lv_at hl 1 rfl) ?_
                refine lv_goto (tgt := 163) hx hb dX13_tenths_142 rfl ?_
                exact r_iret hx hb hr hlocks hP hK hD hT hG hS (Option.some.inj h) rfl dX13_tenths_163
        · replace h := ite_f c4_2 h
          refine lv_tableOut (tgt := 113) hx hb dX13_tenths_9 (by
              have e0 := lv_neT (a := 0) c4_0 rfl
              have e1 := lv_neT (a := 1) c4_1 rfl
              have e2 := lv_neT (a := 2) c4_2 rfl
              omega) rfl ?_
          refine lv_iload_n hx hb dX13_tenths_113 rfl (lv_at hl 2 rfl) ?_
          refine lv_if_ge (tgt := 122) hx hb dX13_tenths_114 rfl (fun c44 => ?_) (fun c44 => ?_)
          · replace h := ite_t c44 h
            refine lv_iconst (v := 5) hx hb dX13_tenths_122 rfl ?_
            refine lv_istore (lv' := [(4, .int 5), (0, .ref (ad a0)), (1, .int x1), (2, .int x2), (3, .int x3)]) hx hb dX13_tenths_123 hl (by decide) rfl (fun ls hl => ?_)
            refine lv_iload_n hx hb dX13_tenths_125 rfl (lv_at hl 3 rfl) ?_
            refine lv_if_ge (tgt := 133) hx hb dX13_tenths_126 rfl (fun c45 => ?_) (fun c45 => ?_)
            · replace h := ite_t c45 h
              refine lv_iconst (v := 4) hx hb dX13_tenths_133 rfl ?_
              refine lv_istore (lv' := [(5, .int 4), (4, .int 5), (0, .ref (ad a0)), (1, .int x1), (2, .int x2), (3, .int x3)]) hx hb dX13_tenths_134 hl (by decide) rfl (fun ls hl => ?_)
              refine lv_iload_n hx hb dX13_tenths_136 rfl (lv_at hl 5 rfl) ?_
              refine lv_if_ne (tgt := 145) hx hb dX13_tenths_137 rfl (fun c46 => ?_) (fun c46 => ?_)
              · replace h := ite_f c46 h
                refine lv_iload_n hx hb dX13_tenths_145 rfl (lv_at hl 5 rfl) ?_
                refine lv_iconst (v := 1) hx hb dX13_tenths_146 rfl ?_
                refine lv_icmp_ne (tgt := 155) hx hb dX13_tenths_147 rfl (fun c47 => ?_) (fun c47 => ?_)
                · replace h := ite_f c47 h
                  refine lv_bipush (v := 10) hx hb dX13_tenths_155 rfl ?_
                  refine lv_iload hx hb dX13_tenths_157 (lv_at hl 1 rfl) ?_
                  refine lv_isub hx hb dX13_tenths_159 ?_
                  refine lv_iload hx hb dX13_tenths_160 (lv_at hl 0 rfl) ?_
                  refine lv_isub hx hb dX13_tenths_162 ?_
                  exact r_iret hx hb hr hlocks hP hK hD hT hG hS (Option.some.inj h) rfl dX13_tenths_163
                · replace h := ite_t c47 h
                  refine lv_iload hx hb dX13_tenths_150 (lv_at hl 0 rfl) ?_
                  refine lv_goto (tgt := 163) hx hb dX13_tenths_152 rfl ?_
                  exact r_iret hx hb hr hlocks hP hK hD hT hG hS (Option.some.inj h) rfl dX13_tenths_163
              · replace h := ite_t c46 h
                refine lv_iload hx hb dX13_tenths_140 (lv_at hl 1 rfl) ?_
                refine lv_goto (tgt := 163) hx hb dX13_tenths_142 rfl ?_
                exact r_iret hx hb hr hlocks hP hK hD hT hG hS (Option.some.inj h) rfl dX13_tenths_163
            · replace h := ite_f c45 h
              refine lv_iconst (v := 3) hx hb dX13_tenths_129 rfl ?_
              refine lv_goto (tgt := 134) hx hb dX13_tenths_130 rfl ?_
              refine lv_istore (lv' := [(5, .int 3), (4, .int 5), (0, .ref (ad a0)), (1, .int x1), (2, .int x2), (3, .int x3)]) hx hb dX13_tenths_134 hl (by decide) rfl (fun ls hl => ?_)
              refine lv_iload_n hx hb dX13_tenths_136 rfl (lv_at hl 5 rfl) ?_
              refine lv_if_ne (tgt := 145) hx hb dX13_tenths_137 rfl (fun c48 => ?_) (fun c48 => ?_)
              · replace h := ite_f c48 h
                refine lv_iload_n hx hb dX13_tenths_145 rfl (lv_at hl 5 rfl) ?_
                refine lv_iconst (v := 1) hx hb dX13_tenths_146 rfl ?_
                refine lv_icmp_ne (tgt := 155) hx hb dX13_tenths_147 rfl (fun c49 => ?_) (fun c49 => ?_)
                · replace h := ite_f c49 h
                  refine lv_bipush (v := 10) hx hb dX13_tenths_155 rfl ?_
                  refine lv_iload hx hb dX13_tenths_157 (lv_at hl 1 rfl) ?_
                  refine lv_isub hx hb dX13_tenths_159 ?_
                  refine lv_iload hx hb dX13_tenths_160 (lv_at hl 0 rfl) ?_
                  refine lv_isub hx hb dX13_tenths_162 ?_
                  exact r_iret hx hb hr hlocks hP hK hD hT hG hS (Option.some.inj h) rfl dX13_tenths_163
                · replace h := ite_t c49 h
                  refine lv_iload hx hb dX13_tenths_150 (lv_at hl 0 rfl) ?_
                  refine lv_goto (tgt := 163) hx hb dX13_tenths_152 rfl ?_
                  exact r_iret hx hb hr hlocks hP hK hD hT hG hS (Option.some.inj h) rfl dX13_tenths_163
              · replace h := ite_t c48 h
                refine lv_iload hx hb dX13_tenths_140 (lv_at hl 1 rfl) ?_
                refine lv_goto (tgt := 163) hx hb dX13_tenths_142 rfl ?_
                exact r_iret hx hb hr hlocks hP hK hD hT hG hS (Option.some.inj h) rfl dX13_tenths_163
          · replace h := ite_f c44 h
            refine lv_bipush (v := 6) hx hb dX13_tenths_117 rfl ?_
            refine lv_goto (tgt := 123) hx hb dX13_tenths_119 rfl ?_
            refine lv_istore (lv' := [(4, .int 6), (0, .ref (ad a0)), (1, .int x1), (2, .int x2), (3, .int x3)]) hx hb dX13_tenths_123 hl (by decide) rfl (fun ls hl => ?_)
            refine lv_iload_n hx hb dX13_tenths_125 rfl (lv_at hl 3 rfl) ?_
            refine lv_if_ge (tgt := 133) hx hb dX13_tenths_126 rfl (fun c50 => ?_) (fun c50 => ?_)
            · replace h := ite_t c50 h
              refine lv_iconst (v := 4) hx hb dX13_tenths_133 rfl ?_
              refine lv_istore (lv' := [(5, .int 4), (4, .int 6), (0, .ref (ad a0)), (1, .int x1), (2, .int x2), (3, .int x3)]) hx hb dX13_tenths_134 hl (by decide) rfl (fun ls hl => ?_)
              refine lv_iload_n hx hb dX13_tenths_136 rfl (lv_at hl 5 rfl) ?_
              refine lv_if_ne (tgt := 145) hx hb dX13_tenths_137 rfl (fun c51 => ?_) (fun c51 => ?_)
              · replace h := ite_f c51 h
                refine lv_iload_n hx hb dX13_tenths_145 rfl (lv_at hl 5 rfl) ?_
                refine lv_iconst (v := 1) hx hb dX13_tenths_146 rfl ?_
                refine lv_icmp_ne (tgt := 155) hx hb dX13_tenths_147 rfl (fun c52 => ?_) (fun c52 => ?_)
                · replace h := ite_f c52 h
                  refine lv_bipush (v := 10) hx hb dX13_tenths_155 rfl ?_
                  refine lv_iload hx hb dX13_tenths_157 (lv_at hl 1 rfl) ?_
                  refine lv_isub hx hb dX13_tenths_159 ?_
                  refine lv_iload hx hb dX13_tenths_160 (lv_at hl 0 rfl) ?_
                  refine lv_isub hx hb dX13_tenths_162 ?_
                  exact r_iret hx hb hr hlocks hP hK hD hT hG hS (Option.some.inj h) rfl dX13_tenths_163
                · replace h := ite_t c52 h
                  refine lv_iload hx hb dX13_tenths_150 (lv_at hl 0 rfl) ?_
                  refine lv_goto (tgt := 163) hx hb dX13_tenths_152 rfl ?_
                  exact r_iret hx hb hr hlocks hP hK hD hT hG hS (Option.some.inj h) rfl dX13_tenths_163
              · replace h := ite_t c51 h
                refine lv_iload hx hb dX13_tenths_140 (lv_at hl 1 rfl) ?_
                refine lv_goto (tgt := 163) hx hb dX13_tenths_142 rfl ?_
                exact r_iret hx hb hr hlocks hP hK hD hT hG hS (Option.some.inj h) rfl dX13_tenths_163
            · replace h := ite_f c50 h
              refine lv_iconst (v := 3) hx hb dX13_tenths_129 rfl ?_
              refine lv_goto (tgt := 134) hx hb dX13_tenths_130 rfl ?_
              refine lv_istore (lv' := [(5, .int 3), (4, .int 6), (0, .ref (ad a0)), (1, .int x1), (2, .int x2), (3, .int x3)]) hx hb dX13_tenths_134 hl (by decide) rfl (fun ls hl => ?_)
              refine lv_iload_n hx hb dX13_tenths_136 rfl (lv_at hl 5 rfl) ?_
              refine lv_if_ne (tgt := 145) hx hb dX13_tenths_137 rfl (fun c53 => ?_) (fun c53 => ?_)
              · replace h := ite_f c53 h
                refine lv_iload_n hx hb dX13_tenths_145 rfl (lv_at hl 5 rfl) ?_
                refine lv_iconst (v := 1) hx hb dX13_tenths_146 rfl ?_
                refine lv_icmp_ne (tgt := 155) hx hb dX13_tenths_147 rfl (fun c54 => ?_) (fun c54 => ?_)
                · replace h := ite_f c54 h
                  refine lv_bipush (v := 10) hx hb dX13_tenths_155 rfl ?_
                  refine lv_iload hx hb dX13_tenths_157 (lv_at hl 1 rfl) ?_
                  refine lv_isub hx hb dX13_tenths_159 ?_
                  refine lv_iload hx hb dX13_tenths_160 (lv_at hl 0 rfl) ?_
                  refine lv_isub hx hb dX13_tenths_162 ?_
                  exact r_iret hx hb hr hlocks hP hK hD hT hG hS (Option.some.inj h) rfl dX13_tenths_163
                · replace h := ite_t c54 h
                  refine lv_iload hx hb dX13_tenths_150 (lv_at hl 0 rfl) ?_
                  refine lv_goto (tgt := 163) hx hb dX13_tenths_152 rfl ?_
                  exact r_iret hx hb hr hlocks hP hK hD hT hG hS (Option.some.inj h) rfl dX13_tenths_163
              · replace h := ite_t c53 h
                refine lv_iload hx hb dX13_tenths_140 (lv_at hl 1 rfl) ?_
                refine lv_goto (tgt := 163) hx hb dX13_tenths_142 rfl ?_
                exact r_iret hx hb hr hlocks hP hK hD hT hG hS (Option.some.inj h) rfl dX13_tenths_163
set_option maxHeartbeats 4000000 in
set_option maxRecDepth 100000 in
theorem c_X13_lying {l : Launch} {D : va_G} {ad : Nat → Nat} {cy : Nat → ClassId} {A : Nat → Prop} {g : CG} {q : SE} (M : MM) (a0 : Nat) (x1 : Int32) (x2 : Int32) (x3 : Int32) (k0 : ok g a0 13 0) {Z : (Int32 × MM)} (h : f_X13_lying M a0 x1 x2 x3 = some Z) : Met l yX13_lying wsX13_lying ({ frames := 1, cells := 0, slots := 0, locals := 25 }) (va_Pc [.ref (ad a0), .int x1, .int x2, .int x3] (Wd D ad cy A g q M)) (va_Qi (fun r u => r = Z.1 ∧ u = Z.2) (Wd D ad cy A g q) A) 0 0 A := by
  refine Met.ofW (cc := cX13_lying) (maxL := 4) (ret := (some .int)) (by decide) rfl ?_
  intro p e s m args below meth c s₁ B hml hv
  obtain ⟨rfl, hP, hK, hD, hT, hG⟩ := hv
  have hx := B.exec
  have hb := B.bytes
  have hr := B.returns
  have hts := atoms_spec (ws := wsX13_lying) B.pre
  have hown : s.vm.findClass RX13 = some m.cls := findClass_of_methodNamed B.named
  have hlocks := B.notSynchronized
  have in13 : ∀ w ∈ u_ws RX13 TX13 29, w ∈ wsX13_lying := fun w h => List.mem_cons_of_mem _ (List.mem_append_left _ (List.mem_append_right _ h))
  have hS : va_S A s.heap s.heap [] := va_S.rf
  have hl := lv_entry ([.ref (ad a0), .int x1, .int x2, .int x3]) (n := 4) (Nat.le_of_ble_eq_true rfl)
  rw [lg_entry_eq]
  generalize (lg_sl ([.ref (ad a0), .int x1, .int x2, .int x3]) ++ List.replicate (4 - (lg_sl ([.ref (ad a0), .int x1, .int x2, .int x3])).length) Slot.unset).toArray = ls at hl ⊢
  have hl : lv_has ls 4 [(0, .ref (ad a0)), (1, .int x1), (2, .int x2), (3, .int x3)] := hl
  unfold f_X13_lying at h
  refine lv_aload_n hx hb dX13_lying_0 rfl (lv_at hl 0 rfl) ?_
  refine lv_iconst (v := 0) hx hb dX13_lying_1 rfl ?_
  refine r_putI (T := TX13) (ty := .int) (v := 0) hx hb hts in13 tyX13 tyX13_ok nmX13 hown hK hP hD hT hS k0 (by decide) rfl 0 (by decide) (hts (.fieldLink RX13 30 "StoneWalkModel" "thrown" "I") (List.mem_of_getElem? (i := 1) (by decide +kernel))) rfl rfl (tyX13_ok 0 (by decide)) rfl rfl rfl dX13_lying_2 (fun H locs hP hD hT hS => ?_)
  refine lv_aload_n hx hb dX13_lying_5 rfl (lv_at hl 0 rfl) ?_
  refine lv_iload_n hx hb dX13_lying_6 rfl (lv_at hl 1 rfl) ?_
  obtain ⟨z1, h1, h⟩ := ob_some h
  refine k_z (va_runV (As := [.int x1]) (rest := []) ⟨hx, hb, hml, hown, hts⟩ (c_X13_isWay (l := l) (pI M a0 0 0) a0 x1 k0 h1) (cwV 1 hts gX13_lying_X13_isWay rfl rfl rfl hdV_X13_isWay ⟨Nat.le_of_ble_eq_true rfl, Nat.le_of_ble_eq_true rfl⟩) (pV (T := TX13) hP hK hD hT hG hS k0 (by decide) rfl) rfl rfl hl.1 rfl (lv_room (Nat.le_of_ble_eq_true rfl)) dX13_lying_7 ⟨Nat.zero_le _, Nat.zero_le _⟩) hS (fun H locs hz1 hP hD hT hS => ?_)
  refine lv_if_eq (tgt := 22) hx hb dX13_lying_10 rfl (fun c2 => ?_) (fun c2 => ?_)
  · replace h := ite_t c2 h
    refine lv_aload_n hx hb dX13_lying_22 rfl (lv_at hl 0 rfl) ?_
    refine lv_iconst (v := 1) hx hb dX13_lying_23 rfl ?_
    obtain ⟨z3, h3, h⟩ := ob_some h
    refine k_i (va_runV (As := [.int 1]) (rest := []) ⟨hx, hb, hml, hown, hts⟩ (c_X13_refused (l := l) (pI M a0 0 0) a0 1 k0 h3) (cwV 1 hts gX13_lying_X13_refused rfl rfl rfl hdV_X13_refused ⟨Nat.le_of_ble_eq_true rfl, Nat.le_of_ble_eq_true rfl⟩) (pV (T := TX13) hP hK hD hT hG hS k0 (by decide) rfl) rfl rfl hl.1 rfl (lv_room (Nat.le_of_ble_eq_true rfl)) dX13_lying_24 ⟨Nat.zero_le _, Nat.zero_le _⟩) hS (fun H locs hP hD hT hS => ?_)
    have hZ := Option.some.inj h
    exact r_iret hx hb hr hlocks hP hK hD hT hG hS (congrArg Prod.fst hZ) (congrArg Prod.snd hZ) dX13_lying_27
  · replace h := ite_f c2 h
    refine lv_iload_n hx hb dX13_lying_13 rfl (lv_at hl 3 rfl) ?_
    refine lv_iconst (v := 0) hx hb dX13_lying_14 rfl ?_
    refine lv_iconst (v := 2) hx hb dX13_lying_15 rfl ?_
    obtain ⟨z4, h4, h⟩ := ob_some h
    refine k_z (va_runS (As := [.int x3, .int 0, .int 2]) (rest := []) ⟨hx, hb, hml, hown, hts⟩ (c_X13_in (l := l) (pI M a0 0 0) x3 0 2 h4) (va_cwS 3 hts gX13_lying_X13_in rfl rfl rfl hdS_X13_in ⟨Nat.le_of_ble_eq_true rfl, Nat.le_of_ble_eq_true rfl⟩) (pS hP hK hD hT hG hS) rfl rfl hl.1 rfl (lv_room (Nat.le_of_ble_eq_true rfl)) dX13_lying_16 ⟨Nat.zero_le _, Nat.zero_le _⟩) hS (fun H locs hz4 hP hD hT hS => ?_)
    refine lv_if_ne (tgt := 28) hx hb dX13_lying_19 rfl (fun c5 => ?_) (fun c5 => ?_)
    · replace h := ite_f c5 h
      refine lv_iload_n hx hb dX13_lying_28 rfl (lv_at hl 2 rfl) ?_
      refine lv_bipush (v := (-20)) hx hb dX13_lying_29 rfl ?_
      refine lv_bipush (v := 20) hx hb dX13_lying_31 rfl ?_
      obtain ⟨z6, h6, h⟩ := ob_some h
      refine k_z (va_runS (As := [.int x2, .int (-20), .int 20]) (rest := []) ⟨hx, hb, hml, hown, hts⟩ (c_X13_in (l := l) (pI M a0 0 0) x2 (-20) 20 h6) (va_cwS 3 hts gX13_lying_X13_in rfl rfl rfl hdS_X13_in ⟨Nat.le_of_ble_eq_true rfl, Nat.le_of_ble_eq_true rfl⟩) (pS hP hK hD hT hG hS) rfl rfl hl.1 rfl (lv_room (Nat.le_of_ble_eq_true rfl)) dX13_lying_33 ⟨Nat.zero_le _, Nat.zero_le _⟩) hS (fun H locs hz6 hP hD hT hS => ?_)
      refine lv_if_eq (tgt := 53) hx hb dX13_lying_36 rfl (fun c7 => ?_) (fun c7 => ?_)
      · replace h := ite_t c7 h
        refine lv_aload_n hx hb dX13_lying_53 rfl (lv_at hl 0 rfl) ?_
        refine lv_iconst (v := 2) hx hb dX13_lying_54 rfl ?_
        obtain ⟨z8, h8, h⟩ := ob_some h
        refine k_i (va_runV (As := [.int 2]) (rest := []) ⟨hx, hb, hml, hown, hts⟩ (c_X13_refused (l := l) (pI M a0 0 0) a0 2 k0 h8) (cwV 1 hts gX13_lying_X13_refused rfl rfl rfl hdV_X13_refused ⟨Nat.le_of_ble_eq_true rfl, Nat.le_of_ble_eq_true rfl⟩) (pV (T := TX13) hP hK hD hT hG hS k0 (by decide) rfl) rfl rfl hl.1 rfl (lv_room (Nat.le_of_ble_eq_true rfl)) dX13_lying_55 ⟨Nat.zero_le _, Nat.zero_le _⟩) hS (fun H locs hP hD hT hS => ?_)
        have hZ := Option.some.inj h
        exact r_iret hx hb hr hlocks hP hK hD hT hG hS (congrArg Prod.fst hZ) (congrArg Prod.snd hZ) dX13_lying_58
      · replace h := ite_f c7 h
        refine lv_aload_n hx hb dX13_lying_39 rfl (lv_at hl 0 rfl) ?_
        refine lv_aload_n hx hb dX13_lying_40 rfl (lv_at hl 0 rfl) ?_
        refine lv_iload_n hx hb dX13_lying_41 rfl (lv_at hl 1 rfl) ?_
        refine lv_iload_n hx hb dX13_lying_42 rfl (lv_at hl 2 rfl) ?_
        refine lv_iload_n hx hb dX13_lying_43 rfl (lv_at hl 3 rfl) ?_
        obtain ⟨z9, h9, h⟩ := ob_some h
        refine k_i (va_runV (As := [.int x1, .int x2, .int x3]) (rest := [.ref (ad a0)]) ⟨hx, hb, hml, hown, hts⟩ (c_X13_tenths (l := l) (pI M a0 0 0) a0 x1 x2 x3 k0 h9) (cwV 3 hts gX13_lying_X13_tenths rfl rfl rfl hdV_X13_tenths ⟨Nat.le_of_ble_eq_true rfl, Nat.le_of_ble_eq_true rfl⟩) (pV (T := TX13) hP hK hD hT hG hS k0 (by decide) rfl) rfl rfl hl.1 rfl (lv_room (Nat.le_of_ble_eq_true rfl)) dX13_lying_44 ⟨Nat.zero_le _, Nat.zero_le _⟩) hS (fun H locs hP hD hT hS => ?_)
        obtain ⟨z10, h10, h⟩ := ob_some h
        refine k_i (va_runV (As := [.int z9]) (rest := []) ⟨hx, hb, hml, hown, hts⟩ (c_X13_done (l := l) (pI M a0 0 0) a0 z9 k0 h10) (cwV 1 hts gX13_lying_X13_done rfl rfl rfl hdV_X13_done ⟨Nat.le_of_ble_eq_true rfl, Nat.le_of_ble_eq_true rfl⟩) (pV (T := TX13) hP hK hD hT hG hS k0 (by decide) rfl) rfl rfl hl.1 rfl (lv_room (Nat.le_of_ble_eq_true rfl)) dX13_lying_47 ⟨Nat.zero_le _, Nat.zero_le _⟩) hS (fun H locs hP hD hT hS => ?_)
        refine lv_goto (tgt := 58) hx hb dX13_lying_50 rfl ?_
        have hZ := Option.some.inj h
        exact r_iret hx hb hr hlocks hP hK hD hT hG hS (congrArg Prod.fst hZ) (congrArg Prod.snd hZ) dX13_lying_58
    · replace h := ite_t c5 h
      refine lv_aload_n hx hb dX13_lying_22 rfl (lv_at hl 0 rfl) ?_
      refine lv_iconst (v := 1) hx hb dX13_lying_23 rfl ?_
      obtain ⟨z11, h11, h⟩ := ob_some h
      refine k_i (va_runV (As := [.int 1]) (rest := []) ⟨hx, hb, hml, hown, hts⟩ (c_X13_refused (l := l) (pI M a0 0 0) a0 1 k0 h11) (cwV 1 hts gX13_lying_X13_refused rfl rfl rfl hdV_X13_refused ⟨Nat.le_of_ble_eq_true rfl, Nat.le_of_ble_eq_true rfl⟩) (pV (T := TX13) hP hK hD hT hG hS k0 (by decide) rfl) rfl rfl hl.1 rfl (lv_room (Nat.le_of_ble_eq_true rfl)) dX13_lying_24 ⟨Nat.zero_le _, Nat.zero_le _⟩) hS (fun H locs hP hD hT hS => ?_)
      have hZ := Option.some.inj h
      exact r_iret hx hb hr hlocks hP hK hD hT hG hS (congrArg Prod.fst hZ) (congrArg Prod.snd hZ) dX13_lying_27
set_option maxHeartbeats 4000000 in
set_option maxRecDepth 100000 in
theorem c_X13_needAlong {l : Launch} {D : va_G} {ad : Nat → Nat} {cy : Nat → ClassId} {A : Nat → Prop} {g : CG} {q : SE} (M : MM) (a0 : Nat) (x1 : Int32) (x2 : Int32) (x3 : Int32) (k0 : ok g a0 13 0) {Z : Int32} (h : f_X13_needAlong M a0 x1 x2 x3 = some Z) : Met l yX13_needAlong wsX13_needAlong ({ frames := 3, cells := 0, slots := 0, locals := 69 }) (va_Pc [.ref (ad a0), .int x1, .int x2, .int x3] (Wd D ad cy A g q M)) (va_Qi (fun r u => r = Z ∧ u = M) (Wd D ad cy A g q) A) 0 0 A := by
  refine Met.ofW (cc := cX13_needAlong) (maxL := 8) (ret := (some .int)) (by decide) rfl ?_
  intro p e s m args below meth c s₁ B hml hv
  obtain ⟨rfl, hP, hK, hD, hT, hG⟩ := hv
  have hx := B.exec
  have hb := B.bytes
  have hr := B.returns
  have hts := atoms_spec (ws := wsX13_needAlong) B.pre
  have hown : s.vm.findClass RX13 = some m.cls := findClass_of_methodNamed B.named
  have hlocks := B.notSynchronized
  have in12 : ∀ w ∈ u_ws RX12 TX12 48, w ∈ wsX13_needAlong := fun w h => List.mem_cons_of_mem _ (List.mem_append_right _ h)
  have in13 : ∀ w ∈ u_ws RX13 TX13 29, w ∈ wsX13_needAlong := fun w h => List.mem_cons_of_mem _ (List.mem_append_left _ (List.mem_append_right _ h))
  have hS : va_S A s.heap s.heap [] := va_S.rf
  have hl := lv_entry ([.ref (ad a0), .int x1, .int x2, .int x3]) (n := 8) (Nat.le_of_ble_eq_true rfl)
  rw [lg_entry_eq]
  generalize (lg_sl ([.ref (ad a0), .int x1, .int x2, .int x3]) ++ List.replicate (8 - (lg_sl ([.ref (ad a0), .int x1, .int x2, .int x3])).length) Slot.unset).toArray = ls at hl ⊢
  have hl : lv_has ls 8 [(0, .ref (ad a0)), (1, .int x1), (2, .int x2), (3, .int x3)] := hl
  unfold f_X13_needAlong at h
  refine lv_iconst (v := 0) hx hb dX13_needAlong_0 rfl ?_
  refine lv_istore (lv' := [(4, .int 0), (0, .ref (ad a0)), (1, .int x1), (2, .int x2), (3, .int x3)]) hx hb dX13_needAlong_1 hl (by decide) rfl (fun ls hl => ?_)
  refine lv_iconst (v := 0) hx hb dX13_needAlong_3 rfl ?_
  refine lv_istore (lv' := [(5, .int 0), (4, .int 0), (0, .ref (ad a0)), (1, .int x1), (2, .int x2), (3, .int x3)]) hx hb dX13_needAlong_4 hl (by decide) rfl (fun ls hl => ?_)
  have L1 : ∀ n1 : Nat, ∀ (y1_0 : Nat) (y1_1 : Int32) (y1_2 : Int32) (y1_3 : Int32) (y1_4 : Int32) (y1_5 : Int32) (ky1_0 : ok g y1_0 13 0) (H : Heap) (locs : List Loc), f_X13_needAlong_L6 n1 M y1_0 y1_1 y1_2 y1_3 y1_4 y1_5 = some Z → va_P D vwCl (wd ad cy g M) H → va_D A (wd ad cy g M) → WT g M → va_S A s.heap H locs → ∀ (ls : Array Slot), lv_has ls 8 [(0, .ref (ad y1_0)), (1, .int y1_1), (2, .int y1_2), (3, .int y1_3), (4, .int y1_4), (5, .int y1_5)] → W p l e ((headSpec wsX13_needAlong ({ frames := 3, cells := 0, slots := 0, locals := 69 })).room) s m (([.ref (ad a0), .int x1, .int x2, .int x3] : List Value).toArray) below meth c H locs 0 0 (MQ below (va_Qi (fun r u => r = Z ∧ u = M) (Wd D ad cy A g q) A) ([.ref (ad a0), .int x1, .int x2, .int x3]).toArray s 0 0 A) (F0 m 6 ls []) := by
    intro n1
    induction n1 with
    | zero => intro y1_0 y1_1 y1_2 y1_3 y1_4 y1_5 ky1_0 H locs h; exact absurd h (by simp [f_X13_needAlong_L6])
    | succ n1 ih1 =>
      intro y1_0 y1_1 y1_2 y1_3 y1_4 y1_5 ky1_0 H locs h hP hD hT hS ls hl
      rw [f_X13_needAlong_L6] at h
      refine lv_iload hx hb dX13_needAlong_6 (lv_at hl 5 rfl) ?_
      refine lv_aload_n hx hb dX13_needAlong_8 rfl (lv_at hl 0 rfl) ?_
      rcases hN2 : gR M y1_0 3 with _ | b2
      · replace h := oc_n hN2 h
        refine r_get (T := TX13) (v := .null) hx hb hts in13 hown hK hP ky1_0 (by decide) rfl 3 (by decide) (hts (.fieldLink RX13 431 "StoneWalkModel" "island" "LStoneWalkModel$Island;") (List.mem_of_getElem? (i := 1) (by decide +kernel))) rfl (t := 2) rfl (by show va_rf _ = _; rw [hN2]; rfl) dX13_needAlong_9 ?_
        exact absurd h (by simp)
      · replace h := oc_s hN2 h
        have kb2 := hT.f ky1_0 (k := 3) (t := 12) (n := 0) rfl hN2
        refine r_get (T := TX13) (v := .ref (ad b2)) hx hb hts in13 hown hK hP ky1_0 (by decide) rfl 3 (by decide) (hts (.fieldLink RX13 431 "StoneWalkModel" "island" "LStoneWalkModel$Island;") (List.mem_of_getElem? (i := 1) (by decide +kernel))) rfl (t := 2) rfl (by show va_rf _ = _; rw [hN2]; rfl) dX13_needAlong_9 ?_
        rcases hN3 : gR M b2 13 with _ | b3
        · exact absurd (oc_n hN3 h) (by simp)
        replace h := oc_s hN3 h
        have kb3 := hT.f kb2 (k := 13) (t := 15) (n := 3) rfl hN3
        refine r_getN (T := TX12) (v := .ref (ad b3)) hx hb hts in12 hown hK hP kb2 (by decide) rfl 13 (by decide) (hG.2.2.1 _ (List.mem_of_getElem? (i := 13) rfl)) rfl (t := 2) rfl (by show va_rf _ = _; rw [hN3]; rfl) dX13_needAlong_12 ?_
        refine lv_iload_n hx hb dX13_needAlong_15 rfl (lv_at hl 3 rfl) ?_
        obtain ⟨hn4, h⟩ := chk_some h
        refine r_iald hx hb hK hP kb3 hn4 dX13_needAlong_16 ?_
        refine lv_icmp_ge (tgt := 85) hx hb dX13_needAlong_17 rfl (fun c5 => ?_) (fun c5 => ?_)
        · replace h := ite_t c5 h
          refine lv_iload hx hb dX13_needAlong_85 (lv_at hl 4 rfl) ?_
          exact r_iret hx hb hr hlocks hP hK hD hT hG hS (Option.some.inj h) rfl dX13_needAlong_87
        · replace h := ite_f c5 h
          refine lv_aload_n hx hb dX13_needAlong_20 rfl (lv_at hl 0 rfl) ?_
          rcases hN6 : gR M y1_0 3 with _ | b6
          · replace h := oc_n hN6 h
            refine r_get (T := TX13) (v := .null) hx hb hts in13 hown hK hP ky1_0 (by decide) rfl 3 (by decide) (hts (.fieldLink RX13 431 "StoneWalkModel" "island" "LStoneWalkModel$Island;") (List.mem_of_getElem? (i := 1) (by decide +kernel))) rfl (t := 2) rfl (by show va_rf _ = _; rw [hN6]; rfl) dX13_needAlong_21 ?_
            refine lv_iload_n hx hb dX13_needAlong_24 rfl (lv_at hl 3 rfl) ?_
            refine lv_iload hx hb dX13_needAlong_25 (lv_at hl 5 rfl) ?_
            exact absurd h (by simp)
          · replace h := oc_s hN6 h
            have kb6 := hT.f ky1_0 (k := 3) (t := 12) (n := 0) rfl hN6
            refine r_get (T := TX13) (v := .ref (ad b6)) hx hb hts in13 hown hK hP ky1_0 (by decide) rfl 3 (by decide) (hts (.fieldLink RX13 431 "StoneWalkModel" "island" "LStoneWalkModel$Island;") (List.mem_of_getElem? (i := 1) (by decide +kernel))) rfl (t := 2) rfl (by show va_rf _ = _; rw [hN6]; rfl) dX13_needAlong_21 ?_
            refine lv_iload_n hx hb dX13_needAlong_24 rfl (lv_at hl 3 rfl) ?_
            refine lv_iload hx hb dX13_needAlong_25 (lv_at hl 5 rfl) ?_
            obtain ⟨z7, h7, h⟩ := ob_some h
            refine k_i (va_runV (As := [.int y1_3, .int y1_5]) (rest := []) ⟨hx, hb, hml, hown, hts⟩ (c_X12_slopeAt (l := l) M b6 y1_3 y1_5 kb6 h7) (cwV 2 hts gX13_needAlong_X12_slopeAt rfl rfl rfl hdV_X12_slopeAt ⟨Nat.le_of_ble_eq_true rfl, Nat.le_of_ble_eq_true rfl⟩) (pV (T := TX12) hP hK hD hT hG hS kb6 (by decide) rfl) rfl rfl hl.1 rfl (lv_room (Nat.le_of_ble_eq_true rfl)) dX13_needAlong_27 ⟨Nat.zero_le _, Nat.zero_le _⟩) hS (fun H locs hP hD hT hS => ?_)
            refine lv_istore (lv' := [(6, .int z7), (0, .ref (ad y1_0)), (1, .int y1_1), (2, .int y1_2), (3, .int y1_3), (4, .int y1_4), (5, .int y1_5)]) hx hb dX13_needAlong_30 hl (by decide) rfl (fun ls hl => ?_)
            refine lv_aload_n hx hb dX13_needAlong_32 rfl (lv_at hl 1 rfl) ?_
            refine lv_iload_n hx hb dX13_needAlong_33 rfl (lv_at hl 2 rfl) ?_
            refine lv_iload_n hx hb dX13_needAlong_34 rfl (lv_at hl 3 rfl) ?_
            refine lv_iload hx hb dX13_needAlong_35 (lv_at hl 0 rfl) ?_
            obtain ⟨z8, h8, h⟩ := ob_some h
            refine k_z (va_runV (As := [.int y1_1, .int y1_2, .int z7]) (rest := []) ⟨hx, hb, hml, hown, hts⟩ (c_X13_canBy (l := l) M y1_0 y1_1 y1_2 z7 ky1_0 h8) (cwV 3 hts gX13_needAlong_X13_canBy rfl rfl rfl hdV_X13_canBy ⟨Nat.le_of_ble_eq_true rfl, Nat.le_of_ble_eq_true rfl⟩) (pV (T := TX13) hP hK hD hT hG hS ky1_0 (by decide) rfl) rfl rfl hl.1 rfl (lv_room (Nat.le_of_ble_eq_true rfl)) dX13_needAlong_37 ⟨Nat.zero_le _, Nat.zero_le _⟩) hS (fun H locs hz8 hP hD hT hS => ?_)
            refine lv_if_ne (tgt := 45) hx hb dX13_needAlong_40 rfl (fun c9 => ?_) (fun c9 => ?_)
            · replace h := ite_f c9 h
              refine lv_aload_n hx hb dX13_needAlong_45 rfl (lv_at hl 1 rfl) ?_
              refine lv_iload_n hx hb dX13_needAlong_46 rfl (lv_at hl 2 rfl) ?_
              refine lv_aload_n hx hb dX13_needAlong_47 rfl (lv_at hl 1 rfl) ?_
              rcases hN10 : gR M y1_0 3 with _ | b10
              · replace h := oc_n hN10 h
                refine r_get (T := TX13) (v := .null) hx hb hts in13 hown hK hP ky1_0 (by decide) rfl 3 (by decide) (hts (.fieldLink RX13 431 "StoneWalkModel" "island" "LStoneWalkModel$Island;") (List.mem_of_getElem? (i := 1) (by decide +kernel))) rfl (t := 2) rfl (by show va_rf _ = _; rw [hN10]; rfl) dX13_needAlong_48 ?_
                exact absurd h (by simp)
              · replace h := oc_s hN10 h
                have kb10 := hT.f ky1_0 (k := 3) (t := 12) (n := 0) rfl hN10
                refine r_get (T := TX13) (v := .ref (ad b10)) hx hb hts in13 hown hK hP ky1_0 (by decide) rfl 3 (by decide) (hts (.fieldLink RX13 431 "StoneWalkModel" "island" "LStoneWalkModel$Island;") (List.mem_of_getElem? (i := 1) (by decide +kernel))) rfl (t := 2) rfl (by show va_rf _ = _; rw [hN10]; rfl) dX13_needAlong_48 ?_
                rcases hN11 : gR M b10 15 with _ | b11
                · exact absurd (oc_n hN11 h) (by simp)
                replace h := oc_s hN11 h
                have kb11 := hT.f kb10 (k := 15) (t := 15) (n := 10) rfl hN11
                refine r_getN (T := TX12) (v := .ref (ad b11)) hx hb hts in12 hown hK hP kb10 (by decide) rfl 15 (by decide) (hG.2.2.1 _ (List.mem_of_getElem? (i := 15) rfl)) rfl (t := 2) rfl (by show va_rf _ = _; rw [hN11]; rfl) dX13_needAlong_51 ?_
                refine lv_iload_n hx hb dX13_needAlong_54 rfl (lv_at hl 3 rfl) ?_
                obtain ⟨hn12, h⟩ := chk_some h
                refine r_iald hx hb hK hP kb11 hn12 dX13_needAlong_55 ?_
                refine lv_iload hx hb dX13_needAlong_56 (lv_at hl 0 rfl) ?_
                obtain ⟨z13, h13, h⟩ := ob_some h
                refine k_i (va_runV (As := [.int y1_1, .int (gI M b11 (ix y1_2)), .int z7]) (rest := []) ⟨hx, hb, hml, hown, hts⟩ (c_X13_needBy (l := l) M y1_0 y1_1 (gI M b11 (ix y1_2)) z7 ky1_0 h13) (cwV 3 hts gX13_needAlong_X13_needBy rfl rfl rfl hdV_X13_needBy ⟨Nat.le_of_ble_eq_true rfl, Nat.le_of_ble_eq_true rfl⟩) (pV (T := TX13) hP hK hD hT hG hS ky1_0 (by decide) rfl) rfl rfl hl.1 rfl (lv_room (Nat.le_of_ble_eq_true rfl)) dX13_needAlong_58 ⟨Nat.zero_le _, Nat.zero_le _⟩) hS (fun H locs hP hD hT hS => ?_)
                refine lv_istore (lv' := [(7, .int z13), (6, .int z7), (0, .ref (ad y1_0)), (1, .int y1_1), (2, .int y1_2), (3, .int y1_3), (4, .int y1_4), (5, .int y1_5)]) hx hb dX13_needAlong_61 hl (by decide) rfl (fun ls hl => ?_)
                refine lv_iload hx hb dX13_needAlong_63 (lv_at hl 0 rfl) ?_
                refine lv_iload hx hb dX13_needAlong_65 (lv_at hl 6 rfl) ?_
                refine lv_icmp_le (tgt := 75) hx hb dX13_needAlong_67 rfl (fun c14 => ?_) (fun c14 => ?_)
                · replace h := ite_t c14 h
                  refine lv_iload hx hb dX13_needAlong_75 (lv_at hl 6 rfl) ?_
                  refine lv_istore (lv' := [(4, .int y1_4), (7, .int z13), (6, .int z7), (0, .ref (ad y1_0)), (1, .int y1_1), (2, .int y1_2), (3, .int y1_3), (5, .int y1_5)]) hx hb dX13_needAlong_77 hl (by decide) rfl (fun ls hl => ?_)
                  refine lv_iinc (v := y1_5 + 1) (lv' := [(5, .int (y1_5 + 1)), (4, .int y1_4), (7, .int z13), (6, .int z7), (0, .ref (ad y1_0)), (1, .int y1_1), (2, .int y1_2), (3, .int y1_3)]) hx hb dX13_needAlong_79 hl (k := 7) rfl rfl (by decide) rfl (fun ls hl => ?_)
                  refine lv_goto (tgt := 6) hx hb dX13_needAlong_82 rfl ?_
                  exact ih1 y1_0 y1_1 y1_2 y1_3 y1_4 (y1_5 + 1) ky1_0 _ _ h hP hD hT hS ls (lv_sub hl [4, 5, 6, 7, 1, 0] rfl)
                · replace h := ite_f c14 h
                  refine lv_iload hx hb dX13_needAlong_70 (lv_at hl 0 rfl) ?_
                  refine lv_goto (tgt := 77) hx hb dX13_needAlong_72 rfl ?_
                  refine lv_istore (lv' := [(4, .int z13), (7, .int z13), (6, .int z7), (0, .ref (ad y1_0)), (1, .int y1_1), (2, .int y1_2), (3, .int y1_3), (5, .int y1_5)]) hx hb dX13_needAlong_77 hl (by decide) rfl (fun ls hl => ?_)
                  refine lv_iinc (v := y1_5 + 1) (lv' := [(5, .int (y1_5 + 1)), (4, .int z13), (7, .int z13), (6, .int z7), (0, .ref (ad y1_0)), (1, .int y1_1), (2, .int y1_2), (3, .int y1_3)]) hx hb dX13_needAlong_79 hl (k := 7) rfl rfl (by decide) rfl (fun ls hl => ?_)
                  refine lv_goto (tgt := 6) hx hb dX13_needAlong_82 rfl ?_
                  exact ih1 y1_0 y1_1 y1_2 y1_3 z13 (y1_5 + 1) ky1_0 _ _ h hP hD hT hS ls (lv_sub hl [4, 5, 6, 7, 1, 0] rfl)
            · replace h := ite_t c9 h
              refine lv_iconst (v := (-1)) hx hb dX13_needAlong_43 rfl ?_
              exact r_iret hx hb hr hlocks hP hK hD hT hG hS (Option.some.inj h) rfl dX13_needAlong_44
  exact L1 FU a0 x1 x2 x3 0 0 k0 _ _ h hP hD hT hS ls (lv_sub hl [2, 3, 4, 5, 1, 0] rfl)
set_option maxHeartbeats 4000000 in
set_option maxRecDepth 100000 in
theorem c_X13_easiest {l : Launch} {D : va_G} {ad : Nat → Nat} {cy : Nat → ClassId} {A : Nat → Prop} {g : CG} {q : SE} (M : MM) (a0 : Nat) (x1 : Int32) (x2 : Int32) (k0 : ok g a0 13 0) {Z : (Int32 × MM)} (h : f_X13_easiest M a0 x1 x2 = some Z) : Met l yX13_easiest wsX13_easiest ({ frames := 4, cells := 0, slots := 0, locals := 96 }) (va_Pc [.ref (ad a0), .int x1, .int x2] (Wd D ad cy A g q M)) (va_Qi (fun r u => r = Z.1 ∧ u = Z.2) (Wd D ad cy A g q) A) 0 0 A := by
  refine Met.ofW (cc := cX13_easiest) (maxL := 7) (ret := (some .int)) (by decide) rfl ?_
  intro p e s m args below meth c s₁ B hml hv
  obtain ⟨rfl, hP, hK, hD, hT, hG⟩ := hv
  have hx := B.exec
  have hb := B.bytes
  have hr := B.returns
  have hts := atoms_spec (ws := wsX13_easiest) B.pre
  have hown : s.vm.findClass RX13 = some m.cls := findClass_of_methodNamed B.named
  have hlocks := B.notSynchronized
  have in12 : ∀ w ∈ u_ws RX12 TX12 48, w ∈ wsX13_easiest := fun w h => List.mem_cons_of_mem _ (List.mem_append_right _ h)
  have in13 : ∀ w ∈ u_ws RX13 TX13 29, w ∈ wsX13_easiest := fun w h => List.mem_cons_of_mem _ (List.mem_append_left _ (List.mem_append_right _ h))
  have hS : va_S A s.heap s.heap [] := va_S.rf
  have hl := lv_entry ([.ref (ad a0), .int x1, .int x2]) (n := 7) (Nat.le_of_ble_eq_true rfl)
  rw [lg_entry_eq]
  generalize (lg_sl ([.ref (ad a0), .int x1, .int x2]) ++ List.replicate (7 - (lg_sl ([.ref (ad a0), .int x1, .int x2])).length) Slot.unset).toArray = ls at hl ⊢
  have hl : lv_has ls 7 [(0, .ref (ad a0)), (1, .int x1), (2, .int x2)] := hl
  unfold f_X13_easiest at h
  refine lv_aload_n hx hb dX13_easiest_0 rfl (lv_at hl 0 rfl) ?_
  refine lv_iconst (v := 0) hx hb dX13_easiest_1 rfl ?_
  refine r_putI (T := TX13) (ty := .int) (v := 0) hx hb hts in13 tyX13 tyX13_ok nmX13 hown hK hP hD hT hS k0 (by decide) rfl 0 (by decide) (hts (.fieldLink RX13 30 "StoneWalkModel" "thrown" "I") (List.mem_of_getElem? (i := 1) (by decide +kernel))) rfl rfl (tyX13_ok 0 (by decide)) rfl rfl rfl dX13_easiest_2 (fun H locs hP hD hT hS => ?_)
  refine lv_aload_n hx hb dX13_easiest_5 rfl (lv_at hl 0 rfl) ?_
  refine lv_iload_n hx hb dX13_easiest_6 rfl (lv_at hl 1 rfl) ?_
  obtain ⟨z1, h1, h⟩ := ob_some h
  refine k_z (va_runV (As := [.int x1]) (rest := []) ⟨hx, hb, hml, hown, hts⟩ (c_X13_isStatue (l := l) (pI M a0 0 0) a0 x1 k0 h1) (cwV 1 hts gX13_easiest_X13_isStatue rfl rfl rfl hdV_X13_isStatue ⟨Nat.le_of_ble_eq_true rfl, Nat.le_of_ble_eq_true rfl⟩) (pV (T := TX13) hP hK hD hT hG hS k0 (by decide) rfl) rfl rfl hl.1 rfl (lv_room (Nat.le_of_ble_eq_true rfl)) dX13_easiest_7 ⟨Nat.zero_le _, Nat.zero_le _⟩) hS (fun H locs hz1 hP hD hT hS => ?_)
  refine lv_if_eq (tgt := 21) hx hb dX13_easiest_10 rfl (fun c2 => ?_) (fun c2 => ?_)
  · replace h := ite_t c2 h
    refine lv_aload_n hx hb dX13_easiest_21 rfl (lv_at hl 0 rfl) ?_
    refine lv_iconst (v := 1) hx hb dX13_easiest_22 rfl ?_
    obtain ⟨z3, h3, h⟩ := ob_some h
    refine k_i (va_runV (As := [.int 1]) (rest := []) ⟨hx, hb, hml, hown, hts⟩ (c_X13_refused (l := l) (pI M a0 0 0) a0 1 k0 h3) (cwV 1 hts gX13_easiest_X13_refused rfl rfl rfl hdV_X13_refused ⟨Nat.le_of_ble_eq_true rfl, Nat.le_of_ble_eq_true rfl⟩) (pV (T := TX13) hP hK hD hT hG hS k0 (by decide) rfl) rfl rfl hl.1 rfl (lv_room (Nat.le_of_ble_eq_true rfl)) dX13_easiest_23 ⟨Nat.zero_le _, Nat.zero_le _⟩) hS (fun H locs hP hD hT hS => ?_)
    have hZ := Option.some.inj h
    exact r_iret hx hb hr hlocks hP hK hD hT hG hS (congrArg Prod.fst hZ) (congrArg Prod.snd hZ) dX13_easiest_26
  · replace h := ite_f c2 h
    refine lv_aload_n hx hb dX13_easiest_13 rfl (lv_at hl 0 rfl) ?_
    refine lv_iload_n hx hb dX13_easiest_14 rfl (lv_at hl 2 rfl) ?_
    obtain ⟨z4, h4, h⟩ := ob_some h
    refine k_z (va_runV (As := [.int x2]) (rest := []) ⟨hx, hb, hml, hown, hts⟩ (c_X13_isRoad (l := l) (pI M a0 0 0) a0 x2 k0 h4) (cwV 1 hts gX13_easiest_X13_isRoad rfl rfl rfl hdV_X13_isRoad ⟨Nat.le_of_ble_eq_true rfl, Nat.le_of_ble_eq_true rfl⟩) (pV (T := TX13) hP hK hD hT hG hS k0 (by decide) rfl) rfl rfl hl.1 rfl (lv_room (Nat.le_of_ble_eq_true rfl)) dX13_easiest_15 ⟨Nat.zero_le _, Nat.zero_le _⟩) hS (fun H locs hz4 hP hD hT hS => ?_)
    refine lv_if_ne (tgt := 27) hx hb dX13_easiest_18 rfl (fun c5 => ?_) (fun c5 => ?_)
    · replace h := ite_f c5 h
      refine lv_bipush (v := (-2)) hx hb dX13_easiest_27 rfl ?_
      refine lv_istore_n (lv' := [(3, .int (-2)), (0, .ref (ad a0)), (1, .int x1), (2, .int x2)]) hx hb dX13_easiest_29 rfl hl (by decide) rfl (fun ls hl => ?_)
      refine lv_iconst (v := 0) hx hb dX13_easiest_30 rfl ?_
      refine lv_istore (lv' := [(4, .int 0), (3, .int (-2)), (0, .ref (ad a0)), (1, .int x1), (2, .int x2)]) hx hb dX13_easiest_31 hl (by decide) rfl (fun ls hl => ?_)
      refine lv_iconst (v := 0) hx hb dX13_easiest_33 rfl ?_
      refine lv_istore (lv' := [(5, .int 0), (4, .int 0), (3, .int (-2)), (0, .ref (ad a0)), (1, .int x1), (2, .int x2)]) hx hb dX13_easiest_34 hl (by decide) rfl (fun ls hl => ?_)
      have L6 : ∀ n6 : Nat, ∀ (M6 : MM) (y6_0 : Nat) (y6_1 : Int32) (y6_2 : Int32) (y6_3 : Int32) (y6_4 : Int32) (y6_5 : Int32) (ky6_0 : ok g y6_0 13 0) (H : Heap) (locs : List Loc), f_X13_easiest_L36 n6 M6 y6_0 y6_1 y6_2 y6_3 y6_4 y6_5 = some Z → va_P D vwCl (wd ad cy g M6) H → va_D A (wd ad cy g M6) → WT g M6 → va_S A s.heap H locs → ∀ (ls : Array Slot), lv_has ls 7 [(0, .ref (ad y6_0)), (1, .int y6_1), (2, .int y6_2), (3, .int y6_3), (4, .int y6_4), (5, .int y6_5)] → W p l e ((headSpec wsX13_easiest ({ frames := 4, cells := 0, slots := 0, locals := 96 })).room) s m (([.ref (ad a0), .int x1, .int x2] : List Value).toArray) below meth c H locs 0 0 (MQ below (va_Qi (fun r u => r = Z.1 ∧ u = Z.2) (Wd D ad cy A g q) A) ([.ref (ad a0), .int x1, .int x2]).toArray s 0 0 A) (F0 m 36 ls []) := by
        intro n6
        induction n6 with
        | zero => intro M6 y6_0 y6_1 y6_2 y6_3 y6_4 y6_5 ky6_0 H locs h; exact absurd h (by simp [f_X13_easiest_L36])
        | succ n6 ih6 =>
          intro M6 y6_0 y6_1 y6_2 y6_3 y6_4 y6_5 ky6_0 H locs h hP hD hT hS ls hl
          rw [f_X13_easiest_L36] at h
          refine lv_iload hx hb dX13_easiest_36 (lv_at hl 5 rfl) ?_
          refine lv_aload_n hx hb dX13_easiest_38 rfl (lv_at hl 0 rfl) ?_
          rcases hN7 : gR M6 y6_0 3 with _ | b7
          · replace h := oc_n hN7 h
            refine r_get (T := TX13) (v := .null) hx hb hts in13 hown hK hP ky6_0 (by decide) rfl 3 (by decide) (hts (.fieldLink RX13 431 "StoneWalkModel" "island" "LStoneWalkModel$Island;") (List.mem_of_getElem? (i := 2) (by decide +kernel))) rfl (t := 2) rfl (by show va_rf _ = _; rw [hN7]; rfl) dX13_easiest_39 ?_
            exact absurd h (by simp)
          · replace h := oc_s hN7 h
            have kb7 := hT.f ky6_0 (k := 3) (t := 12) (n := 0) rfl hN7
            refine r_get (T := TX13) (v := .ref (ad b7)) hx hb hts in13 hown hK hP ky6_0 (by decide) rfl 3 (by decide) (hts (.fieldLink RX13 431 "StoneWalkModel" "island" "LStoneWalkModel$Island;") (List.mem_of_getElem? (i := 2) (by decide +kernel))) rfl (t := 2) rfl (by show va_rf _ = _; rw [hN7]; rfl) dX13_easiest_39 ?_
            refine r_getN (T := TX12) (v := .int (gI M6 b7 0)) hx hb hts in12 hown hK hP kb7 (by decide) rfl 0 (by decide) (hG.2.2.1 _ (List.mem_of_getElem? (i := 5) rfl)) rfl (t := 0) rfl rfl dX13_easiest_42 ?_
            refine lv_icmp_ge (tgt := 93) hx hb dX13_easiest_45 rfl (fun c8 => ?_) (fun c8 => ?_)
            · replace h := ite_t c8 h
              refine lv_aload_n hx hb dX13_easiest_93 rfl (lv_at hl 0 rfl) ?_
              refine lv_iload_n hx hb dX13_easiest_94 rfl (lv_at hl 3 rfl) ?_
              obtain ⟨z9, h9, h⟩ := ob_some h
              refine k_i (va_runV (As := [.int y6_3]) (rest := []) ⟨hx, hb, hml, hown, hts⟩ (c_X13_done (l := l) M6 y6_0 y6_3 ky6_0 h9) (cwV 1 hts gX13_easiest_X13_done rfl rfl rfl hdV_X13_done ⟨Nat.le_of_ble_eq_true rfl, Nat.le_of_ble_eq_true rfl⟩) (pV (T := TX13) hP hK hD hT hG hS ky6_0 (by decide) rfl) rfl rfl hl.1 rfl (lv_room (Nat.le_of_ble_eq_true rfl)) dX13_easiest_95 ⟨Nat.zero_le _, Nat.zero_le _⟩) hS (fun H locs hP hD hT hS => ?_)
              have hZ := Option.some.inj h
              exact r_iret hx hb hr hlocks hP hK hD hT hG hS (congrArg Prod.fst hZ) (congrArg Prod.snd hZ) dX13_easiest_98
            · replace h := ite_f c8 h
              refine lv_aload_n hx hb dX13_easiest_48 rfl (lv_at hl 0 rfl) ?_
              refine lv_iload hx hb dX13_easiest_49 (lv_at hl 5 rfl) ?_
              refine lv_iload_n hx hb dX13_easiest_51 rfl (lv_at hl 1 rfl) ?_
              refine lv_iload_n hx hb dX13_easiest_52 rfl (lv_at hl 2 rfl) ?_
              obtain ⟨z10, h10, h⟩ := ob_some h
              refine k_i (va_runV (As := [.int y6_5, .int y6_1, .int y6_2]) (rest := []) ⟨hx, hb, hml, hown, hts⟩ (c_X13_needAlong (l := l) M6 y6_0 y6_5 y6_1 y6_2 ky6_0 h10) (cwV 3 hts gX13_easiest_X13_needAlong rfl rfl rfl hdV_X13_needAlong ⟨Nat.le_of_ble_eq_true rfl, Nat.le_of_ble_eq_true rfl⟩) (pV (T := TX13) hP hK hD hT hG hS ky6_0 (by decide) rfl) rfl rfl hl.1 rfl (lv_room (Nat.le_of_ble_eq_true rfl)) dX13_easiest_53 ⟨Nat.zero_le _, Nat.zero_le _⟩) hS (fun H locs hP hD hT hS => ?_)
              refine lv_istore (lv' := [(6, .int z10), (0, .ref (ad y6_0)), (1, .int y6_1), (2, .int y6_2), (3, .int y6_3), (4, .int y6_4), (5, .int y6_5)]) hx hb dX13_easiest_56 hl (by decide) rfl (fun ls hl => ?_)
              refine lv_iload hx hb dX13_easiest_58 (lv_at hl 0 rfl) ?_
              refine lv_iconst (v := (-1)) hx hb dX13_easiest_60 rfl ?_
              refine lv_icmp_eq (tgt := 87) hx hb dX13_easiest_61 rfl (fun c11 => ?_) (fun c11 => ?_)
              · replace h := ite_t c11 h
                refine lv_iinc (v := y6_5 + 1) (lv' := [(5, .int (y6_5 + 1)), (6, .int z10), (0, .ref (ad y6_0)), (1, .int y6_1), (2, .int y6_2), (3, .int y6_3), (4, .int y6_4)]) hx hb dX13_easiest_87 hl (k := 6) rfl rfl (by decide) rfl (fun ls hl => ?_)
                refine lv_goto (tgt := 36) hx hb dX13_easiest_90 rfl ?_
                exact ih6 M6 y6_0 y6_1 y6_2 y6_3 y6_4 (y6_5 + 1) ky6_0 _ _ h hP hD hT hS ls (lv_sub hl [2, 3, 4, 5, 6, 0] rfl)
              · replace h := ite_f c11 h
                refine lv_iload_n hx hb dX13_easiest_64 rfl (lv_at hl 4 rfl) ?_
                refine lv_bipush (v := (-2)) hx hb dX13_easiest_65 rfl ?_
                refine lv_icmp_eq (tgt := 80) hx hb dX13_easiest_67 rfl (fun c12 => ?_) (fun c12 => ?_)
                · replace h := ite_t c12 h
                  refine lv_iload hx hb dX13_easiest_80 (lv_at hl 0 rfl) ?_
                  refine lv_istore (lv' := [(4, .int z10), (6, .int z10), (0, .ref (ad y6_0)), (1, .int y6_1), (2, .int y6_2), (3, .int y6_3), (5, .int y6_5)]) hx hb dX13_easiest_82 hl (by decide) rfl (fun ls hl => ?_)
                  refine lv_iload hx hb dX13_easiest_84 (lv_at hl 6 rfl) ?_
                  refine lv_istore_n (lv' := [(3, .int y6_5), (4, .int z10), (6, .int z10), (0, .ref (ad y6_0)), (1, .int y6_1), (2, .int y6_2), (5, .int y6_5)]) hx hb dX13_easiest_86 rfl hl (by decide) rfl (fun ls hl => ?_)
                  refine lv_iinc (v := y6_5 + 1) (lv' := [(5, .int (y6_5 + 1)), (3, .int y6_5), (4, .int z10), (6, .int z10), (0, .ref (ad y6_0)), (1, .int y6_1), (2, .int y6_2)]) hx hb dX13_easiest_87 hl (k := 6) rfl rfl (by decide) rfl (fun ls hl => ?_)
                  refine lv_goto (tgt := 36) hx hb dX13_easiest_90 rfl ?_
                  exact ih6 M6 y6_0 y6_1 y6_2 y6_5 z10 (y6_5 + 1) ky6_0 _ _ h hP hD hT hS ls (lv_sub hl [4, 5, 6, 1, 2, 0] rfl)
                · replace h := ite_f c12 h
                  refine lv_iload hx hb dX13_easiest_70 (lv_at hl 0 rfl) ?_
                  refine lv_iload hx hb dX13_easiest_72 (lv_at hl 5 rfl) ?_
                  refine lv_icmp_lt (tgt := 80) hx hb dX13_easiest_74 rfl (fun c13 => ?_) (fun c13 => ?_)
                  · replace h := ite_t c13 h
                    refine lv_iload hx hb dX13_easiest_80 (lv_at hl 0 rfl) ?_
                    refine lv_istore (lv' := [(4, .int z10), (6, .int z10), (0, .ref (ad y6_0)), (1, .int y6_1), (2, .int y6_2), (3, .int y6_3), (5, .int y6_5)]) hx hb dX13_easiest_82 hl (by decide) rfl (fun ls hl => ?_)
                    refine lv_iload hx hb dX13_easiest_84 (lv_at hl 6 rfl) ?_
                    refine lv_istore_n (lv' := [(3, .int y6_5), (4, .int z10), (6, .int z10), (0, .ref (ad y6_0)), (1, .int y6_1), (2, .int y6_2), (5, .int y6_5)]) hx hb dX13_easiest_86 rfl hl (by decide) rfl (fun ls hl => ?_)
                    refine lv_iinc (v := y6_5 + 1) (lv' := [(5, .int (y6_5 + 1)), (3, .int y6_5), (4, .int z10), (6, .int z10), (0, .ref (ad y6_0)), (1, .int y6_1), (2, .int y6_2)]) hx hb dX13_easiest_87 hl (k := 6) rfl rfl (by decide) rfl (fun ls hl => ?_)
                    refine lv_goto (tgt := 36) hx hb dX13_easiest_90 rfl ?_
                    exact ih6 M6 y6_0 y6_1 y6_2 y6_5 z10 (y6_5 + 1) ky6_0 _ _ h hP hD hT hS ls (lv_sub hl [4, 5, 6, 1, 2, 0] rfl)
                  · replace h := ite_f c13 h
                    refine lv_goto (tgt := 87) hx hb dX13_easiest_77 rfl ?_
                    refine lv_iinc (v := y6_5 + 1) (lv' := [(5, .int (y6_5 + 1)), (6, .int z10), (0, .ref (ad y6_0)), (1, .int y6_1), (2, .int y6_2), (3, .int y6_3), (4, .int y6_4)]) hx hb dX13_easiest_87 hl (k := 6) rfl rfl (by decide) rfl (fun ls hl => ?_)
                    refine lv_goto (tgt := 36) hx hb dX13_easiest_90 rfl ?_
                    exact ih6 M6 y6_0 y6_1 y6_2 y6_3 y6_4 (y6_5 + 1) ky6_0 _ _ h hP hD hT hS ls (lv_sub hl [2, 3, 4, 5, 6, 0] rfl)
      exact L6 FU (pI M a0 0 0) a0 x1 x2 (-2) 0 0 k0 _ _ h hP hD hT hS ls (lv_sub hl [3, 4, 5, 2, 1, 0] rfl)
    · replace h := ite_t c5 h
      refine lv_aload_n hx hb dX13_easiest_21 rfl (lv_at hl 0 rfl) ?_
      refine lv_iconst (v := 1) hx hb dX13_easiest_22 rfl ?_
      obtain ⟨z14, h14, h⟩ := ob_some h
      refine k_i (va_runV (As := [.int 1]) (rest := []) ⟨hx, hb, hml, hown, hts⟩ (c_X13_refused (l := l) (pI M a0 0 0) a0 1 k0 h14) (cwV 1 hts gX13_easiest_X13_refused rfl rfl rfl hdV_X13_refused ⟨Nat.le_of_ble_eq_true rfl, Nat.le_of_ble_eq_true rfl⟩) (pV (T := TX13) hP hK hD hT hG hS k0 (by decide) rfl) rfl rfl hl.1 rfl (lv_room (Nat.le_of_ble_eq_true rfl)) dX13_easiest_23 ⟨Nat.zero_le _, Nat.zero_le _⟩) hS (fun H locs hP hD hT hS => ?_)
      have hZ := Option.some.inj h
      exact r_iret hx hb hr hlocks hP hK hD hT hG hS (congrArg Prod.fst hZ) (congrArg Prod.snd hZ) dX13_easiest_26
set_option maxHeartbeats 4000000 in
set_option maxRecDepth 100000 in
theorem c_X13_seed {l : Launch} {D : va_G} {ad : Nat → Nat} {cy : Nat → ClassId} {A : Nat → Prop} {g : CG} {q : SE} (M : MM) (a0 : Nat) (x1 : Int32) (k0 : ok g a0 13 0) {Z : (Int32 × MM)} (h : f_X13_seed M a0 x1 = some Z) : Met l yX13_seed wsX13_seed ({ frames := 2, cells := 0, slots := 0, locals := 42 }) (va_Pc [.ref (ad a0), .int x1] (Wd D ad cy A g q M)) (va_Qi (fun r u => r = Z.1 ∧ u = Z.2 ∧ zb r) (Wd D ad cy A g q) A) 0 0 A := by
  refine Met.ofW (cc := cX13_seed) (maxL := 2) (ret := (some .boolean)) (by decide) rfl ?_
  intro p e s m args below meth c s₁ B hml hv
  obtain ⟨rfl, hP, hK, hD, hT, hG⟩ := hv
  have hx := B.exec
  have hb := B.bytes
  have hr := B.returns
  have hts := atoms_spec (ws := wsX13_seed) B.pre
  have hown : s.vm.findClass RX13 = some m.cls := findClass_of_methodNamed B.named
  have hlocks := B.notSynchronized
  have in13 : ∀ w ∈ u_ws RX13 TX13 29, w ∈ wsX13_seed := fun w h => List.mem_cons_of_mem _ (List.mem_append_right _ h)
  have hS : va_S A s.heap s.heap [] := va_S.rf
  have hl := lv_entry ([.ref (ad a0), .int x1]) (n := 2) (Nat.le_of_ble_eq_true rfl)
  rw [lg_entry_eq]
  generalize (lg_sl ([.ref (ad a0), .int x1]) ++ List.replicate (2 - (lg_sl ([.ref (ad a0), .int x1])).length) Slot.unset).toArray = ls at hl ⊢
  have hl : lv_has ls 2 [(0, .ref (ad a0)), (1, .int x1)] := hl
  unfold f_X13_seed at h
  refine lv_aload_n hx hb dX13_seed_0 rfl (lv_at hl 0 rfl) ?_
  refine lv_iconst (v := 0) hx hb dX13_seed_1 rfl ?_
  refine r_putI (T := TX13) (ty := .int) (v := 0) hx hb hts in13 tyX13 tyX13_ok nmX13 hown hK hP hD hT hS k0 (by decide) rfl 0 (by decide) (hts (.fieldLink RX13 30 "StoneWalkModel" "thrown" "I") (List.mem_of_getElem? (i := 1) (by decide +kernel))) rfl rfl (tyX13_ok 0 (by decide)) rfl rfl rfl dX13_seed_2 (fun H locs hP hD hT hS => ?_)
  refine lv_aload_n hx hb dX13_seed_5 rfl (lv_at hl 0 rfl) ?_
  rcases hN1 : gR (pI M a0 0 0) a0 3 with _ | b1
  · replace h := oc_n hN1 h
    refine r_get (T := TX13) (v := .null) hx hb hts in13 hown hK hP k0 (by decide) rfl 3 (by decide) (hts (.fieldLink RX13 431 "StoneWalkModel" "island" "LStoneWalkModel$Island;") (List.mem_of_getElem? (i := 2) (by decide +kernel))) rfl (t := 2) rfl (by show va_rf _ = _; rw [hN1]; rfl) dX13_seed_6 ?_
    refine lv_ifnonnullN hx hb dX13_seed_9 ?_
    refine lv_aload_n hx hb dX13_seed_12 rfl (lv_at hl 0 rfl) ?_
    refine lv_iconst (v := 1) hx hb dX13_seed_13 rfl ?_
    obtain ⟨z2, h2, h⟩ := ob_some h
    refine k_z (va_runV (As := [.int 1]) (rest := []) ⟨hx, hb, hml, hown, hts⟩ (c_X13_denied (l := l) (pI M a0 0 0) a0 1 k0 h2) (cwV 1 hts gX13_seed_X13_denied rfl rfl rfl hdV_X13_denied ⟨Nat.le_of_ble_eq_true rfl, Nat.le_of_ble_eq_true rfl⟩) (pV (T := TX13) hP hK hD hT hG hS k0 (by decide) rfl) rfl rfl hl.1 rfl (lv_room (Nat.le_of_ble_eq_true rfl)) dX13_seed_14 ⟨Nat.zero_le _, Nat.zero_le _⟩) hS (fun H locs hz2 hP hD hT hS => ?_)
    have hZ := Option.some.inj h
    exact r_zret hx hb hr hlocks hP hK hD hT hG hS hz2 (congrArg Prod.fst hZ) (congrArg Prod.snd hZ) dX13_seed_17
  · replace h := oc_s hN1 h
    have kb1 := hT.f k0 (k := 3) (t := 12) (n := 0) rfl hN1
    refine r_get (T := TX13) (v := .ref (ad b1)) hx hb hts in13 hown hK hP k0 (by decide) rfl 3 (by decide) (hts (.fieldLink RX13 431 "StoneWalkModel" "island" "LStoneWalkModel$Island;") (List.mem_of_getElem? (i := 2) (by decide +kernel))) rfl (t := 2) rfl (by show va_rf _ = _; rw [hN1]; rfl) dX13_seed_6 ?_
    refine lv_ifnonnull (tgt := 18) hx hb dX13_seed_9 rfl ?_
    refine lv_iload_n hx hb dX13_seed_18 rfl (lv_at hl 1 rfl) ?_
    refine lv_iconst (v := 0) hx hb dX13_seed_19 rfl ?_
    refine lv_ldcw hx hb hown (hts (.constant RX13 486 (65536)) (List.mem_of_getElem? (i := 3) (by decide +kernel))) dX13_seed_20 ?_
    obtain ⟨z3, h3, h⟩ := ob_some h
    refine k_z (va_runS (As := [.int x1, .int 0, .int 65536]) (rest := []) ⟨hx, hb, hml, hown, hts⟩ (c_X13_in (l := l) (pI M a0 0 0) x1 0 65536 h3) (va_cwS 3 hts gX13_seed_X13_in rfl rfl rfl hdS_X13_in ⟨Nat.le_of_ble_eq_true rfl, Nat.le_of_ble_eq_true rfl⟩) (pS hP hK hD hT hG hS) rfl rfl hl.1 rfl (lv_room (Nat.le_of_ble_eq_true rfl)) dX13_seed_23 ⟨Nat.zero_le _, Nat.zero_le _⟩) hS (fun H locs hz3 hP hD hT hS => ?_)
    refine lv_if_ne (tgt := 35) hx hb dX13_seed_26 rfl (fun c4 => ?_) (fun c4 => ?_)
    · replace h := ite_f c4 h
      refine lv_aload_n hx hb dX13_seed_35 rfl (lv_at hl 0 rfl) ?_
      refine lv_iload_n hx hb dX13_seed_36 rfl (lv_at hl 1 rfl) ?_
      refine r_putI (T := TX13) (ty := .int) (v := x1) hx hb hts in13 tyX13 tyX13_ok nmX13 hown hK hP hD hT hS k0 (by decide) rfl 16 (by decide) (hts (.fieldLink RX13 437 "StoneWalkModel" "seed" "I") (List.mem_of_getElem? (i := 4) (by decide +kernel))) rfl rfl (tyX13_ok 16 (by decide)) rfl rfl rfl dX13_seed_37 (fun H locs hP hD hT hS => ?_)
      refine lv_aload_n hx hb dX13_seed_40 rfl (lv_at hl 0 rfl) ?_
      obtain ⟨z5, h5, h⟩ := ob_some h
      refine k_z (va_runV (As := []) (rest := []) ⟨hx, hb, hml, hown, hts⟩ (c_X13_granted (l := l) (pI (pI M a0 0 0) a0 16 x1) a0 k0 h5) (cwV 0 hts gX13_seed_X13_granted rfl rfl rfl hdV_X13_granted ⟨Nat.le_of_ble_eq_true rfl, Nat.le_of_ble_eq_true rfl⟩) (pV (T := TX13) hP hK hD hT hG hS k0 (by decide) rfl) rfl rfl hl.1 rfl (lv_room (Nat.le_of_ble_eq_true rfl)) dX13_seed_41 ⟨Nat.zero_le _, Nat.zero_le _⟩) hS (fun H locs hz5 hP hD hT hS => ?_)
      have hZ := Option.some.inj h
      exact r_zret hx hb hr hlocks hP hK hD hT hG hS hz5 (congrArg Prod.fst hZ) (congrArg Prod.snd hZ) dX13_seed_44
    · replace h := ite_t c4 h
      refine lv_aload_n hx hb dX13_seed_29 rfl (lv_at hl 0 rfl) ?_
      refine lv_iconst (v := 2) hx hb dX13_seed_30 rfl ?_
      obtain ⟨z6, h6, h⟩ := ob_some h
      refine k_z (va_runV (As := [.int 2]) (rest := []) ⟨hx, hb, hml, hown, hts⟩ (c_X13_denied (l := l) (pI M a0 0 0) a0 2 k0 h6) (cwV 1 hts gX13_seed_X13_denied rfl rfl rfl hdV_X13_denied ⟨Nat.le_of_ble_eq_true rfl, Nat.le_of_ble_eq_true rfl⟩) (pV (T := TX13) hP hK hD hT hG hS k0 (by decide) rfl) rfl rfl hl.1 rfl (lv_room (Nat.le_of_ble_eq_true rfl)) dX13_seed_31 ⟨Nat.zero_le _, Nat.zero_le _⟩) hS (fun H locs hz6 hP hD hT hS => ?_)
      have hZ := Option.some.inj h
      exact r_zret hx hb hr hlocks hP hK hD hT hG hS hz6 (congrArg Prod.fst hZ) (congrArg Prod.snd hZ) dX13_seed_34
set_option maxHeartbeats 4000000 in
set_option maxRecDepth 100000 in
theorem c_X13_startsAnew {l : Launch} {D : va_G} {ad : Nat → Nat} {cy : Nat → ClassId} {A : Nat → Prop} {g : CG} {q : SE} (M : MM) (a0 : Nat) (k0 : ok g a0 13 0) {Z : MM} (h : f_X13_startsAnew M a0 = some Z) : Met l yX13_startsAnew wsX13_startsAnew ({ frames := 0, cells := 0, slots := 0, locals := 0 }) (va_Pc [.ref (ad a0)] (Wd D ad cy A g q M)) (va_Qv (fun u => u = Z) (Wd D ad cy A g q) A) 0 0 A := by
  refine Met.ofW (cc := cX13_startsAnew) (maxL := 1) (ret := none) (by decide) rfl ?_
  intro p e s m args below meth c s₁ B hml hv
  obtain ⟨rfl, hP, hK, hD, hT, hG⟩ := hv
  have hx := B.exec
  have hb := B.bytes
  have hr := B.returns
  have hts := atoms_spec (ws := wsX13_startsAnew) B.pre
  have hown : s.vm.findClass RX13 = some m.cls := findClass_of_methodNamed B.named
  have hlocks := B.notSynchronized
  have in13 : ∀ w ∈ u_ws RX13 TX13 29, w ∈ wsX13_startsAnew := fun w h => List.mem_cons_of_mem _ (List.mem_append_right _ h)
  have hS : va_S A s.heap s.heap [] := va_S.rf
  have hl := lv_entry ([.ref (ad a0)]) (n := 1) (Nat.le_of_ble_eq_true rfl)
  rw [lg_entry_eq]
  generalize (lg_sl ([.ref (ad a0)]) ++ List.replicate (1 - (lg_sl ([.ref (ad a0)])).length) Slot.unset).toArray = ls at hl ⊢
  have hl : lv_has ls 1 [(0, .ref (ad a0))] := hl
  unfold f_X13_startsAnew at h
  refine lv_aload_n hx hb dX13_startsAnew_0 rfl (lv_at hl 0 rfl) ?_
  refine lv_iconst (v := 1) hx hb dX13_startsAnew_1 rfl ?_
  refine r_putI (T := TX13) (ty := .int) (v := 1) hx hb hts in13 tyX13 tyX13_ok nmX13 hown hK hP hD hT hS k0 (by decide) rfl 21 (by decide) (hts (.fieldLink RX13 500 "StoneWalkModel" "told" "I") (List.mem_of_getElem? (i := 1) (by decide +kernel))) rfl rfl (tyX13_ok 21 (by decide)) rfl rfl rfl dX13_startsAnew_2 (fun H locs hP hD hT hS => ?_)
  refine lv_aload_n hx hb dX13_startsAnew_5 rfl (lv_at hl 0 rfl) ?_
  refine lv_iconst (v := 0) hx hb dX13_startsAnew_6 rfl ?_
  refine r_putI (T := TX13) (ty := .int) (v := 0) hx hb hts in13 tyX13 tyX13_ok nmX13 hown hK hP hD hT hS k0 (by decide) rfl 22 (by decide) (hts (.fieldLink RX13 503 "StoneWalkModel" "slopesGone" "I") (List.mem_of_getElem? (i := 2) (by decide +kernel))) rfl rfl (tyX13_ok 22 (by decide)) rfl rfl rfl dX13_startsAnew_7 (fun H locs hP hD hT hS => ?_)
  refine lv_aload_n hx hb dX13_startsAnew_10 rfl (lv_at hl 0 rfl) ?_
  refine lv_iconst (v := 0) hx hb dX13_startsAnew_11 rfl ?_
  refine r_putI (T := TX13) (ty := .int) (v := 0) hx hb hts in13 tyX13 tyX13_ok nmX13 hown hK hP hD hT hS k0 (by decide) rfl 23 (by decide) (hts (.fieldLink RX13 506 "StoneWalkModel" "minutesGone" "I") (List.mem_of_getElem? (i := 3) (by decide +kernel))) rfl rfl (tyX13_ok 23 (by decide)) rfl rfl rfl dX13_startsAnew_12 (fun H locs hP hD hT hS => ?_)
  refine lv_aload_n hx hb dX13_startsAnew_15 rfl (lv_at hl 0 rfl) ?_
  refine lv_bipush (v := (-2)) hx hb dX13_startsAnew_16 rfl ?_
  refine r_putI (T := TX13) (ty := .int) (v := (-2)) hx hb hts in13 tyX13 tyX13_ok nmX13 hown hK hP hD hT hS k0 (by decide) rfl 24 (by decide) (hts (.fieldLink RX13 509 "StoneWalkModel" "liesNow" "I") (List.mem_of_getElem? (i := 4) (by decide +kernel))) rfl rfl (tyX13_ok 24 (by decide)) rfl rfl rfl dX13_startsAnew_18 (fun H locs hP hD hT hS => ?_)
  exact r_vret hx hb hr hlocks hP hK hD hT hG hS (Option.some.inj h) dX13_startsAnew_21
set_option maxHeartbeats 4000000 in
set_option maxRecDepth 100000 in
theorem c_X13_move {l : Launch} {D : va_G} {ad : Nat → Nat} {cy : Nat → ClassId} {A : Nat → Prop} {g : CG} {q : SE} (M : MM) (a0 : Nat) (x1 : Int32) (x2 : Int32) (x3 : Int32) (x4 : Int32) (k0 : ok g a0 13 0) {Z : (Int32 × MM)} (h : f_X13_move M a0 x1 x2 x3 x4 = some Z) : Met l yX13_move wsX13_move ({ frames := 2, cells := 0, slots := 0, locals := 42 }) (va_Pc [.ref (ad a0), .int x1, .int x2, .int x3, .int x4] (Wd D ad cy A g q M)) (va_Qi (fun r u => r = Z.1 ∧ u = Z.2 ∧ zb r) (Wd D ad cy A g q) A) 0 0 A := by
  refine Met.ofW (cc := cX13_move) (maxL := 5) (ret := (some .boolean)) (by decide) rfl ?_
  intro p e s m args below meth c s₁ B hml hv
  obtain ⟨rfl, hP, hK, hD, hT, hG⟩ := hv
  have hx := B.exec
  have hb := B.bytes
  have hr := B.returns
  have hts := atoms_spec (ws := wsX13_move) B.pre
  have hown : s.vm.findClass RX13 = some m.cls := findClass_of_methodNamed B.named
  have hlocks := B.notSynchronized
  have in13 : ∀ w ∈ u_ws RX13 TX13 29, w ∈ wsX13_move := fun w h => List.mem_cons_of_mem _ (List.mem_append_left _ (List.mem_append_right _ h))
  have hS : va_S A s.heap s.heap [] := va_S.rf
  have hl := lv_entry ([.ref (ad a0), .int x1, .int x2, .int x3, .int x4]) (n := 5) (Nat.le_of_ble_eq_true rfl)
  rw [lg_entry_eq]
  generalize (lg_sl ([.ref (ad a0), .int x1, .int x2, .int x3, .int x4]) ++ List.replicate (5 - (lg_sl ([.ref (ad a0), .int x1, .int x2, .int x3, .int x4])).length) Slot.unset).toArray = ls at hl ⊢
  have hl : lv_has ls 5 [(0, .ref (ad a0)), (1, .int x1), (2, .int x2), (3, .int x3), (4, .int x4)] := hl
  unfold f_X13_move at h
  refine lv_aload_n hx hb dX13_move_0 rfl (lv_at hl 0 rfl) ?_
  refine lv_iconst (v := 0) hx hb dX13_move_1 rfl ?_
  refine r_putI (T := TX13) (ty := .int) (v := 0) hx hb hts in13 tyX13 tyX13_ok nmX13 hown hK hP hD hT hS k0 (by decide) rfl 0 (by decide) (hts (.fieldLink RX13 30 "StoneWalkModel" "thrown" "I") (List.mem_of_getElem? (i := 1) (by decide +kernel))) rfl rfl (tyX13_ok 0 (by decide)) rfl rfl rfl dX13_move_2 (fun H locs hP hD hT hS => ?_)
  refine lv_aload_n hx hb dX13_move_5 rfl (lv_at hl 0 rfl) ?_
  refine lv_iload_n hx hb dX13_move_6 rfl (lv_at hl 1 rfl) ?_
  obtain ⟨z1, h1, h⟩ := ob_some h
  refine k_z (va_runV (As := [.int x1]) (rest := []) ⟨hx, hb, hml, hown, hts⟩ (c_X13_isStatue (l := l) (pI M a0 0 0) a0 x1 k0 h1) (cwV 1 hts gX13_move_X13_isStatue rfl rfl rfl hdV_X13_isStatue ⟨Nat.le_of_ble_eq_true rfl, Nat.le_of_ble_eq_true rfl⟩) (pV (T := TX13) hP hK hD hT hG hS k0 (by decide) rfl) rfl rfl hl.1 rfl (lv_room (Nat.le_of_ble_eq_true rfl)) dX13_move_7 ⟨Nat.zero_le _, Nat.zero_le _⟩) hS (fun H locs hz1 hP hD hT hS => ?_)
  refine lv_if_eq (tgt := 29) hx hb dX13_move_10 rfl (fun c2 => ?_) (fun c2 => ?_)
  · replace h := ite_t c2 h
    refine lv_aload_n hx hb dX13_move_29 rfl (lv_at hl 0 rfl) ?_
    refine lv_iconst (v := 1) hx hb dX13_move_30 rfl ?_
    obtain ⟨z3, h3, h⟩ := ob_some h
    refine k_z (va_runV (As := [.int 1]) (rest := []) ⟨hx, hb, hml, hown, hts⟩ (c_X13_denied (l := l) (pI M a0 0 0) a0 1 k0 h3) (cwV 1 hts gX13_move_X13_denied rfl rfl rfl hdV_X13_denied ⟨Nat.le_of_ble_eq_true rfl, Nat.le_of_ble_eq_true rfl⟩) (pV (T := TX13) hP hK hD hT hG hS k0 (by decide) rfl) rfl rfl hl.1 rfl (lv_room (Nat.le_of_ble_eq_true rfl)) dX13_move_31 ⟨Nat.zero_le _, Nat.zero_le _⟩) hS (fun H locs hz3 hP hD hT hS => ?_)
    have hZ := Option.some.inj h
    exact r_zret hx hb hr hlocks hP hK hD hT hG hS hz3 (congrArg Prod.fst hZ) (congrArg Prod.snd hZ) dX13_move_34
  · replace h := ite_f c2 h
    refine lv_aload_n hx hb dX13_move_13 rfl (lv_at hl 0 rfl) ?_
    refine lv_iload_n hx hb dX13_move_14 rfl (lv_at hl 2 rfl) ?_
    obtain ⟨z4, h4, h⟩ := ob_some h
    refine k_z (va_runV (As := [.int x2]) (rest := []) ⟨hx, hb, hml, hown, hts⟩ (c_X13_isWay (l := l) (pI M a0 0 0) a0 x2 k0 h4) (cwV 1 hts gX13_move_X13_isWay rfl rfl rfl hdV_X13_isWay ⟨Nat.le_of_ble_eq_true rfl, Nat.le_of_ble_eq_true rfl⟩) (pV (T := TX13) hP hK hD hT hG hS k0 (by decide) rfl) rfl rfl hl.1 rfl (lv_room (Nat.le_of_ble_eq_true rfl)) dX13_move_15 ⟨Nat.zero_le _, Nat.zero_le _⟩) hS (fun H locs hz4 hP hD hT hS => ?_)
    refine lv_if_eq (tgt := 29) hx hb dX13_move_18 rfl (fun c5 => ?_) (fun c5 => ?_)
    · replace h := ite_t c5 h
      refine lv_aload_n hx hb dX13_move_29 rfl (lv_at hl 0 rfl) ?_
      refine lv_iconst (v := 1) hx hb dX13_move_30 rfl ?_
      obtain ⟨z6, h6, h⟩ := ob_some h
      refine k_z (va_runV (As := [.int 1]) (rest := []) ⟨hx, hb, hml, hown, hts⟩ (c_X13_denied (l := l) (pI M a0 0 0) a0 1 k0 h6) (cwV 1 hts gX13_move_X13_denied rfl rfl rfl hdV_X13_denied ⟨Nat.le_of_ble_eq_true rfl, Nat.le_of_ble_eq_true rfl⟩) (pV (T := TX13) hP hK hD hT hG hS k0 (by decide) rfl) rfl rfl hl.1 rfl (lv_room (Nat.le_of_ble_eq_true rfl)) dX13_move_31 ⟨Nat.zero_le _, Nat.zero_le _⟩) hS (fun H locs hz6 hP hD hT hS => ?_)
      have hZ := Option.some.inj h
      exact r_zret hx hb hr hlocks hP hK hD hT hG hS hz6 (congrArg Prod.fst hZ) (congrArg Prod.snd hZ) dX13_move_34
    · replace h := ite_f c5 h
      refine lv_aload_n hx hb dX13_move_21 rfl (lv_at hl 0 rfl) ?_
      refine lv_iload_n hx hb dX13_move_22 rfl (lv_at hl 3 rfl) ?_
      obtain ⟨z7, h7, h⟩ := ob_some h
      refine k_z (va_runV (As := [.int x3]) (rest := []) ⟨hx, hb, hml, hown, hts⟩ (c_X13_isRoad (l := l) (pI M a0 0 0) a0 x3 k0 h7) (cwV 1 hts gX13_move_X13_isRoad rfl rfl rfl hdV_X13_isRoad ⟨Nat.le_of_ble_eq_true rfl, Nat.le_of_ble_eq_true rfl⟩) (pV (T := TX13) hP hK hD hT hG hS k0 (by decide) rfl) rfl rfl hl.1 rfl (lv_room (Nat.le_of_ble_eq_true rfl)) dX13_move_23 ⟨Nat.zero_le _, Nat.zero_le _⟩) hS (fun H locs hz7 hP hD hT hS => ?_)
      refine lv_if_ne (tgt := 35) hx hb dX13_move_26 rfl (fun c8 => ?_) (fun c8 => ?_)
      · replace h := ite_f c8 h
        refine lv_iload hx hb dX13_move_35 (lv_at hl 4 rfl) ?_
        refine lv_iconst (v := 1) hx hb dX13_move_37 rfl ?_
        refine lv_sipush (v := 200) hx hb dX13_move_38 rfl ?_
        obtain ⟨z9, h9, h⟩ := ob_some h
        refine k_z (va_runS (As := [.int x4, .int 1, .int 200]) (rest := []) ⟨hx, hb, hml, hown, hts⟩ (c_X13_in (l := l) (pI M a0 0 0) x4 1 200 h9) (va_cwS 3 hts gX13_move_X13_in rfl rfl rfl hdS_X13_in ⟨Nat.le_of_ble_eq_true rfl, Nat.le_of_ble_eq_true rfl⟩) (pS hP hK hD hT hG hS) rfl rfl hl.1 rfl (lv_room (Nat.le_of_ble_eq_true rfl)) dX13_move_41 ⟨Nat.zero_le _, Nat.zero_le _⟩) hS (fun H locs hz9 hP hD hT hS => ?_)
        refine lv_if_ne (tgt := 53) hx hb dX13_move_44 rfl (fun c10 => ?_) (fun c10 => ?_)
        · replace h := ite_f c10 h
          refine lv_aload_n hx hb dX13_move_53 rfl (lv_at hl 0 rfl) ?_
          refine lv_iload_n hx hb dX13_move_54 rfl (lv_at hl 1 rfl) ?_
          refine r_putI (T := TX13) (ty := .int) (v := x1) hx hb hts in13 tyX13 tyX13_ok nmX13 hown hK hP hD hT hS k0 (by decide) rfl 17 (by decide) (hts (.fieldLink RX13 17 "StoneWalkModel" "moved" "I") (List.mem_of_getElem? (i := 2) (by decide +kernel))) rfl rfl (tyX13_ok 17 (by decide)) rfl rfl rfl dX13_move_55 (fun H locs hP hD hT hS => ?_)
          refine lv_aload_n hx hb dX13_move_58 rfl (lv_at hl 0 rfl) ?_
          refine lv_iload_n hx hb dX13_move_59 rfl (lv_at hl 2 rfl) ?_
          refine r_putI (T := TX13) (ty := .int) (v := x2) hx hb hts in13 tyX13 tyX13_ok nmX13 hown hK hP hD hT hS k0 (by decide) rfl 18 (by decide) (hts (.fieldLink RX13 490 "StoneWalkModel" "movedBy" "I") (List.mem_of_getElem? (i := 3) (by decide +kernel))) rfl rfl (tyX13_ok 18 (by decide)) rfl rfl rfl dX13_move_60 (fun H locs hP hD hT hS => ?_)
          refine lv_aload_n hx hb dX13_move_63 rfl (lv_at hl 0 rfl) ?_
          refine lv_iload_n hx hb dX13_move_64 rfl (lv_at hl 3 rfl) ?_
          refine r_putI (T := TX13) (ty := .int) (v := x3) hx hb hts in13 tyX13 tyX13_ok nmX13 hown hK hP hD hT hS k0 (by decide) rfl 19 (by decide) (hts (.fieldLink RX13 493 "StoneWalkModel" "movedOn" "I") (List.mem_of_getElem? (i := 4) (by decide +kernel))) rfl rfl (tyX13_ok 19 (by decide)) rfl rfl rfl dX13_move_65 (fun H locs hP hD hT hS => ?_)
          refine lv_aload_n hx hb dX13_move_68 rfl (lv_at hl 0 rfl) ?_
          refine lv_iload hx hb dX13_move_69 (lv_at hl 4 rfl) ?_
          refine r_putI (T := TX13) (ty := .int) (v := x4) hx hb hts in13 tyX13 tyX13_ok nmX13 hown hK hP hD hT hS k0 (by decide) rfl 20 (by decide) (hts (.fieldLink RX13 496 "StoneWalkModel" "people" "I") (List.mem_of_getElem? (i := 5) (by decide +kernel))) rfl rfl (tyX13_ok 20 (by decide)) rfl rfl rfl dX13_move_71 (fun H locs hP hD hT hS => ?_)
          refine lv_aload_n hx hb dX13_move_74 rfl (lv_at hl 0 rfl) ?_
          obtain ⟨z11, h11, h⟩ := ob_some h
          refine k_v (va_runV (As := []) (rest := []) ⟨hx, hb, hml, hown, hts⟩ (c_X13_startsAnew (l := l) (pI (pI (pI (pI (pI M a0 0 0) a0 17 x1) a0 18 x2) a0 19 x3) a0 20 x4) a0 k0 h11) (cwV 0 hts gX13_move_X13_startsAnew rfl rfl rfl hdV_X13_startsAnew ⟨Nat.le_of_ble_eq_true rfl, Nat.le_of_ble_eq_true rfl⟩) (pV (T := TX13) hP hK hD hT hG hS k0 (by decide) rfl) rfl rfl hl.1 rfl (lv_room (Nat.le_of_ble_eq_true rfl)) dX13_move_75 ⟨Nat.zero_le _, Nat.zero_le _⟩) hS (fun H locs hP hD hT hS => ?_)
          refine lv_aload_n hx hb dX13_move_78 rfl (lv_at hl 0 rfl) ?_
          obtain ⟨z12, h12, h⟩ := ob_some h
          refine k_z (va_runV (As := []) (rest := []) ⟨hx, hb, hml, hown, hts⟩ (c_X13_granted (l := l) z11 a0 k0 h12) (cwV 0 hts gX13_move_X13_granted rfl rfl rfl hdV_X13_granted ⟨Nat.le_of_ble_eq_true rfl, Nat.le_of_ble_eq_true rfl⟩) (pV (T := TX13) hP hK hD hT hG hS k0 (by decide) rfl) rfl rfl hl.1 rfl (lv_room (Nat.le_of_ble_eq_true rfl)) dX13_move_79 ⟨Nat.zero_le _, Nat.zero_le _⟩) hS (fun H locs hz12 hP hD hT hS => ?_)
          have hZ := Option.some.inj h
          exact r_zret hx hb hr hlocks hP hK hD hT hG hS hz12 (congrArg Prod.fst hZ) (congrArg Prod.snd hZ) dX13_move_82
        · replace h := ite_t c10 h
          refine lv_aload_n hx hb dX13_move_47 rfl (lv_at hl 0 rfl) ?_
          refine lv_iconst (v := 2) hx hb dX13_move_48 rfl ?_
          obtain ⟨z13, h13, h⟩ := ob_some h
          refine k_z (va_runV (As := [.int 2]) (rest := []) ⟨hx, hb, hml, hown, hts⟩ (c_X13_denied (l := l) (pI M a0 0 0) a0 2 k0 h13) (cwV 1 hts gX13_move_X13_denied rfl rfl rfl hdV_X13_denied ⟨Nat.le_of_ble_eq_true rfl, Nat.le_of_ble_eq_true rfl⟩) (pV (T := TX13) hP hK hD hT hG hS k0 (by decide) rfl) rfl rfl hl.1 rfl (lv_room (Nat.le_of_ble_eq_true rfl)) dX13_move_49 ⟨Nat.zero_le _, Nat.zero_le _⟩) hS (fun H locs hz13 hP hD hT hS => ?_)
          have hZ := Option.some.inj h
          exact r_zret hx hb hr hlocks hP hK hD hT hG hS hz13 (congrArg Prod.fst hZ) (congrArg Prod.snd hZ) dX13_move_52
      · replace h := ite_t c8 h
        refine lv_aload_n hx hb dX13_move_29 rfl (lv_at hl 0 rfl) ?_
        refine lv_iconst (v := 1) hx hb dX13_move_30 rfl ?_
        obtain ⟨z14, h14, h⟩ := ob_some h
        refine k_z (va_runV (As := [.int 1]) (rest := []) ⟨hx, hb, hml, hown, hts⟩ (c_X13_denied (l := l) (pI M a0 0 0) a0 1 k0 h14) (cwV 1 hts gX13_move_X13_denied rfl rfl rfl hdV_X13_denied ⟨Nat.le_of_ble_eq_true rfl, Nat.le_of_ble_eq_true rfl⟩) (pV (T := TX13) hP hK hD hT hG hS k0 (by decide) rfl) rfl rfl hl.1 rfl (lv_room (Nat.le_of_ble_eq_true rfl)) dX13_move_31 ⟨Nat.zero_le _, Nat.zero_le _⟩) hS (fun H locs hz14 hP hD hT hS => ?_)
        have hZ := Option.some.inj h
        exact r_zret hx hb hr hlocks hP hK hD hT hG hS hz14 (congrArg Prod.fst hZ) (congrArg Prod.snd hZ) dX13_move_34
set_option maxHeartbeats 4000000 in
set_option maxRecDepth 100000 in
theorem c_X13_drawn {l : Launch} {D : va_G} {ad : Nat → Nat} {cy : Nat → ClassId} {A : Nat → Prop} {g : CG} {q : SE} (M : MM) (a0 : Nat) (x1 : Int32) (k0 : ok g a0 13 0) {Z : (Int32 × MM)} (h : f_X13_drawn M a0 x1 = some Z) : Met l yX13_drawn wsX13_drawn ({ frames := 0, cells := 0, slots := 0, locals := 0 }) (va_Pc [.ref (ad a0), .int x1] (Wd D ad cy A g q M)) (va_Qi (fun r u => r = Z.1 ∧ u = Z.2) (Wd D ad cy A g q) A) 0 0 A := by
  refine Met.ofW (cc := cX13_drawn) (maxL := 2) (ret := (some .int)) (by decide) rfl ?_
  intro p e s m args below meth c s₁ B hml hv
  obtain ⟨rfl, hP, hK, hD, hT, hG⟩ := hv
  have hx := B.exec
  have hb := B.bytes
  have hr := B.returns
  have hts := atoms_spec (ws := wsX13_drawn) B.pre
  have hown : s.vm.findClass RX13 = some m.cls := findClass_of_methodNamed B.named
  have hlocks := B.notSynchronized
  have in13 : ∀ w ∈ u_ws RX13 TX13 29, w ∈ wsX13_drawn := fun w h => List.mem_cons_of_mem _ (List.mem_append_right _ h)
  have hS : va_S A s.heap s.heap [] := va_S.rf
  have hl := lv_entry ([.ref (ad a0), .int x1]) (n := 2) (Nat.le_of_ble_eq_true rfl)
  rw [lg_entry_eq]
  generalize (lg_sl ([.ref (ad a0), .int x1]) ++ List.replicate (2 - (lg_sl ([.ref (ad a0), .int x1])).length) Slot.unset).toArray = ls at hl ⊢
  have hl : lv_has ls 2 [(0, .ref (ad a0)), (1, .int x1)] := hl
  unfold f_X13_drawn at h
  refine lv_aload_n hx hb dX13_drawn_0 rfl (lv_at hl 0 rfl) ?_
  refine lv_ldc2 hx hb hown (hts (.constantLong RX13 512 (75)) (List.mem_of_getElem? (i := 1) (by decide +kernel))) dX13_drawn_1 ?_
  refine lv_aload_n hx hb dX13_drawn_4 rfl (lv_at hl 0 rfl) ?_
  refine r_get (T := TX13) (v := .int (gI M a0 16)) hx hb hts in13 hown hK hP k0 (by decide) rfl 16 (by decide) (hts (.fieldLink RX13 437 "StoneWalkModel" "seed" "I") (List.mem_of_getElem? (i := 2) (by decide +kernel))) rfl (t := 0) rfl rfl dX13_drawn_5 ?_
  refine lv_i2l hx hb dX13_drawn_8 rfl ?_
  refine lv_lmul hx hb dX13_drawn_9 ?_
  refine lv_ldc2 hx hb hown (hts (.constantLong RX13 514 (74)) (List.mem_of_getElem? (i := 3) (by decide +kernel))) dX13_drawn_10 ?_
  refine lv_ladd hx hb dX13_drawn_13 ?_
  refine lv_ldc2 hx hb hown (hts (.constantLong RX13 516 (65537)) (List.mem_of_getElem? (i := 4) (by decide +kernel))) dX13_drawn_14 ?_
  refine lv_lrem hx hb dX13_drawn_17 (by decide) ?_
  refine lv_l2i hx hb dX13_drawn_18 rfl ?_
  refine r_putI (T := TX13) (ty := .int) (v := (((75 * ((gI M a0 16).toInt64)) + 74) - ((75 * ((gI M a0 16).toInt64)) + 74) / 65537 * 65537).toInt32) hx hb hts in13 tyX13 tyX13_ok nmX13 hown hK hP hD hT hS k0 (by decide) rfl 16 (by decide) (hts (.fieldLink RX13 437 "StoneWalkModel" "seed" "I") (List.mem_of_getElem? (i := 2) (by decide +kernel))) rfl rfl (tyX13_ok 16 (by decide)) rfl rfl rfl dX13_drawn_19 (fun H locs hP hD hT hS => ?_)
  refine lv_aload_n hx hb dX13_drawn_22 rfl (lv_at hl 0 rfl) ?_
  refine r_get (T := TX13) (v := .int (gI (pI M a0 16 ((((75 * ((gI M a0 16).toInt64)) + 74) - ((75 * ((gI M a0 16).toInt64)) + 74) / 65537 * 65537).toInt32)) a0 16)) hx hb hts in13 hown hK hP k0 (by decide) rfl 16 (by decide) (hts (.fieldLink RX13 437 "StoneWalkModel" "seed" "I") (List.mem_of_getElem? (i := 2) (by decide +kernel))) rfl (t := 0) rfl rfl dX13_drawn_23 ?_
  refine lv_iload_n hx hb dX13_drawn_26 rfl (lv_at hl 1 rfl) ?_
  obtain ⟨hn1, h⟩ := chk_some h
  refine lv_irem hx hb dX13_drawn_27 hn1 ?_
  have hZ := Option.some.inj h
  exact r_iret hx hb hr hlocks hP hK hD hT hG hS (congrArg Prod.fst hZ) (congrArg Prod.snd hZ) dX13_drawn_28
set_option maxHeartbeats 4000000 in
set_option maxRecDepth 100000 in
theorem c_X13_steps {l : Launch} {D : va_G} {ad : Nat → Nat} {cy : Nat → ClassId} {A : Nat → Prop} {g : CG} {q : SE} (M : MM) (a0 : Nat) (k0 : ok g a0 13 0) {Z : (Int32 × MM)} (h : f_X13_steps M a0 = some Z) : Met l yX13_steps wsX13_steps ({ frames := 3, cells := 0, slots := 0, locals := 69 }) (va_Pc [.ref (ad a0)] (Wd D ad cy A g q M)) (va_Qi (fun r u => r = Z.1 ∧ u = Z.2) (Wd D ad cy A g q) A) 0 0 A := by
  refine Met.ofW (cc := cX13_steps) (maxL := 6) (ret := (some .int)) (by decide) rfl ?_
  intro p e s m args below meth c s₁ B hml hv
  obtain ⟨rfl, hP, hK, hD, hT, hG⟩ := hv
  have hx := B.exec
  have hb := B.bytes
  have hr := B.returns
  have hts := atoms_spec (ws := wsX13_steps) B.pre
  have hown : s.vm.findClass RX13 = some m.cls := findClass_of_methodNamed B.named
  have hlocks := B.notSynchronized
  have in12 : ∀ w ∈ u_ws RX12 TX12 48, w ∈ wsX13_steps := fun w h => List.mem_cons_of_mem _ (List.mem_append_right _ h)
  have in13 : ∀ w ∈ u_ws RX13 TX13 29, w ∈ wsX13_steps := fun w h => List.mem_cons_of_mem _ (List.mem_append_left _ (List.mem_append_right _ h))
  have hS : va_S A s.heap s.heap [] := va_S.rf
  have hl := lv_entry ([.ref (ad a0)]) (n := 6) (Nat.le_of_ble_eq_true rfl)
  rw [lg_entry_eq]
  generalize (lg_sl ([.ref (ad a0)]) ++ List.replicate (6 - (lg_sl ([.ref (ad a0)])).length) Slot.unset).toArray = ls at hl ⊢
  have hl : lv_has ls 6 [(0, .ref (ad a0))] := hl
  unfold f_X13_steps at h
  refine lv_aload_n hx hb dX13_steps_0 rfl (lv_at hl 0 rfl) ?_
  rcases hN1 : gR M a0 3 with _ | b1
  · replace h := oc_n hN1 h
    refine r_get (T := TX13) (v := .null) hx hb hts in13 hown hK hP k0 (by decide) rfl 3 (by decide) (hts (.fieldLink RX13 431 "StoneWalkModel" "island" "LStoneWalkModel$Island;") (List.mem_of_getElem? (i := 1) (by decide +kernel))) rfl (t := 2) rfl (by show va_rf _ = _; rw [hN1]; rfl) dX13_steps_1 ?_
    refine lv_aload_n hx hb dX13_steps_4 rfl (lv_at hl 0 rfl) ?_
    refine r_get (T := TX13) (v := .int (gI M a0 19)) hx hb hts in13 hown hK hP k0 (by decide) rfl 19 (by decide) (hts (.fieldLink RX13 493 "StoneWalkModel" "movedOn" "I") (List.mem_of_getElem? (i := 2) (by decide +kernel))) rfl (t := 0) rfl rfl dX13_steps_5 ?_
    refine lv_aload_n hx hb dX13_steps_8 rfl (lv_at hl 0 rfl) ?_
    refine r_get (T := TX13) (v := .int (gI M a0 22)) hx hb hts in13 hown hK hP k0 (by decide) rfl 22 (by decide) (hts (.fieldLink RX13 503 "StoneWalkModel" "slopesGone" "I") (List.mem_of_getElem? (i := 3) (by decide +kernel))) rfl (t := 0) rfl rfl dX13_steps_9 ?_
    exact absurd h (by simp)
  · replace h := oc_s hN1 h
    have kb1 := hT.f k0 (k := 3) (t := 12) (n := 0) rfl hN1
    refine r_get (T := TX13) (v := .ref (ad b1)) hx hb hts in13 hown hK hP k0 (by decide) rfl 3 (by decide) (hts (.fieldLink RX13 431 "StoneWalkModel" "island" "LStoneWalkModel$Island;") (List.mem_of_getElem? (i := 1) (by decide +kernel))) rfl (t := 2) rfl (by show va_rf _ = _; rw [hN1]; rfl) dX13_steps_1 ?_
    refine lv_aload_n hx hb dX13_steps_4 rfl (lv_at hl 0 rfl) ?_
    refine r_get (T := TX13) (v := .int (gI M a0 19)) hx hb hts in13 hown hK hP k0 (by decide) rfl 19 (by decide) (hts (.fieldLink RX13 493 "StoneWalkModel" "movedOn" "I") (List.mem_of_getElem? (i := 2) (by decide +kernel))) rfl (t := 0) rfl rfl dX13_steps_5 ?_
    refine lv_aload_n hx hb dX13_steps_8 rfl (lv_at hl 0 rfl) ?_
    refine r_get (T := TX13) (v := .int (gI M a0 22)) hx hb hts in13 hown hK hP k0 (by decide) rfl 22 (by decide) (hts (.fieldLink RX13 503 "StoneWalkModel" "slopesGone" "I") (List.mem_of_getElem? (i := 3) (by decide +kernel))) rfl (t := 0) rfl rfl dX13_steps_9 ?_
    obtain ⟨z2, h2, h⟩ := ob_some h
    refine k_i (va_runV (As := [.int (gI M a0 19), .int (gI M a0 22)]) (rest := []) ⟨hx, hb, hml, hown, hts⟩ (c_X12_slopeAt (l := l) M b1 (gI M a0 19) (gI M a0 22) kb1 h2) (cwV 2 hts gX13_steps_X12_slopeAt rfl rfl rfl hdV_X12_slopeAt ⟨Nat.le_of_ble_eq_true rfl, Nat.le_of_ble_eq_true rfl⟩) (pV (T := TX12) hP hK hD hT hG hS kb1 (by decide) rfl) rfl rfl hl.1 rfl (lv_room (Nat.le_of_ble_eq_true rfl)) dX13_steps_12 ⟨Nat.zero_le _, Nat.zero_le _⟩) hS (fun H locs hP hD hT hS => ?_)
    refine lv_istore_n (lv' := [(1, .int z2), (0, .ref (ad a0))]) hx hb dX13_steps_15 rfl hl (by decide) rfl (fun ls hl => ?_)
    refine lv_aload_n hx hb dX13_steps_16 rfl (lv_at hl 1 rfl) ?_
    refine lv_aload_n hx hb dX13_steps_17 rfl (lv_at hl 1 rfl) ?_
    refine r_get (T := TX13) (v := .int (gI M a0 18)) hx hb hts in13 hown hK hP k0 (by decide) rfl 18 (by decide) (hts (.fieldLink RX13 490 "StoneWalkModel" "movedBy" "I") (List.mem_of_getElem? (i := 4) (by decide +kernel))) rfl (t := 0) rfl rfl dX13_steps_18 ?_
    refine lv_aload_n hx hb dX13_steps_21 rfl (lv_at hl 1 rfl) ?_
    refine r_get (T := TX13) (v := .int (gI M a0 17)) hx hb hts in13 hown hK hP k0 (by decide) rfl 17 (by decide) (hts (.fieldLink RX13 17 "StoneWalkModel" "moved" "I") (List.mem_of_getElem? (i := 5) (by decide +kernel))) rfl (t := 0) rfl rfl dX13_steps_22 ?_
    refine lv_iload_n hx hb dX13_steps_25 rfl (lv_at hl 0 rfl) ?_
    obtain ⟨z3, h3, h⟩ := ob_some h
    refine k_z (va_runV (As := [.int (gI M a0 18), .int (gI M a0 17), .int z2]) (rest := []) ⟨hx, hb, hml, hown, hts⟩ (c_X13_canBy (l := l) M a0 (gI M a0 18) (gI M a0 17) z2 k0 h3) (cwV 3 hts gX13_steps_X13_canBy rfl rfl rfl hdV_X13_canBy ⟨Nat.le_of_ble_eq_true rfl, Nat.le_of_ble_eq_true rfl⟩) (pV (T := TX13) hP hK hD hT hG hS k0 (by decide) rfl) rfl rfl hl.1 rfl (lv_room (Nat.le_of_ble_eq_true rfl)) dX13_steps_26 ⟨Nat.zero_le _, Nat.zero_le _⟩) hS (fun H locs hz3 hP hD hT hS => ?_)
    refine lv_if_ne (tgt := 34) hx hb dX13_steps_29 rfl (fun c4 => ?_) (fun c4 => ?_)
    · replace h := ite_f c4 h
      refine lv_aload_n hx hb dX13_steps_34 rfl (lv_at hl 1 rfl) ?_
      refine lv_aload_n hx hb dX13_steps_35 rfl (lv_at hl 1 rfl) ?_
      refine r_get (T := TX13) (v := .int (gI M a0 18)) hx hb hts in13 hown hK hP k0 (by decide) rfl 18 (by decide) (hts (.fieldLink RX13 490 "StoneWalkModel" "movedBy" "I") (List.mem_of_getElem? (i := 4) (by decide +kernel))) rfl (t := 0) rfl rfl dX13_steps_36 ?_
      refine lv_aload_n hx hb dX13_steps_39 rfl (lv_at hl 1 rfl) ?_
      rcases hN5 : gR M a0 3 with _ | b5
      · replace h := oc_n hN5 h
        refine r_get (T := TX13) (v := .null) hx hb hts in13 hown hK hP k0 (by decide) rfl 3 (by decide) (hts (.fieldLink RX13 431 "StoneWalkModel" "island" "LStoneWalkModel$Island;") (List.mem_of_getElem? (i := 1) (by decide +kernel))) rfl (t := 2) rfl (by show va_rf _ = _; rw [hN5]; rfl) dX13_steps_40 ?_
        exact absurd h (by simp)
      · replace h := oc_s hN5 h
        have kb5 := hT.f k0 (k := 3) (t := 12) (n := 0) rfl hN5
        refine r_get (T := TX13) (v := .ref (ad b5)) hx hb hts in13 hown hK hP k0 (by decide) rfl 3 (by decide) (hts (.fieldLink RX13 431 "StoneWalkModel" "island" "LStoneWalkModel$Island;") (List.mem_of_getElem? (i := 1) (by decide +kernel))) rfl (t := 2) rfl (by show va_rf _ = _; rw [hN5]; rfl) dX13_steps_40 ?_
        rcases hN6 : gR M b5 15 with _ | b6
        · exact absurd (oc_n hN6 h) (by simp)
        replace h := oc_s hN6 h
        have kb6 := hT.f kb5 (k := 15) (t := 15) (n := 10) rfl hN6
        refine r_getN (T := TX12) (v := .ref (ad b6)) hx hb hts in12 hown hK hP kb5 (by decide) rfl 15 (by decide) (hG.2.2.1 _ (List.mem_of_getElem? (i := 15) rfl)) rfl (t := 2) rfl (by show va_rf _ = _; rw [hN6]; rfl) dX13_steps_43 ?_
        refine lv_aload_n hx hb dX13_steps_46 rfl (lv_at hl 1 rfl) ?_
        refine r_get (T := TX13) (v := .int (gI M a0 17)) hx hb hts in13 hown hK hP k0 (by decide) rfl 17 (by decide) (hts (.fieldLink RX13 17 "StoneWalkModel" "moved" "I") (List.mem_of_getElem? (i := 5) (by decide +kernel))) rfl (t := 0) rfl rfl dX13_steps_47 ?_
        obtain ⟨hn7, h⟩ := chk_some h
        refine r_iald hx hb hK hP kb6 hn7 dX13_steps_50 ?_
        refine lv_iload_n hx hb dX13_steps_51 rfl (lv_at hl 0 rfl) ?_
        obtain ⟨z8, h8, h⟩ := ob_some h
        refine k_i (va_runV (As := [.int (gI M a0 18), .int (gI M b6 (ix (gI M a0 17))), .int z2]) (rest := []) ⟨hx, hb, hml, hown, hts⟩ (c_X13_needBy (l := l) M a0 (gI M a0 18) (gI M b6 (ix (gI M a0 17))) z2 k0 h8) (cwV 3 hts gX13_steps_X13_needBy rfl rfl rfl hdV_X13_needBy ⟨Nat.le_of_ble_eq_true rfl, Nat.le_of_ble_eq_true rfl⟩) (pV (T := TX13) hP hK hD hT hG hS k0 (by decide) rfl) rfl rfl hl.1 rfl (lv_room (Nat.le_of_ble_eq_true rfl)) dX13_steps_52 ⟨Nat.zero_le _, Nat.zero_le _⟩) hS (fun H locs hP hD hT hS => ?_)
        refine lv_istore_n (lv' := [(2, .int z8), (1, .int z2), (0, .ref (ad a0))]) hx hb dX13_steps_55 rfl hl (by decide) rfl (fun ls hl => ?_)
        refine lv_aload_n hx hb dX13_steps_56 rfl (lv_at hl 2 rfl) ?_
        refine r_get (T := TX13) (v := .int (gI M a0 20)) hx hb hts in13 hown hK hP k0 (by decide) rfl 20 (by decide) (hts (.fieldLink RX13 496 "StoneWalkModel" "people" "I") (List.mem_of_getElem? (i := 6) (by decide +kernel))) rfl (t := 0) rfl rfl dX13_steps_57 ?_
        refine lv_iload_n hx hb dX13_steps_60 rfl (lv_at hl 0 rfl) ?_
        refine lv_icmp_ge (tgt := 66) hx hb dX13_steps_61 rfl (fun c9 => ?_) (fun c9 => ?_)
        · replace h := ite_t c9 h
          refine lv_aload_n hx hb dX13_steps_66 rfl (lv_at hl 2 rfl) ?_
          refine lv_dup hx hb dX13_steps_67 rfl ?_
          refine r_get (T := TX13) (v := .int (gI M a0 23)) hx hb hts in13 hown hK hP k0 (by decide) rfl 23 (by decide) (hts (.fieldLink RX13 506 "StoneWalkModel" "minutesGone" "I") (List.mem_of_getElem? (i := 7) (by decide +kernel))) rfl (t := 0) rfl rfl dX13_steps_68 ?_
          refine lv_aload_n hx hb dX13_steps_71 rfl (lv_at hl 2 rfl) ?_
          refine lv_aload_n hx hb dX13_steps_72 rfl (lv_at hl 2 rfl) ?_
          refine r_get (T := TX13) (v := .int (gI M a0 18)) hx hb hts in13 hown hK hP k0 (by decide) rfl 18 (by decide) (hts (.fieldLink RX13 490 "StoneWalkModel" "movedBy" "I") (List.mem_of_getElem? (i := 4) (by decide +kernel))) rfl (t := 0) rfl rfl dX13_steps_73 ?_
          refine lv_iload_n hx hb dX13_steps_76 rfl (lv_at hl 0 rfl) ?_
          refine lv_aload_n hx hb dX13_steps_77 rfl (lv_at hl 2 rfl) ?_
          refine r_get (T := TX13) (v := .int (gI M a0 20)) hx hb hts in13 hown hK hP k0 (by decide) rfl 20 (by decide) (hts (.fieldLink RX13 496 "StoneWalkModel" "people" "I") (List.mem_of_getElem? (i := 6) (by decide +kernel))) rfl (t := 0) rfl rfl dX13_steps_78 ?_
          obtain ⟨z10, h10, h⟩ := ob_some h
          refine k_i (va_runV (As := [.int (gI M a0 18), .int z8, .int (gI M a0 20)]) (rest := [.int (gI M a0 23), .ref (ad a0)]) ⟨hx, hb, hml, hown, hts⟩ (c_X13_minutesBy (l := l) M a0 (gI M a0 18) z8 (gI M a0 20) k0 h10) (cwV 3 hts gX13_steps_X13_minutesBy rfl rfl rfl hdV_X13_minutesBy ⟨Nat.le_of_ble_eq_true rfl, Nat.le_of_ble_eq_true rfl⟩) (pV (T := TX13) hP hK hD hT hG hS k0 (by decide) rfl) rfl rfl hl.1 rfl (lv_room (Nat.le_of_ble_eq_true rfl)) dX13_steps_81 ⟨Nat.zero_le _, Nat.zero_le _⟩) hS (fun H locs hP hD hT hS => ?_)
          refine lv_iadd hx hb dX13_steps_84 ?_
          refine r_putI (T := TX13) (ty := .int) (v := (gI M a0 23) + z10) hx hb hts in13 tyX13 tyX13_ok nmX13 hown hK hP hD hT hS k0 (by decide) rfl 23 (by decide) (hts (.fieldLink RX13 506 "StoneWalkModel" "minutesGone" "I") (List.mem_of_getElem? (i := 7) (by decide +kernel))) rfl rfl (tyX13_ok 23 (by decide)) rfl rfl rfl dX13_steps_85 (fun H locs hP hD hT hS => ?_)
          refine lv_aload_n hx hb dX13_steps_88 rfl (lv_at hl 2 rfl) ?_
          refine lv_aload_n hx hb dX13_steps_89 rfl (lv_at hl 2 rfl) ?_
          refine r_get (T := TX13) (v := .int (gI (pI M a0 23 ((gI M a0 23) + z10)) a0 18)) hx hb hts in13 hown hK hP k0 (by decide) rfl 18 (by decide) (hts (.fieldLink RX13 490 "StoneWalkModel" "movedBy" "I") (List.mem_of_getElem? (i := 4) (by decide +kernel))) rfl (t := 0) rfl rfl dX13_steps_90 ?_
          refine lv_aload_n hx hb dX13_steps_93 rfl (lv_at hl 2 rfl) ?_
          refine r_get (T := TX13) (v := .int (gI (pI M a0 23 ((gI M a0 23) + z10)) a0 17)) hx hb hts in13 hown hK hP k0 (by decide) rfl 17 (by decide) (hts (.fieldLink RX13 17 "StoneWalkModel" "moved" "I") (List.mem_of_getElem? (i := 5) (by decide +kernel))) rfl (t := 0) rfl rfl dX13_steps_94 ?_
          refine lv_iload_n hx hb dX13_steps_97 rfl (lv_at hl 1 rfl) ?_
          obtain ⟨z11, h11, h⟩ := ob_some h
          refine k_i (va_runV (As := [.int (gI (pI M a0 23 ((gI M a0 23) + z10)) a0 18), .int (gI (pI M a0 23 ((gI M a0 23) + z10)) a0 17), .int z2]) (rest := []) ⟨hx, hb, hml, hown, hts⟩ (c_X13_chanceBy (l := l) (pI M a0 23 ((gI M a0 23) + z10)) a0 (gI (pI M a0 23 ((gI M a0 23) + z10)) a0 18) (gI (pI M a0 23 ((gI M a0 23) + z10)) a0 17) z2 k0 h11) (cwV 3 hts gX13_steps_X13_chanceBy rfl rfl rfl hdV_X13_chanceBy ⟨Nat.le_of_ble_eq_true rfl, Nat.le_of_ble_eq_true rfl⟩) (pV (T := TX13) hP hK hD hT hG hS k0 (by decide) rfl) rfl rfl hl.1 rfl (lv_room (Nat.le_of_ble_eq_true rfl)) dX13_steps_98 ⟨Nat.zero_le _, Nat.zero_le _⟩) hS (fun H locs hP hD hT hS => ?_)
          refine lv_istore_n (lv' := [(3, .int z11), (2, .int z8), (1, .int z2), (0, .ref (ad a0))]) hx hb dX13_steps_101 rfl hl (by decide) rfl (fun ls hl => ?_)
          refine lv_iload_n hx hb dX13_steps_102 rfl (lv_at hl 0 rfl) ?_
          refine lv_if_le (tgt := 176) hx hb dX13_steps_103 rfl (fun c12 => ?_) (fun c12 => ?_)
          · replace h := ite_t c12 h
            refine lv_aload_n hx hb dX13_steps_176 rfl (lv_at hl 3 rfl) ?_
            refine lv_dup hx hb dX13_steps_177 rfl ?_
            refine r_get (T := TX13) (v := .int (gI (pI M a0 23 ((gI M a0 23) + z10)) a0 22)) hx hb hts in13 hown hK hP k0 (by decide) rfl 22 (by decide) (hts (.fieldLink RX13 503 "StoneWalkModel" "slopesGone" "I") (List.mem_of_getElem? (i := 3) (by decide +kernel))) rfl (t := 0) rfl rfl dX13_steps_178 ?_
            refine lv_iconst (v := 1) hx hb dX13_steps_181 rfl ?_
            refine lv_iadd hx hb dX13_steps_182 ?_
            refine r_putI (T := TX13) (ty := .int) (v := (gI (pI M a0 23 ((gI M a0 23) + z10)) a0 22) + 1) hx hb hts in13 tyX13 tyX13_ok nmX13 hown hK hP hD hT hS k0 (by decide) rfl 22 (by decide) (hts (.fieldLink RX13 503 "StoneWalkModel" "slopesGone" "I") (List.mem_of_getElem? (i := 3) (by decide +kernel))) rfl rfl (tyX13_ok 22 (by decide)) rfl rfl rfl dX13_steps_183 (fun H locs hP hD hT hS => ?_)
            refine lv_aload_n hx hb dX13_steps_186 rfl (lv_at hl 3 rfl) ?_
            refine r_get (T := TX13) (v := .int (gI (pI (pI M a0 23 ((gI M a0 23) + z10)) a0 22 ((gI (pI M a0 23 ((gI M a0 23) + z10)) a0 22) + 1)) a0 22)) hx hb hts in13 hown hK hP k0 (by decide) rfl 22 (by decide) (hts (.fieldLink RX13 503 "StoneWalkModel" "slopesGone" "I") (List.mem_of_getElem? (i := 3) (by decide +kernel))) rfl (t := 0) rfl rfl dX13_steps_187 ?_
            refine lv_aload_n hx hb dX13_steps_190 rfl (lv_at hl 3 rfl) ?_
            rcases hN13 : gR (pI (pI M a0 23 ((gI M a0 23) + z10)) a0 22 ((gI (pI M a0 23 ((gI M a0 23) + z10)) a0 22) + 1)) a0 3 with _ | b13
            · replace h := oc_n hN13 h
              refine r_get (T := TX13) (v := .null) hx hb hts in13 hown hK hP k0 (by decide) rfl 3 (by decide) (hts (.fieldLink RX13 431 "StoneWalkModel" "island" "LStoneWalkModel$Island;") (List.mem_of_getElem? (i := 1) (by decide +kernel))) rfl (t := 2) rfl (by show va_rf _ = _; rw [hN13]; rfl) dX13_steps_191 ?_
              exact absurd h (by simp)
            · replace h := oc_s hN13 h
              have kb13 := hT.f k0 (k := 3) (t := 12) (n := 0) rfl hN13
              refine r_get (T := TX13) (v := .ref (ad b13)) hx hb hts in13 hown hK hP k0 (by decide) rfl 3 (by decide) (hts (.fieldLink RX13 431 "StoneWalkModel" "island" "LStoneWalkModel$Island;") (List.mem_of_getElem? (i := 1) (by decide +kernel))) rfl (t := 2) rfl (by show va_rf _ = _; rw [hN13]; rfl) dX13_steps_191 ?_
              rcases hN14 : gR (pI (pI M a0 23 ((gI M a0 23) + z10)) a0 22 ((gI (pI M a0 23 ((gI M a0 23) + z10)) a0 22) + 1)) b13 13 with _ | b14
              · exact absurd (oc_n hN14 h) (by simp)
              replace h := oc_s hN14 h
              have kb14 := hT.f kb13 (k := 13) (t := 15) (n := 3) rfl hN14
              refine r_getN (T := TX12) (v := .ref (ad b14)) hx hb hts in12 hown hK hP kb13 (by decide) rfl 13 (by decide) (hG.2.2.1 _ (List.mem_of_getElem? (i := 13) rfl)) rfl (t := 2) rfl (by show va_rf _ = _; rw [hN14]; rfl) dX13_steps_194 ?_
              refine lv_aload_n hx hb dX13_steps_197 rfl (lv_at hl 3 rfl) ?_
              refine r_get (T := TX13) (v := .int (gI (pI (pI M a0 23 ((gI M a0 23) + z10)) a0 22 ((gI (pI M a0 23 ((gI M a0 23) + z10)) a0 22) + 1)) a0 19)) hx hb hts in13 hown hK hP k0 (by decide) rfl 19 (by decide) (hts (.fieldLink RX13 493 "StoneWalkModel" "movedOn" "I") (List.mem_of_getElem? (i := 2) (by decide +kernel))) rfl (t := 0) rfl rfl dX13_steps_198 ?_
              obtain ⟨hn15, h⟩ := chk_some h
              refine r_iald hx hb hK hP kb14 hn15 dX13_steps_201 ?_
              refine lv_icmp_ne (tgt := 209) hx hb dX13_steps_202 rfl (fun c16 => ?_) (fun c16 => ?_)
              · replace h := ite_f c16 h
                refine lv_iconst (v := 1) hx hb dX13_steps_209 rfl ?_
                have hZ := Option.some.inj h
                exact r_iret hx hb hr hlocks hP hK hD hT hG hS (congrArg Prod.fst hZ) (congrArg Prod.snd hZ) dX13_steps_210
              · replace h := ite_t c16 h
                refine lv_iconst (v := 2) hx hb dX13_steps_205 rfl ?_
                refine lv_goto (tgt := 210) hx hb dX13_steps_206 rfl ?_
                have hZ := Option.some.inj h
                exact r_iret hx hb hr hlocks hP hK hD hT hG hS (congrArg Prod.fst hZ) (congrArg Prod.snd hZ) dX13_steps_210
          · replace h := ite_f c12 h
            refine lv_aload_n hx hb dX13_steps_106 rfl (lv_at hl 3 rfl) ?_
            refine lv_bipush (v := 100) hx hb dX13_steps_107 rfl ?_
            obtain ⟨z17, h17, h⟩ := ob_some h
            refine k_i (va_runV (As := [.int 100]) (rest := []) ⟨hx, hb, hml, hown, hts⟩ (c_X13_drawn (l := l) (pI M a0 23 ((gI M a0 23) + z10)) a0 100 k0 h17) (cwV 1 hts gX13_steps_X13_drawn rfl rfl rfl hdV_X13_drawn ⟨Nat.le_of_ble_eq_true rfl, Nat.le_of_ble_eq_true rfl⟩) (pV (T := TX13) hP hK hD hT hG hS k0 (by decide) rfl) rfl rfl hl.1 rfl (lv_room (Nat.le_of_ble_eq_true rfl)) dX13_steps_109 ⟨Nat.zero_le _, Nat.zero_le _⟩) hS (fun H locs hP hD hT hS => ?_)
            refine lv_iload_n hx hb dX13_steps_112 rfl (lv_at hl 0 rfl) ?_
            refine lv_icmp_ge (tgt := 176) hx hb dX13_steps_113 rfl (fun c18 => ?_) (fun c18 => ?_)
            · replace h := ite_t c18 h
              refine lv_aload_n hx hb dX13_steps_176 rfl (lv_at hl 3 rfl) ?_
              refine lv_dup hx hb dX13_steps_177 rfl ?_
              refine r_get (T := TX13) (v := .int (gI z17.2 a0 22)) hx hb hts in13 hown hK hP k0 (by decide) rfl 22 (by decide) (hts (.fieldLink RX13 503 "StoneWalkModel" "slopesGone" "I") (List.mem_of_getElem? (i := 3) (by decide +kernel))) rfl (t := 0) rfl rfl dX13_steps_178 ?_
              refine lv_iconst (v := 1) hx hb dX13_steps_181 rfl ?_
              refine lv_iadd hx hb dX13_steps_182 ?_
              refine r_putI (T := TX13) (ty := .int) (v := (gI z17.2 a0 22) + 1) hx hb hts in13 tyX13 tyX13_ok nmX13 hown hK hP hD hT hS k0 (by decide) rfl 22 (by decide) (hts (.fieldLink RX13 503 "StoneWalkModel" "slopesGone" "I") (List.mem_of_getElem? (i := 3) (by decide +kernel))) rfl rfl (tyX13_ok 22 (by decide)) rfl rfl rfl dX13_steps_183 (fun H locs hP hD hT hS => ?_)
              refine lv_aload_n hx hb dX13_steps_186 rfl (lv_at hl 3 rfl) ?_
              refine r_get (T := TX13) (v := .int (gI (pI z17.2 a0 22 ((gI z17.2 a0 22) + 1)) a0 22)) hx hb hts in13 hown hK hP k0 (by decide) rfl 22 (by decide) (hts (.fieldLink RX13 503 "StoneWalkModel" "slopesGone" "I") (List.mem_of_getElem? (i := 3) (by decide +kernel))) rfl (t := 0) rfl rfl dX13_steps_187 ?_
              refine lv_aload_n hx hb dX13_steps_190 rfl (lv_at hl 3 rfl) ?_
              rcases hN19 : gR (pI z17.2 a0 22 ((gI z17.2 a0 22) + 1)) a0 3 with _ | b19
              · replace h := oc_n hN19 h
                refine r_get (T := TX13) (v := .null) hx hb hts in13 hown hK hP k0 (by decide) rfl 3 (by decide) (hts (.fieldLink RX13 431 "StoneWalkModel" "island" "LStoneWalkModel$Island;") (List.mem_of_getElem? (i := 1) (by decide +kernel))) rfl (t := 2) rfl (by show va_rf _ = _; rw [hN19]; rfl) dX13_steps_191 ?_
                exact absurd h (by simp)
              · replace h := oc_s hN19 h
                have kb19 := hT.f k0 (k := 3) (t := 12) (n := 0) rfl hN19
                refine r_get (T := TX13) (v := .ref (ad b19)) hx hb hts in13 hown hK hP k0 (by decide) rfl 3 (by decide) (hts (.fieldLink RX13 431 "StoneWalkModel" "island" "LStoneWalkModel$Island;") (List.mem_of_getElem? (i := 1) (by decide +kernel))) rfl (t := 2) rfl (by show va_rf _ = _; rw [hN19]; rfl) dX13_steps_191 ?_
                rcases hN20 : gR (pI z17.2 a0 22 ((gI z17.2 a0 22) + 1)) b19 13 with _ | b20
                · exact absurd (oc_n hN20 h) (by simp)
                replace h := oc_s hN20 h
                have kb20 := hT.f kb19 (k := 13) (t := 15) (n := 3) rfl hN20
                refine r_getN (T := TX12) (v := .ref (ad b20)) hx hb hts in12 hown hK hP kb19 (by decide) rfl 13 (by decide) (hG.2.2.1 _ (List.mem_of_getElem? (i := 13) rfl)) rfl (t := 2) rfl (by show va_rf _ = _; rw [hN20]; rfl) dX13_steps_194 ?_
                refine lv_aload_n hx hb dX13_steps_197 rfl (lv_at hl 3 rfl) ?_
                refine r_get (T := TX13) (v := .int (gI (pI z17.2 a0 22 ((gI z17.2 a0 22) + 1)) a0 19)) hx hb hts in13 hown hK hP k0 (by decide) rfl 19 (by decide) (hts (.fieldLink RX13 493 "StoneWalkModel" "movedOn" "I") (List.mem_of_getElem? (i := 2) (by decide +kernel))) rfl (t := 0) rfl rfl dX13_steps_198 ?_
                obtain ⟨hn21, h⟩ := chk_some h
                refine r_iald hx hb hK hP kb20 hn21 dX13_steps_201 ?_
                refine lv_icmp_ne (tgt := 209) hx hb dX13_steps_202 rfl (fun c22 => ?_) (fun c22 => ?_)
                · replace h := ite_f c22 h
                  refine lv_iconst (v := 1) hx hb dX13_steps_209 rfl ?_
                  have hZ := Option.some.inj h
                  exact r_iret hx hb hr hlocks hP hK hD hT hG hS (congrArg Prod.fst hZ) (congrArg Prod.snd hZ) dX13_steps_210
                · replace h := ite_t c22 h
                  refine lv_iconst (v := 2) hx hb dX13_steps_205 rfl ?_
                  refine lv_goto (tgt := 210) hx hb dX13_steps_206 rfl ?_
                  have hZ := Option.some.inj h
                  exact r_iret hx hb hr hlocks hP hK hD hT hG hS (congrArg Prod.fst hZ) (congrArg Prod.snd hZ) dX13_steps_210
            · replace h := ite_f c18 h
              refine lv_aload_n hx hb dX13_steps_116 rfl (lv_at hl 3 rfl) ?_
              refine lv_bipush (v := 10) hx hb dX13_steps_117 rfl ?_
              obtain ⟨z23, h23, h⟩ := ob_some h
              refine k_i (va_runV (As := [.int 10]) (rest := []) ⟨hx, hb, hml, hown, hts⟩ (c_X13_drawn (l := l) z17.2 a0 10 k0 h23) (cwV 1 hts gX13_steps_X13_drawn rfl rfl rfl hdV_X13_drawn ⟨Nat.le_of_ble_eq_true rfl, Nat.le_of_ble_eq_true rfl⟩) (pV (T := TX13) hP hK hD hT hG hS k0 (by decide) rfl) rfl rfl hl.1 rfl (lv_room (Nat.le_of_ble_eq_true rfl)) dX13_steps_119 ⟨Nat.zero_le _, Nat.zero_le _⟩) hS (fun H locs hP hD hT hS => ?_)
              refine lv_istore (lv' := [(4, .int z23.1), (3, .int z11), (2, .int z8), (1, .int z2), (0, .ref (ad a0))]) hx hb dX13_steps_122 hl (by decide) rfl (fun ls hl => ?_)
              refine lv_aload_n hx hb dX13_steps_124 rfl (lv_at hl 4 rfl) ?_
              refine lv_aload_n hx hb dX13_steps_125 rfl (lv_at hl 4 rfl) ?_
              refine r_get (T := TX13) (v := .int (gI z23.2 a0 18)) hx hb hts in13 hown hK hP k0 (by decide) rfl 18 (by decide) (hts (.fieldLink RX13 490 "StoneWalkModel" "movedBy" "I") (List.mem_of_getElem? (i := 4) (by decide +kernel))) rfl (t := 0) rfl rfl dX13_steps_126 ?_
              refine lv_iload_n hx hb dX13_steps_129 rfl (lv_at hl 3 rfl) ?_
              refine lv_iconst (v := 0) hx hb dX13_steps_130 rfl ?_
              obtain ⟨z24, h24, h⟩ := ob_some h
              refine k_i (va_runV (As := [.int (gI z23.2 a0 18), .int z2, .int 0]) (rest := []) ⟨hx, hb, hml, hown, hts⟩ (c_X13_tenths (l := l) z23.2 a0 (gI z23.2 a0 18) z2 0 k0 h24) (cwV 3 hts gX13_steps_X13_tenths rfl rfl rfl hdV_X13_tenths ⟨Nat.le_of_ble_eq_true rfl, Nat.le_of_ble_eq_true rfl⟩) (pV (T := TX13) hP hK hD hT hG hS k0 (by decide) rfl) rfl rfl hl.1 rfl (lv_room (Nat.le_of_ble_eq_true rfl)) dX13_steps_131 ⟨Nat.zero_le _, Nat.zero_le _⟩) hS (fun H locs hP hD hT hS => ?_)
              refine lv_istore (lv' := [(5, .int z24), (4, .int z23.1), (3, .int z11), (2, .int z8), (1, .int z2), (0, .ref (ad a0))]) hx hb dX13_steps_134 hl (by decide) rfl (fun ls hl => ?_)
              refine lv_aload_n hx hb dX13_steps_136 rfl (lv_at hl 5 rfl) ?_
              refine lv_iload hx hb dX13_steps_137 (lv_at hl 1 rfl) ?_
              refine lv_iload hx hb dX13_steps_139 (lv_at hl 0 rfl) ?_
              refine lv_icmp_ge (tgt := 148) hx hb dX13_steps_141 rfl (fun c25 => ?_) (fun c25 => ?_)
              · replace h := ite_t c25 h
                refine lv_iload hx hb dX13_steps_148 (lv_at hl 1 rfl) ?_
                refine lv_iload hx hb dX13_steps_150 (lv_at hl 0 rfl) ?_
                refine lv_aload_n hx hb dX13_steps_152 rfl (lv_at hl 5 rfl) ?_
                refine lv_aload_n hx hb dX13_steps_153 rfl (lv_at hl 5 rfl) ?_
                refine r_get (T := TX13) (v := .int (gI z23.2 a0 18)) hx hb hts in13 hown hK hP k0 (by decide) rfl 18 (by decide) (hts (.fieldLink RX13 490 "StoneWalkModel" "movedBy" "I") (List.mem_of_getElem? (i := 4) (by decide +kernel))) rfl (t := 0) rfl rfl dX13_steps_154 ?_
                refine lv_iload_n hx hb dX13_steps_157 rfl (lv_at hl 4 rfl) ?_
                refine lv_iconst (v := 1) hx hb dX13_steps_158 rfl ?_
                obtain ⟨z26, h26, h⟩ := ob_some h
                refine k_i (va_runV (As := [.int (gI z23.2 a0 18), .int z2, .int 1]) (rest := [.int z24, .int z23.1, .ref (ad a0)]) ⟨hx, hb, hml, hown, hts⟩ (c_X13_tenths (l := l) z23.2 a0 (gI z23.2 a0 18) z2 1 k0 h26) (cwV 3 hts gX13_steps_X13_tenths rfl rfl rfl hdV_X13_tenths ⟨Nat.le_of_ble_eq_true rfl, Nat.le_of_ble_eq_true rfl⟩) (pV (T := TX13) hP hK hD hT hG hS k0 (by decide) rfl) rfl rfl hl.1 rfl (lv_room (Nat.le_of_ble_eq_true rfl)) dX13_steps_159 ⟨Nat.zero_le _, Nat.zero_le _⟩) hS (fun H locs hP hD hT hS => ?_)
                refine lv_iadd hx hb dX13_steps_162 ?_
                refine lv_icmp_ge (tgt := 170) hx hb dX13_steps_163 rfl (fun c27 => ?_) (fun c27 => ?_)
                · replace h := ite_t c27 h
                  refine lv_iconst (v := 2) hx hb dX13_steps_170 rfl ?_
                  refine r_putI (T := TX13) (ty := .int) (v := 2) hx hb hts in13 tyX13 tyX13_ok nmX13 hown hK hP hD hT hS k0 (by decide) rfl 24 (by decide) (hts (.fieldLink RX13 509 "StoneWalkModel" "liesNow" "I") (List.mem_of_getElem? (i := 8) (by decide +kernel))) rfl rfl (tyX13_ok 24 (by decide)) rfl rfl rfl dX13_steps_171 (fun H locs hP hD hT hS => ?_)
                  refine lv_iconst (v := 3) hx hb dX13_steps_174 rfl ?_
                  have hZ := Option.some.inj h
                  exact r_iret hx hb hr hlocks hP hK hD hT hG hS (congrArg Prod.fst hZ) (congrArg Prod.snd hZ) dX13_steps_175
                · replace h := ite_f c27 h
                  refine lv_iconst (v := 1) hx hb dX13_steps_166 rfl ?_
                  refine lv_goto (tgt := 171) hx hb dX13_steps_167 rfl ?_
                  refine r_putI (T := TX13) (ty := .int) (v := 1) hx hb hts in13 tyX13 tyX13_ok nmX13 hown hK hP hD hT hS k0 (by decide) rfl 24 (by decide) (hts (.fieldLink RX13 509 "StoneWalkModel" "liesNow" "I") (List.mem_of_getElem? (i := 8) (by decide +kernel))) rfl rfl (tyX13_ok 24 (by decide)) rfl rfl rfl dX13_steps_171 (fun H locs hP hD hT hS => ?_)
                  refine lv_iconst (v := 3) hx hb dX13_steps_174 rfl ?_
                  have hZ := Option.some.inj h
                  exact r_iret hx hb hr hlocks hP hK hD hT hG hS (congrArg Prod.fst hZ) (congrArg Prod.snd hZ) dX13_steps_175
              · replace h := ite_f c25 h
                refine lv_iconst (v := 0) hx hb dX13_steps_144 rfl ?_
                refine lv_goto (tgt := 171) hx hb dX13_steps_145 rfl ?_
                refine r_putI (T := TX13) (ty := .int) (v := 0) hx hb hts in13 tyX13 tyX13_ok nmX13 hown hK hP hD hT hS k0 (by decide) rfl 24 (by decide) (hts (.fieldLink RX13 509 "StoneWalkModel" "liesNow" "I") (List.mem_of_getElem? (i := 8) (by decide +kernel))) rfl rfl (tyX13_ok 24 (by decide)) rfl rfl rfl dX13_steps_171 (fun H locs hP hD hT hS => ?_)
                refine lv_iconst (v := 3) hx hb dX13_steps_174 rfl ?_
                have hZ := Option.some.inj h
                exact r_iret hx hb hr hlocks hP hK hD hT hG hS (congrArg Prod.fst hZ) (congrArg Prod.snd hZ) dX13_steps_175
        · replace h := ite_f c9 h
          refine lv_iconst (v := 5) hx hb dX13_steps_64 rfl ?_
          have hZ := Option.some.inj h
          exact r_iret hx hb hr hlocks hP hK hD hT hG hS (congrArg Prod.fst hZ) (congrArg Prod.snd hZ) dX13_steps_65
    · replace h := ite_t c4 h
      refine lv_iconst (v := 4) hx hb dX13_steps_32 rfl ?_
      have hZ := Option.some.inj h
      exact r_iret hx hb hr hlocks hP hK hD hT hG hS (congrArg Prod.fst hZ) (congrArg Prod.snd hZ) dX13_steps_33
set_option maxHeartbeats 4000000 in
set_option maxRecDepth 100000 in
theorem c_X13_step {l : Launch} {D : va_G} {ad : Nat → Nat} {cy : Nat → ClassId} {A : Nat → Prop} {g : CG} {q : SE} (M : MM) (a0 : Nat) (k0 : ok g a0 13 0) {Z : (Int32 × MM)} (h : f_X13_step M a0 = some Z) : Met l yX13_step wsX13_step ({ frames := 4, cells := 0, slots := 0, locals := 94 }) (va_Pc [.ref (ad a0)] (Wd D ad cy A g q M)) (va_Qi (fun r u => r = Z.1 ∧ u = Z.2) (Wd D ad cy A g q) A) 0 0 A := by
  refine Met.ofW (cc := cX13_step) (maxL := 1) (ret := (some .int)) (by decide) rfl ?_
  intro p e s m args below meth c s₁ B hml hv
  obtain ⟨rfl, hP, hK, hD, hT, hG⟩ := hv
  have hx := B.exec
  have hb := B.bytes
  have hr := B.returns
  have hts := atoms_spec (ws := wsX13_step) B.pre
  have hown : s.vm.findClass RX13 = some m.cls := findClass_of_methodNamed B.named
  have hlocks := B.notSynchronized
  have in13 : ∀ w ∈ u_ws RX13 TX13 29, w ∈ wsX13_step := fun w h => List.mem_cons_of_mem _ (List.mem_append_left _ (List.mem_append_right _ h))
  have hS : va_S A s.heap s.heap [] := va_S.rf
  have hl := lv_entry ([.ref (ad a0)]) (n := 1) (Nat.le_of_ble_eq_true rfl)
  rw [lg_entry_eq]
  generalize (lg_sl ([.ref (ad a0)]) ++ List.replicate (1 - (lg_sl ([.ref (ad a0)])).length) Slot.unset).toArray = ls at hl ⊢
  have hl : lv_has ls 1 [(0, .ref (ad a0))] := hl
  unfold f_X13_step at h
  refine lv_aload_n hx hb dX13_step_0 rfl (lv_at hl 0 rfl) ?_
  refine lv_iconst (v := 0) hx hb dX13_step_1 rfl ?_
  refine r_putI (T := TX13) (ty := .int) (v := 0) hx hb hts in13 tyX13 tyX13_ok nmX13 hown hK hP hD hT hS k0 (by decide) rfl 0 (by decide) (hts (.fieldLink RX13 30 "StoneWalkModel" "thrown" "I") (List.mem_of_getElem? (i := 1) (by decide +kernel))) rfl rfl (tyX13_ok 0 (by decide)) rfl rfl rfl dX13_step_2 (fun H locs hP hD hT hS => ?_)
  refine lv_aload_n hx hb dX13_step_5 rfl (lv_at hl 0 rfl) ?_
  refine r_get (T := TX13) (v := .int (gI (pI M a0 0 0) a0 17)) hx hb hts in13 hown hK hP k0 (by decide) rfl 17 (by decide) (hts (.fieldLink RX13 17 "StoneWalkModel" "moved" "I") (List.mem_of_getElem? (i := 2) (by decide +kernel))) rfl (t := 0) rfl rfl dX13_step_6 ?_
  refine lv_iconst (v := (-1)) hx hb dX13_step_9 rfl ?_
  refine lv_icmp_ne (tgt := 20) hx hb dX13_step_10 rfl (fun c1 => ?_) (fun c1 => ?_)
  · replace h := ite_f c1 h
    refine lv_aload_n hx hb dX13_step_20 rfl (lv_at hl 0 rfl) ?_
    refine r_get (T := TX13) (v := .int (gI (pI M a0 0 0) a0 21)) hx hb hts in13 hown hK hP k0 (by decide) rfl 21 (by decide) (hts (.fieldLink RX13 500 "StoneWalkModel" "told" "I") (List.mem_of_getElem? (i := 3) (by decide +kernel))) rfl (t := 0) rfl rfl dX13_step_21 ?_
    refine lv_iconst (v := 1) hx hb dX13_step_24 rfl ?_
    refine lv_icmp_eq (tgt := 34) hx hb dX13_step_25 rfl (fun c2 => ?_) (fun c2 => ?_)
    · replace h := ite_t c2 h
      refine lv_aload_n hx hb dX13_step_34 rfl (lv_at hl 0 rfl) ?_
      refine lv_aload_n hx hb dX13_step_35 rfl (lv_at hl 0 rfl) ?_
      obtain ⟨z3, h3, h⟩ := ob_some h
      refine k_i (va_runV (As := []) (rest := [.ref (ad a0)]) ⟨hx, hb, hml, hown, hts⟩ (c_X13_steps (l := l) (pI M a0 0 0) a0 k0 h3) (cwV 0 hts gX13_step_X13_steps rfl rfl rfl hdV_X13_steps ⟨Nat.le_of_ble_eq_true rfl, Nat.le_of_ble_eq_true rfl⟩) (pV (T := TX13) hP hK hD hT hG hS k0 (by decide) rfl) rfl rfl hl.1 rfl (lv_room (Nat.le_of_ble_eq_true rfl)) dX13_step_36 ⟨Nat.zero_le _, Nat.zero_le _⟩) hS (fun H locs hP hD hT hS => ?_)
      refine r_putI (T := TX13) (ty := .int) (v := z3.1) hx hb hts in13 tyX13 tyX13_ok nmX13 hown hK hP hD hT hS k0 (by decide) rfl 21 (by decide) (hts (.fieldLink RX13 500 "StoneWalkModel" "told" "I") (List.mem_of_getElem? (i := 3) (by decide +kernel))) rfl rfl (tyX13_ok 21 (by decide)) rfl rfl rfl dX13_step_39 (fun H locs hP hD hT hS => ?_)
      refine lv_aload_n hx hb dX13_step_42 rfl (lv_at hl 0 rfl) ?_
      refine lv_aload_n hx hb dX13_step_43 rfl (lv_at hl 0 rfl) ?_
      refine r_get (T := TX13) (v := .int (gI (pI z3.2 a0 21 z3.1) a0 21)) hx hb hts in13 hown hK hP k0 (by decide) rfl 21 (by decide) (hts (.fieldLink RX13 500 "StoneWalkModel" "told" "I") (List.mem_of_getElem? (i := 3) (by decide +kernel))) rfl (t := 0) rfl rfl dX13_step_44 ?_
      obtain ⟨z4, h4, h⟩ := ob_some h
      refine k_i (va_runV (As := [.int (gI (pI z3.2 a0 21 z3.1) a0 21)]) (rest := []) ⟨hx, hb, hml, hown, hts⟩ (c_X13_done (l := l) (pI z3.2 a0 21 z3.1) a0 (gI (pI z3.2 a0 21 z3.1) a0 21) k0 h4) (cwV 1 hts gX13_step_X13_done rfl rfl rfl hdV_X13_done ⟨Nat.le_of_ble_eq_true rfl, Nat.le_of_ble_eq_true rfl⟩) (pV (T := TX13) hP hK hD hT hG hS k0 (by decide) rfl) rfl rfl hl.1 rfl (lv_room (Nat.le_of_ble_eq_true rfl)) dX13_step_47 ⟨Nat.zero_le _, Nat.zero_le _⟩) hS (fun H locs hP hD hT hS => ?_)
      have hZ := Option.some.inj h
      exact r_iret hx hb hr hlocks hP hK hD hT hG hS (congrArg Prod.fst hZ) (congrArg Prod.snd hZ) dX13_step_50
    · replace h := ite_f c2 h
      refine lv_aload_n hx hb dX13_step_28 rfl (lv_at hl 0 rfl) ?_
      refine lv_iconst (v := 5) hx hb dX13_step_29 rfl ?_
      obtain ⟨z5, h5, h⟩ := ob_some h
      refine k_i (va_runV (As := [.int 5]) (rest := []) ⟨hx, hb, hml, hown, hts⟩ (c_X13_refused (l := l) (pI M a0 0 0) a0 5 k0 h5) (cwV 1 hts gX13_step_X13_refused rfl rfl rfl hdV_X13_refused ⟨Nat.le_of_ble_eq_true rfl, Nat.le_of_ble_eq_true rfl⟩) (pV (T := TX13) hP hK hD hT hG hS k0 (by decide) rfl) rfl rfl hl.1 rfl (lv_room (Nat.le_of_ble_eq_true rfl)) dX13_step_30 ⟨Nat.zero_le _, Nat.zero_le _⟩) hS (fun H locs hP hD hT hS => ?_)
      have hZ := Option.some.inj h
      exact r_iret hx hb hr hlocks hP hK hD hT hG hS (congrArg Prod.fst hZ) (congrArg Prod.snd hZ) dX13_step_33
  · replace h := ite_t c1 h
    refine lv_aload_n hx hb dX13_step_13 rfl (lv_at hl 0 rfl) ?_
    refine lv_bipush (v := 6) hx hb dX13_step_14 rfl ?_
    obtain ⟨z6, h6, h⟩ := ob_some h
    refine k_i (va_runV (As := [.int 6]) (rest := []) ⟨hx, hb, hml, hown, hts⟩ (c_X13_refused (l := l) (pI M a0 0 0) a0 6 k0 h6) (cwV 1 hts gX13_step_X13_refused rfl rfl rfl hdV_X13_refused ⟨Nat.le_of_ble_eq_true rfl, Nat.le_of_ble_eq_true rfl⟩) (pV (T := TX13) hP hK hD hT hG hS k0 (by decide) rfl) rfl rfl hl.1 rfl (lv_room (Nat.le_of_ble_eq_true rfl)) dX13_step_16 ⟨Nat.zero_le _, Nat.zero_le _⟩) hS (fun H locs hP hD hT hS => ?_)
    have hZ := Option.some.inj h
    exact r_iret hx hb hr hlocks hP hK hD hT hG hS (congrArg Prod.fst hZ) (congrArg Prod.snd hZ) dX13_step_19
set_option maxHeartbeats 4000000 in
set_option maxRecDepth 100000 in
theorem c_X13_call {l : Launch} {D : va_G} {ad : Nat → Nat} {cy : Nat → ClassId} {A : Nat → Prop} {g : CG} {q : SE} (M : MM) (a0 : Nat) (x1 : Int32) (k0 : ok g a0 13 0) {Z : (Int32 × MM)} (h : f_X13_call M a0 x1 = some Z) : Met l yX13_call wsX13_call ({ frames := 2, cells := 0, slots := 0, locals := 42 }) (va_Pc [.ref (ad a0), .int x1] (Wd D ad cy A g q M)) (va_Qi (fun r u => r = Z.1 ∧ u = Z.2 ∧ zb r) (Wd D ad cy A g q) A) 0 0 A := by
  refine Met.ofW (cc := cX13_call) (maxL := 2) (ret := (some .boolean)) (by decide) rfl ?_
  intro p e s m args below meth c s₁ B hml hv
  obtain ⟨rfl, hP, hK, hD, hT, hG⟩ := hv
  have hx := B.exec
  have hb := B.bytes
  have hr := B.returns
  have hts := atoms_spec (ws := wsX13_call) B.pre
  have hown : s.vm.findClass RX13 = some m.cls := findClass_of_methodNamed B.named
  have hlocks := B.notSynchronized
  have in13 : ∀ w ∈ u_ws RX13 TX13 29, w ∈ wsX13_call := fun w h => List.mem_cons_of_mem _ (List.mem_append_right _ h)
  have hS : va_S A s.heap s.heap [] := va_S.rf
  have hl := lv_entry ([.ref (ad a0), .int x1]) (n := 2) (Nat.le_of_ble_eq_true rfl)
  rw [lg_entry_eq]
  generalize (lg_sl ([.ref (ad a0), .int x1]) ++ List.replicate (2 - (lg_sl ([.ref (ad a0), .int x1])).length) Slot.unset).toArray = ls at hl ⊢
  have hl : lv_has ls 2 [(0, .ref (ad a0)), (1, .int x1)] := hl
  unfold f_X13_call at h
  refine lv_aload_n hx hb dX13_call_0 rfl (lv_at hl 0 rfl) ?_
  refine lv_iconst (v := 0) hx hb dX13_call_1 rfl ?_
  refine r_putI (T := TX13) (ty := .int) (v := 0) hx hb hts in13 tyX13 tyX13_ok nmX13 hown hK hP hD hT hS k0 (by decide) rfl 0 (by decide) (hts (.fieldLink RX13 30 "StoneWalkModel" "thrown" "I") (List.mem_of_getElem? (i := 1) (by decide +kernel))) rfl rfl (tyX13_ok 0 (by decide)) rfl rfl rfl dX13_call_2 (fun H locs hP hD hT hS => ?_)
  refine lv_aload_n hx hb dX13_call_5 rfl (lv_at hl 0 rfl) ?_
  refine r_get (T := TX13) (v := .int (gI (pI M a0 0 0) a0 17)) hx hb hts in13 hown hK hP k0 (by decide) rfl 17 (by decide) (hts (.fieldLink RX13 17 "StoneWalkModel" "moved" "I") (List.mem_of_getElem? (i := 2) (by decide +kernel))) rfl (t := 0) rfl rfl dX13_call_6 ?_
  refine lv_iconst (v := (-1)) hx hb dX13_call_9 rfl ?_
  refine lv_icmp_ne (tgt := 20) hx hb dX13_call_10 rfl (fun c1 => ?_) (fun c1 => ?_)
  · replace h := ite_f c1 h
    refine lv_iload_n hx hb dX13_call_20 rfl (lv_at hl 1 rfl) ?_
    refine lv_iconst (v := 1) hx hb dX13_call_21 rfl ?_
    refine lv_sipush (v := 200) hx hb dX13_call_22 rfl ?_
    obtain ⟨z2, h2, h⟩ := ob_some h
    refine k_z (va_runS (As := [.int x1, .int 1, .int 200]) (rest := []) ⟨hx, hb, hml, hown, hts⟩ (c_X13_in (l := l) (pI M a0 0 0) x1 1 200 h2) (va_cwS 3 hts gX13_call_X13_in rfl rfl rfl hdS_X13_in ⟨Nat.le_of_ble_eq_true rfl, Nat.le_of_ble_eq_true rfl⟩) (pS hP hK hD hT hG hS) rfl rfl hl.1 rfl (lv_room (Nat.le_of_ble_eq_true rfl)) dX13_call_25 ⟨Nat.zero_le _, Nat.zero_le _⟩) hS (fun H locs hz2 hP hD hT hS => ?_)
    refine lv_if_ne (tgt := 37) hx hb dX13_call_28 rfl (fun c3 => ?_) (fun c3 => ?_)
    · replace h := ite_f c3 h
      refine lv_aload_n hx hb dX13_call_37 rfl (lv_at hl 0 rfl) ?_
      refine r_get (T := TX13) (v := .int (gI (pI M a0 0 0) a0 21)) hx hb hts in13 hown hK hP k0 (by decide) rfl 21 (by decide) (hts (.fieldLink RX13 500 "StoneWalkModel" "told" "I") (List.mem_of_getElem? (i := 3) (by decide +kernel))) rfl (t := 0) rfl rfl dX13_call_38 ?_
      refine lv_iconst (v := 1) hx hb dX13_call_41 rfl ?_
      refine lv_icmp_eq (tgt := 59) hx hb dX13_call_42 rfl (fun c4 => ?_) (fun c4 => ?_)
      · replace h := ite_t c4 h
        refine lv_aload_n hx hb dX13_call_59 rfl (lv_at hl 0 rfl) ?_
        refine lv_iload_n hx hb dX13_call_60 rfl (lv_at hl 1 rfl) ?_
        refine r_putI (T := TX13) (ty := .int) (v := x1) hx hb hts in13 tyX13 tyX13_ok nmX13 hown hK hP hD hT hS k0 (by decide) rfl 20 (by decide) (hts (.fieldLink RX13 496 "StoneWalkModel" "people" "I") (List.mem_of_getElem? (i := 4) (by decide +kernel))) rfl rfl (tyX13_ok 20 (by decide)) rfl rfl rfl dX13_call_61 (fun H locs hP hD hT hS => ?_)
        refine lv_aload_n hx hb dX13_call_64 rfl (lv_at hl 0 rfl) ?_
        refine lv_iconst (v := 1) hx hb dX13_call_65 rfl ?_
        refine r_putI (T := TX13) (ty := .int) (v := 1) hx hb hts in13 tyX13 tyX13_ok nmX13 hown hK hP hD hT hS k0 (by decide) rfl 21 (by decide) (hts (.fieldLink RX13 500 "StoneWalkModel" "told" "I") (List.mem_of_getElem? (i := 3) (by decide +kernel))) rfl rfl (tyX13_ok 21 (by decide)) rfl rfl rfl dX13_call_66 (fun H locs hP hD hT hS => ?_)
        refine lv_aload_n hx hb dX13_call_69 rfl (lv_at hl 0 rfl) ?_
        obtain ⟨z5, h5, h⟩ := ob_some h
        refine k_z (va_runV (As := []) (rest := []) ⟨hx, hb, hml, hown, hts⟩ (c_X13_granted (l := l) (pI (pI (pI M a0 0 0) a0 20 x1) a0 21 1) a0 k0 h5) (cwV 0 hts gX13_call_X13_granted rfl rfl rfl hdV_X13_granted ⟨Nat.le_of_ble_eq_true rfl, Nat.le_of_ble_eq_true rfl⟩) (pV (T := TX13) hP hK hD hT hG hS k0 (by decide) rfl) rfl rfl hl.1 rfl (lv_room (Nat.le_of_ble_eq_true rfl)) dX13_call_70 ⟨Nat.zero_le _, Nat.zero_le _⟩) hS (fun H locs hz5 hP hD hT hS => ?_)
        have hZ := Option.some.inj h
        exact r_zret hx hb hr hlocks hP hK hD hT hG hS hz5 (congrArg Prod.fst hZ) (congrArg Prod.snd hZ) dX13_call_73
      · replace h := ite_f c4 h
        refine lv_aload_n hx hb dX13_call_45 rfl (lv_at hl 0 rfl) ?_
        refine r_get (T := TX13) (v := .int (gI (pI M a0 0 0) a0 21)) hx hb hts in13 hown hK hP k0 (by decide) rfl 21 (by decide) (hts (.fieldLink RX13 500 "StoneWalkModel" "told" "I") (List.mem_of_getElem? (i := 3) (by decide +kernel))) rfl (t := 0) rfl rfl dX13_call_46 ?_
        refine lv_iconst (v := 5) hx hb dX13_call_49 rfl ?_
        refine lv_icmp_eq (tgt := 59) hx hb dX13_call_50 rfl (fun c6 => ?_) (fun c6 => ?_)
        · replace h := ite_t c6 h
          refine lv_aload_n hx hb dX13_call_59 rfl (lv_at hl 0 rfl) ?_
          refine lv_iload_n hx hb dX13_call_60 rfl (lv_at hl 1 rfl) ?_
          refine r_putI (T := TX13) (ty := .int) (v := x1) hx hb hts in13 tyX13 tyX13_ok nmX13 hown hK hP hD hT hS k0 (by decide) rfl 20 (by decide) (hts (.fieldLink RX13 496 "StoneWalkModel" "people" "I") (List.mem_of_getElem? (i := 4) (by decide +kernel))) rfl rfl (tyX13_ok 20 (by decide)) rfl rfl rfl dX13_call_61 (fun H locs hP hD hT hS => ?_)
          refine lv_aload_n hx hb dX13_call_64 rfl (lv_at hl 0 rfl) ?_
          refine lv_iconst (v := 1) hx hb dX13_call_65 rfl ?_
          refine r_putI (T := TX13) (ty := .int) (v := 1) hx hb hts in13 tyX13 tyX13_ok nmX13 hown hK hP hD hT hS k0 (by decide) rfl 21 (by decide) (hts (.fieldLink RX13 500 "StoneWalkModel" "told" "I") (List.mem_of_getElem? (i := 3) (by decide +kernel))) rfl rfl (tyX13_ok 21 (by decide)) rfl rfl rfl dX13_call_66 (fun H locs hP hD hT hS => ?_)
          refine lv_aload_n hx hb dX13_call_69 rfl (lv_at hl 0 rfl) ?_
          obtain ⟨z7, h7, h⟩ := ob_some h
          refine k_z (va_runV (As := []) (rest := []) ⟨hx, hb, hml, hown, hts⟩ (c_X13_granted (l := l) (pI (pI (pI M a0 0 0) a0 20 x1) a0 21 1) a0 k0 h7) (cwV 0 hts gX13_call_X13_granted rfl rfl rfl hdV_X13_granted ⟨Nat.le_of_ble_eq_true rfl, Nat.le_of_ble_eq_true rfl⟩) (pV (T := TX13) hP hK hD hT hG hS k0 (by decide) rfl) rfl rfl hl.1 rfl (lv_room (Nat.le_of_ble_eq_true rfl)) dX13_call_70 ⟨Nat.zero_le _, Nat.zero_le _⟩) hS (fun H locs hz7 hP hD hT hS => ?_)
          have hZ := Option.some.inj h
          exact r_zret hx hb hr hlocks hP hK hD hT hG hS hz7 (congrArg Prod.fst hZ) (congrArg Prod.snd hZ) dX13_call_73
        · replace h := ite_f c6 h
          refine lv_aload_n hx hb dX13_call_53 rfl (lv_at hl 0 rfl) ?_
          refine lv_iconst (v := 5) hx hb dX13_call_54 rfl ?_
          obtain ⟨z8, h8, h⟩ := ob_some h
          refine k_z (va_runV (As := [.int 5]) (rest := []) ⟨hx, hb, hml, hown, hts⟩ (c_X13_denied (l := l) (pI M a0 0 0) a0 5 k0 h8) (cwV 1 hts gX13_call_X13_denied rfl rfl rfl hdV_X13_denied ⟨Nat.le_of_ble_eq_true rfl, Nat.le_of_ble_eq_true rfl⟩) (pV (T := TX13) hP hK hD hT hG hS k0 (by decide) rfl) rfl rfl hl.1 rfl (lv_room (Nat.le_of_ble_eq_true rfl)) dX13_call_55 ⟨Nat.zero_le _, Nat.zero_le _⟩) hS (fun H locs hz8 hP hD hT hS => ?_)
          have hZ := Option.some.inj h
          exact r_zret hx hb hr hlocks hP hK hD hT hG hS hz8 (congrArg Prod.fst hZ) (congrArg Prod.snd hZ) dX13_call_58
    · replace h := ite_t c3 h
      refine lv_aload_n hx hb dX13_call_31 rfl (lv_at hl 0 rfl) ?_
      refine lv_iconst (v := 2) hx hb dX13_call_32 rfl ?_
      obtain ⟨z9, h9, h⟩ := ob_some h
      refine k_z (va_runV (As := [.int 2]) (rest := []) ⟨hx, hb, hml, hown, hts⟩ (c_X13_denied (l := l) (pI M a0 0 0) a0 2 k0 h9) (cwV 1 hts gX13_call_X13_denied rfl rfl rfl hdV_X13_denied ⟨Nat.le_of_ble_eq_true rfl, Nat.le_of_ble_eq_true rfl⟩) (pV (T := TX13) hP hK hD hT hG hS k0 (by decide) rfl) rfl rfl hl.1 rfl (lv_room (Nat.le_of_ble_eq_true rfl)) dX13_call_33 ⟨Nat.zero_le _, Nat.zero_le _⟩) hS (fun H locs hz9 hP hD hT hS => ?_)
      have hZ := Option.some.inj h
      exact r_zret hx hb hr hlocks hP hK hD hT hG hS hz9 (congrArg Prod.fst hZ) (congrArg Prod.snd hZ) dX13_call_36
  · replace h := ite_t c1 h
    refine lv_aload_n hx hb dX13_call_13 rfl (lv_at hl 0 rfl) ?_
    refine lv_bipush (v := 6) hx hb dX13_call_14 rfl ?_
    obtain ⟨z10, h10, h⟩ := ob_some h
    refine k_z (va_runV (As := [.int 6]) (rest := []) ⟨hx, hb, hml, hown, hts⟩ (c_X13_denied (l := l) (pI M a0 0 0) a0 6 k0 h10) (cwV 1 hts gX13_call_X13_denied rfl rfl rfl hdV_X13_denied ⟨Nat.le_of_ble_eq_true rfl, Nat.le_of_ble_eq_true rfl⟩) (pV (T := TX13) hP hK hD hT hG hS k0 (by decide) rfl) rfl rfl hl.1 rfl (lv_room (Nat.le_of_ble_eq_true rfl)) dX13_call_16 ⟨Nat.zero_le _, Nat.zero_le _⟩) hS (fun H locs hz10 hP hD hT hS => ?_)
    have hZ := Option.some.inj h
    exact r_zret hx hb hr hlocks hP hK hD hT hG hS hz10 (congrArg Prod.fst hZ) (congrArg Prod.snd hZ) dX13_call_19
set_option maxHeartbeats 4000000 in
set_option maxRecDepth 100000 in
theorem c_X13_woodOf {l : Launch} {D : va_G} {ad : Nat → Nat} {cy : Nat → ClassId} {A : Nat → Prop} {g : CG} {q : SE} (M : MM) (a0 : Nat) (x1 : Int32) (x2 : Int32) (k0 : ok g a0 13 0) {Z : Int32} (h : f_X13_woodOf M a0 x1 x2 = some Z) : Met l yX13_woodOf wsX13_woodOf ({ frames := 0, cells := 0, slots := 0, locals := 0 }) (va_Pc [.ref (ad a0), .int x1, .int x2] (Wd D ad cy A g q M)) (va_Qi (fun r u => r = Z ∧ u = M) (Wd D ad cy A g q) A) 0 0 A := by
  refine Met.ofW (cc := cX13_woodOf) (maxL := 4) (ret := (some .int)) (by decide) rfl ?_
  intro p e s m args below meth c s₁ B hml hv
  obtain ⟨rfl, hP, hK, hD, hT, hG⟩ := hv
  have hx := B.exec
  have hb := B.bytes
  have hr := B.returns
  have hts := atoms_spec (ws := wsX13_woodOf) B.pre
  have hown : s.vm.findClass RX13 = some m.cls := findClass_of_methodNamed B.named
  have hlocks := B.notSynchronized
  have in12 : ∀ w ∈ u_ws RX12 TX12 48, w ∈ wsX13_woodOf := fun w h => List.mem_cons_of_mem _ (List.mem_append_right _ h)
  have in13 : ∀ w ∈ u_ws RX13 TX13 29, w ∈ wsX13_woodOf := fun w h => List.mem_cons_of_mem _ (List.mem_append_left _ (List.mem_append_right _ h))
  have hS : va_S A s.heap s.heap [] := va_S.rf
  have hl := lv_entry ([.ref (ad a0), .int x1, .int x2]) (n := 4) (Nat.le_of_ble_eq_true rfl)
  rw [lg_entry_eq]
  generalize (lg_sl ([.ref (ad a0), .int x1, .int x2]) ++ List.replicate (4 - (lg_sl ([.ref (ad a0), .int x1, .int x2])).length) Slot.unset).toArray = ls at hl ⊢
  have hl : lv_has ls 4 [(0, .ref (ad a0)), (1, .int x1), (2, .int x2)] := hl
  unfold f_X13_woodOf at h
  refine lv_aload_n hx hb dX13_woodOf_0 rfl (lv_at hl 0 rfl) ?_
  rcases hN1 : gR M a0 3 with _ | b1
  · replace h := oc_n hN1 h
    refine r_get (T := TX13) (v := .null) hx hb hts in13 hown hK hP k0 (by decide) rfl 3 (by decide) (hts (.fieldLink RX13 431 "StoneWalkModel" "island" "LStoneWalkModel$Island;") (List.mem_of_getElem? (i := 1) (by decide +kernel))) rfl (t := 2) rfl (by show va_rf _ = _; rw [hN1]; rfl) dX13_woodOf_1 ?_
    exact absurd h (by simp)
  · replace h := oc_s hN1 h
    have kb1 := hT.f k0 (k := 3) (t := 12) (n := 0) rfl hN1
    refine r_get (T := TX13) (v := .ref (ad b1)) hx hb hts in13 hown hK hP k0 (by decide) rfl 3 (by decide) (hts (.fieldLink RX13 431 "StoneWalkModel" "island" "LStoneWalkModel$Island;") (List.mem_of_getElem? (i := 1) (by decide +kernel))) rfl (t := 2) rfl (by show va_rf _ = _; rw [hN1]; rfl) dX13_woodOf_1 ?_
    rcases hN2 : gR M b1 9 with _ | b2
    · exact absurd (oc_n hN2 h) (by simp)
    replace h := oc_s hN2 h
    have kb2 := hT.f kb1 (k := 9) (t := 15) (n := 4) rfl hN2
    refine r_getN (T := TX12) (v := .ref (ad b2)) hx hb hts in12 hown hK hP kb1 (by decide) rfl 9 (by decide) (hG.2.2.1 _ (List.mem_of_getElem? (i := 8) rfl)) rfl (t := 2) rfl (by show va_rf _ = _; rw [hN2]; rfl) dX13_woodOf_4 ?_
    refine lv_iload_n hx hb dX13_woodOf_7 rfl (lv_at hl 1 rfl) ?_
    obtain ⟨hn3, h⟩ := chk_some h
    refine r_iald hx hb hK hP kb2 hn3 dX13_woodOf_8 ?_
    refine lv_istore_n (lv' := [(3, .int (gI M b2 (ix x1))), (0, .ref (ad a0)), (1, .int x1), (2, .int x2)]) hx hb dX13_woodOf_9 rfl hl (by decide) rfl (fun ls hl => ?_)
    refine lv_iload_n hx hb dX13_woodOf_10 rfl (lv_at hl 3 rfl) ?_
    refine lv_iload_n hx hb dX13_woodOf_11 rfl (lv_at hl 0 rfl) ?_
    refine lv_iconst (v := 1) hx hb dX13_woodOf_12 rfl ?_
    refine lv_icmp_ne (tgt := 20) hx hb dX13_woodOf_13 rfl (fun c4 => ?_) (fun c4 => ?_)
    · replace h := ite_f c4 h
      refine lv_iload_n hx hb dX13_woodOf_20 rfl (lv_at hl 0 rfl) ?_
      refine lv_iconst (v := 2) hx hb dX13_woodOf_21 rfl ?_
      refine lv_icmp_ne (tgt := 29) hx hb dX13_woodOf_22 rfl (fun c5 => ?_) (fun c5 => ?_)
      · replace h := ite_f c5 h
        refine lv_iload_n hx hb dX13_woodOf_29 rfl (lv_at hl 0 rfl) ?_
        refine lv_iconst (v := 3) hx hb dX13_woodOf_30 rfl ?_
        refine lv_icmp_ne (tgt := 38) hx hb dX13_woodOf_31 rfl (fun c6 => ?_) (fun c6 => ?_)
        · replace h := ite_f c6 h
          refine lv_iconst (v := 0) hx hb dX13_woodOf_38 rfl ?_
          refine lv_imul hx hb dX13_woodOf_39 ?_
          exact r_iret hx hb hr hlocks hP hK hD hT hG hS (Option.some.inj h) rfl dX13_woodOf_40
        · replace h := ite_t c6 h
          refine lv_iconst (v := 1) hx hb dX13_woodOf_34 rfl ?_
          refine lv_goto (tgt := 39) hx hb dX13_woodOf_35 rfl ?_
          refine lv_imul hx hb dX13_woodOf_39 ?_
          exact r_iret hx hb hr hlocks hP hK hD hT hG hS (Option.some.inj h) rfl dX13_woodOf_40
      · replace h := ite_t c5 h
        refine lv_iconst (v := 4) hx hb dX13_woodOf_25 rfl ?_
        refine lv_goto (tgt := 39) hx hb dX13_woodOf_26 rfl ?_
        refine lv_imul hx hb dX13_woodOf_39 ?_
        exact r_iret hx hb hr hlocks hP hK hD hT hG hS (Option.some.inj h) rfl dX13_woodOf_40
    · replace h := ite_t c4 h
      refine lv_iconst (v := 2) hx hb dX13_woodOf_16 rfl ?_
      refine lv_goto (tgt := 39) hx hb dX13_woodOf_17 rfl ?_
      refine lv_imul hx hb dX13_woodOf_39 ?_
      exact r_iret hx hb hr hlocks hP hK hD hT hG hS (Option.some.inj h) rfl dX13_woodOf_40
set_option maxHeartbeats 4000000 in
set_option maxRecDepth 100000 in
theorem c_X13_at {l : Launch} {D : va_G} {ad : Nat → Nat} {cy : Nat → ClassId} {A : Nat → Prop} {g : CG} {q : SE} (M : MM) (a0 : Nat) (x1 : Int32) (k0 : ok g a0 13 0) {Z : (Int32 × MM)} (h : f_X13_at M a0 x1 = some Z) : Met l yX13_at wsX13_at ({ frames := 1, cells := 0, slots := 0, locals := 23 }) (va_Pc [.ref (ad a0), .int x1] (Wd D ad cy A g q M)) (va_Qi (fun r u => r = Z.1 ∧ u = Z.2) (Wd D ad cy A g q) A) 0 0 A := by
  refine Met.ofW (cc := cX13_at) (maxL := 2) (ret := (some .int)) (by decide) rfl ?_
  intro p e s m args below meth c s₁ B hml hv
  obtain ⟨rfl, hP, hK, hD, hT, hG⟩ := hv
  have hx := B.exec
  have hb := B.bytes
  have hr := B.returns
  have hts := atoms_spec (ws := wsX13_at) B.pre
  have hown : s.vm.findClass RX13 = some m.cls := findClass_of_methodNamed B.named
  have hlocks := B.notSynchronized
  have in12 : ∀ w ∈ u_ws RX12 TX12 48, w ∈ wsX13_at := fun w h => List.mem_cons_of_mem _ (List.mem_append_right _ h)
  have in13 : ∀ w ∈ u_ws RX13 TX13 29, w ∈ wsX13_at := fun w h => List.mem_cons_of_mem _ (List.mem_append_left _ (List.mem_append_right _ h))
  have hS : va_S A s.heap s.heap [] := va_S.rf
  have hl := lv_entry ([.ref (ad a0), .int x1]) (n := 2) (Nat.le_of_ble_eq_true rfl)
  rw [lg_entry_eq]
  generalize (lg_sl ([.ref (ad a0), .int x1]) ++ List.replicate (2 - (lg_sl ([.ref (ad a0), .int x1])).length) Slot.unset).toArray = ls at hl ⊢
  have hl : lv_has ls 2 [(0, .ref (ad a0)), (1, .int x1)] := hl
  unfold f_X13_at at h
  refine lv_aload_n hx hb dX13_at_0 rfl (lv_at hl 0 rfl) ?_
  refine lv_iconst (v := 0) hx hb dX13_at_1 rfl ?_
  refine r_putI (T := TX13) (ty := .int) (v := 0) hx hb hts in13 tyX13 tyX13_ok nmX13 hown hK hP hD hT hS k0 (by decide) rfl 0 (by decide) (hts (.fieldLink RX13 30 "StoneWalkModel" "thrown" "I") (List.mem_of_getElem? (i := 1) (by decide +kernel))) rfl rfl (tyX13_ok 0 (by decide)) rfl rfl rfl dX13_at_2 (fun H locs hP hD hT hS => ?_)
  refine lv_iload_n hx hb dX13_at_5 rfl (lv_at hl 1 rfl) ?_
  refine lv_iconst (v := 0) hx hb dX13_at_6 rfl ?_
  refine lv_bipush (v := 8) hx hb dX13_at_7 rfl ?_
  obtain ⟨z1, h1, h⟩ := ob_some h
  refine k_z (va_runS (As := [.int x1, .int 0, .int 8]) (rest := []) ⟨hx, hb, hml, hown, hts⟩ (c_X13_in (l := l) (pI M a0 0 0) x1 0 8 h1) (va_cwS 3 hts gX13_at_X13_in rfl rfl rfl hdS_X13_in ⟨Nat.le_of_ble_eq_true rfl, Nat.le_of_ble_eq_true rfl⟩) (pS hP hK hD hT hG hS) rfl rfl hl.1 rfl (lv_room (Nat.le_of_ble_eq_true rfl)) dX13_at_9 ⟨Nat.zero_le _, Nat.zero_le _⟩) hS (fun H locs hz1 hP hD hT hS => ?_)
  refine lv_if_ne (tgt := 21) hx hb dX13_at_12 rfl (fun c2 => ?_) (fun c2 => ?_)
  · replace h := ite_f c2 h
    refine lv_aload_n hx hb dX13_at_21 rfl (lv_at hl 0 rfl) ?_
    refine r_get (T := TX13) (v := .int (gI (pI M a0 0 0) a0 17)) hx hb hts in13 hown hK hP k0 (by decide) rfl 17 (by decide) (hts (.fieldLink RX13 17 "StoneWalkModel" "moved" "I") (List.mem_of_getElem? (i := 2) (by decide +kernel))) rfl (t := 0) rfl rfl dX13_at_22 ?_
    refine lv_iconst (v := (-1)) hx hb dX13_at_25 rfl ?_
    refine lv_icmp_ne (tgt := 36) hx hb dX13_at_26 rfl (fun c3 => ?_) (fun c3 => ?_)
    · replace h := ite_f c3 h
      refine lv_iload_n hx hb dX13_at_36 rfl (lv_at hl 1 rfl) ?_
      by_cases c4_0 : x1 = 0
      · replace h := ite_t c4_0 h
        refine lv_tableIn (tgt := 84) (off := 47) hx hb dX13_at_37 (by rw [c4_0]; decide) (by rw [c4_0]; decide) (by rw [c4_0]; decide) rfl ?_
        refine lv_aload_n hx hb dX13_at_84 rfl (lv_at hl 0 rfl) ?_
        refine lv_aload_n hx hb dX13_at_85 rfl (lv_at hl 0 rfl) ?_
        refine r_get (T := TX13) (v := .int (gI (pI M a0 0 0) a0 21)) hx hb hts in13 hown hK hP k0 (by decide) rfl 21 (by decide) (hts (.fieldLink RX13 500 "StoneWalkModel" "told" "I") (List.mem_of_getElem? (i := 3) (by decide +kernel))) rfl (t := 0) rfl rfl dX13_at_86 ?_
        obtain ⟨z5, h5, h⟩ := ob_some h
        refine k_i (va_runV (As := [.int (gI (pI M a0 0 0) a0 21)]) (rest := []) ⟨hx, hb, hml, hown, hts⟩ (c_X13_done (l := l) (pI M a0 0 0) a0 (gI (pI M a0 0 0) a0 21) k0 h5) (cwV 1 hts gX13_at_X13_done rfl rfl rfl hdV_X13_done ⟨Nat.le_of_ble_eq_true rfl, Nat.le_of_ble_eq_true rfl⟩) (pV (T := TX13) hP hK hD hT hG hS k0 (by decide) rfl) rfl rfl hl.1 rfl (lv_room (Nat.le_of_ble_eq_true rfl)) dX13_at_89 ⟨Nat.zero_le _, Nat.zero_le _⟩) hS (fun H locs hP hD hT hS => ?_)
        have hZ := Option.some.inj h
        exact r_iret hx hb hr hlocks hP hK hD hT hG hS (congrArg Prod.fst hZ) (congrArg Prod.snd hZ) dX13_at_92
      · replace h := ite_f c4_0 h
        by_cases c4_1 : x1 = 1
        · replace h := ite_t c4_1 h
          refine lv_tableIn (tgt := 93) (off := 56) hx hb dX13_at_37 (by rw [c4_1]; decide) (by rw [c4_1]; decide) (by rw [c4_1]; decide) rfl ?_
          refine lv_aload_n hx hb dX13_at_93 rfl (lv_at hl 0 rfl) ?_
          refine lv_aload_n hx hb dX13_at_94 rfl (lv_at hl 0 rfl) ?_
          refine r_get (T := TX13) (v := .int (gI (pI M a0 0 0) a0 22)) hx hb hts in13 hown hK hP k0 (by decide) rfl 22 (by decide) (hts (.fieldLink RX13 503 "StoneWalkModel" "slopesGone" "I") (List.mem_of_getElem? (i := 4) (by decide +kernel))) rfl (t := 0) rfl rfl dX13_at_95 ?_
          obtain ⟨z6, h6, h⟩ := ob_some h
          refine k_i (va_runV (As := [.int (gI (pI M a0 0 0) a0 22)]) (rest := []) ⟨hx, hb, hml, hown, hts⟩ (c_X13_done (l := l) (pI M a0 0 0) a0 (gI (pI M a0 0 0) a0 22) k0 h6) (cwV 1 hts gX13_at_X13_done rfl rfl rfl hdV_X13_done ⟨Nat.le_of_ble_eq_true rfl, Nat.le_of_ble_eq_true rfl⟩) (pV (T := TX13) hP hK hD hT hG hS k0 (by decide) rfl) rfl rfl hl.1 rfl (lv_room (Nat.le_of_ble_eq_true rfl)) dX13_at_98 ⟨Nat.zero_le _, Nat.zero_le _⟩) hS (fun H locs hP hD hT hS => ?_)
          have hZ := Option.some.inj h
          exact r_iret hx hb hr hlocks hP hK hD hT hG hS (congrArg Prod.fst hZ) (congrArg Prod.snd hZ) dX13_at_101
        · replace h := ite_f c4_1 h
          by_cases c4_2 : x1 = 2
          · replace h := ite_t c4_2 h
            refine lv_tableIn (tgt := 102) (off := 65) hx hb dX13_at_37 (by rw [c4_2]; decide) (by rw [c4_2]; decide) (by rw [c4_2]; decide) rfl ?_
            refine lv_aload_n hx hb dX13_at_102 rfl (lv_at hl 0 rfl) ?_
            refine lv_aload_n hx hb dX13_at_103 rfl (lv_at hl 0 rfl) ?_
            refine r_get (T := TX13) (v := .int (gI (pI M a0 0 0) a0 23)) hx hb hts in13 hown hK hP k0 (by decide) rfl 23 (by decide) (hts (.fieldLink RX13 506 "StoneWalkModel" "minutesGone" "I") (List.mem_of_getElem? (i := 5) (by decide +kernel))) rfl (t := 0) rfl rfl dX13_at_104 ?_
            obtain ⟨z7, h7, h⟩ := ob_some h
            refine k_i (va_runV (As := [.int (gI (pI M a0 0 0) a0 23)]) (rest := []) ⟨hx, hb, hml, hown, hts⟩ (c_X13_done (l := l) (pI M a0 0 0) a0 (gI (pI M a0 0 0) a0 23) k0 h7) (cwV 1 hts gX13_at_X13_done rfl rfl rfl hdV_X13_done ⟨Nat.le_of_ble_eq_true rfl, Nat.le_of_ble_eq_true rfl⟩) (pV (T := TX13) hP hK hD hT hG hS k0 (by decide) rfl) rfl rfl hl.1 rfl (lv_room (Nat.le_of_ble_eq_true rfl)) dX13_at_107 ⟨Nat.zero_le _, Nat.zero_le _⟩) hS (fun H locs hP hD hT hS => ?_)
            have hZ := Option.some.inj h
            exact r_iret hx hb hr hlocks hP hK hD hT hG hS (congrArg Prod.fst hZ) (congrArg Prod.snd hZ) dX13_at_110
          · replace h := ite_f c4_2 h
            by_cases c4_3 : x1 = 3
            · replace h := ite_t c4_3 h
              refine lv_tableIn (tgt := 111) (off := 74) hx hb dX13_at_37 (by rw [c4_3]; decide) (by rw [c4_3]; decide) (by rw [c4_3]; decide) rfl ?_
              refine lv_aload_n hx hb dX13_at_111 rfl (lv_at hl 0 rfl) ?_
              refine lv_aload_n hx hb dX13_at_112 rfl (lv_at hl 0 rfl) ?_
              refine lv_aload_n hx hb dX13_at_113 rfl (lv_at hl 0 rfl) ?_
              refine r_get (T := TX13) (v := .int (gI (pI M a0 0 0) a0 18)) hx hb hts in13 hown hK hP k0 (by decide) rfl 18 (by decide) (hts (.fieldLink RX13 490 "StoneWalkModel" "movedBy" "I") (List.mem_of_getElem? (i := 6) (by decide +kernel))) rfl (t := 0) rfl rfl dX13_at_114 ?_
              refine lv_aload_n hx hb dX13_at_117 rfl (lv_at hl 0 rfl) ?_
              rcases hN8 : gR (pI M a0 0 0) a0 3 with _ | b8
              · replace h := oc_n hN8 h
                refine r_get (T := TX13) (v := .null) hx hb hts in13 hown hK hP k0 (by decide) rfl 3 (by decide) (hts (.fieldLink RX13 431 "StoneWalkModel" "island" "LStoneWalkModel$Island;") (List.mem_of_getElem? (i := 7) (by decide +kernel))) rfl (t := 2) rfl (by show va_rf _ = _; rw [hN8]; rfl) dX13_at_118 ?_
                exact absurd h (by simp)
              · replace h := oc_s hN8 h
                have kb8 := hT.f k0 (k := 3) (t := 12) (n := 0) rfl hN8
                refine r_get (T := TX13) (v := .ref (ad b8)) hx hb hts in13 hown hK hP k0 (by decide) rfl 3 (by decide) (hts (.fieldLink RX13 431 "StoneWalkModel" "island" "LStoneWalkModel$Island;") (List.mem_of_getElem? (i := 7) (by decide +kernel))) rfl (t := 2) rfl (by show va_rf _ = _; rw [hN8]; rfl) dX13_at_118 ?_
                rcases hN9 : gR (pI M a0 0 0) b8 15 with _ | b9
                · exact absurd (oc_n hN9 h) (by simp)
                replace h := oc_s hN9 h
                have kb9 := hT.f kb8 (k := 15) (t := 15) (n := 10) rfl hN9
                refine r_getN (T := TX12) (v := .ref (ad b9)) hx hb hts in12 hown hK hP kb8 (by decide) rfl 15 (by decide) (hG.2.2.1 _ (List.mem_of_getElem? (i := 15) rfl)) rfl (t := 2) rfl (by show va_rf _ = _; rw [hN9]; rfl) dX13_at_121 ?_
                refine lv_aload_n hx hb dX13_at_124 rfl (lv_at hl 0 rfl) ?_
                refine r_get (T := TX13) (v := .int (gI (pI M a0 0 0) a0 17)) hx hb hts in13 hown hK hP k0 (by decide) rfl 17 (by decide) (hts (.fieldLink RX13 17 "StoneWalkModel" "moved" "I") (List.mem_of_getElem? (i := 2) (by decide +kernel))) rfl (t := 0) rfl rfl dX13_at_125 ?_
                obtain ⟨hn10, h⟩ := chk_some h
                refine r_iald hx hb hK hP kb9 hn10 dX13_at_128 ?_
                obtain ⟨z11, h11, h⟩ := ob_some h
                refine k_i (va_runV (As := [.int (gI (pI M a0 0 0) a0 18), .int (gI (pI M a0 0 0) b9 (ix (gI (pI M a0 0 0) a0 17)))]) (rest := [.ref (ad a0)]) ⟨hx, hb, hml, hown, hts⟩ (c_X13_woodOf (l := l) (pI M a0 0 0) a0 (gI (pI M a0 0 0) a0 18) (gI (pI M a0 0 0) b9 (ix (gI (pI M a0 0 0) a0 17))) k0 h11) (cwV 2 hts gX13_at_X13_woodOf rfl rfl rfl hdV_X13_woodOf ⟨Nat.le_of_ble_eq_true rfl, Nat.le_of_ble_eq_true rfl⟩) (pV (T := TX13) hP hK hD hT hG hS k0 (by decide) rfl) rfl rfl hl.1 rfl (lv_room (Nat.le_of_ble_eq_true rfl)) dX13_at_129 ⟨Nat.zero_le _, Nat.zero_le _⟩) hS (fun H locs hP hD hT hS => ?_)
                refine lv_aload_n hx hb dX13_at_132 rfl (lv_at hl 0 rfl) ?_
                refine r_get (T := TX13) (v := .int (gI (pI M a0 0 0) a0 22)) hx hb hts in13 hown hK hP k0 (by decide) rfl 22 (by decide) (hts (.fieldLink RX13 503 "StoneWalkModel" "slopesGone" "I") (List.mem_of_getElem? (i := 4) (by decide +kernel))) rfl (t := 0) rfl rfl dX13_at_133 ?_
                refine lv_aload_n hx hb dX13_at_136 rfl (lv_at hl 0 rfl) ?_
                refine r_get (T := TX13) (v := .int (gI (pI M a0 0 0) a0 21)) hx hb hts in13 hown hK hP k0 (by decide) rfl 21 (by decide) (hts (.fieldLink RX13 500 "StoneWalkModel" "told" "I") (List.mem_of_getElem? (i := 3) (by decide +kernel))) rfl (t := 0) rfl rfl dX13_at_137 ?_
                refine lv_iconst (v := 3) hx hb dX13_at_140 rfl ?_
                refine lv_icmp_ne (tgt := 148) hx hb dX13_at_141 rfl (fun c12 => ?_) (fun c12 => ?_)
                · replace h := ite_f c12 h
                  refine lv_iconst (v := 0) hx hb dX13_at_148 rfl ?_
                  refine lv_iadd hx hb dX13_at_149 ?_
                  refine lv_imul hx hb dX13_at_150 ?_
                  obtain ⟨z13, h13, h⟩ := ob_some h
                  refine k_i (va_runV (As := [.int (z11 * ((gI (pI M a0 0 0) a0 22) + 0))]) (rest := []) ⟨hx, hb, hml, hown, hts⟩ (c_X13_done (l := l) (pI M a0 0 0) a0 (z11 * ((gI (pI M a0 0 0) a0 22) + 0)) k0 h13) (cwV 1 hts gX13_at_X13_done rfl rfl rfl hdV_X13_done ⟨Nat.le_of_ble_eq_true rfl, Nat.le_of_ble_eq_true rfl⟩) (pV (T := TX13) hP hK hD hT hG hS k0 (by decide) rfl) rfl rfl hl.1 rfl (lv_room (Nat.le_of_ble_eq_true rfl)) dX13_at_151 ⟨Nat.zero_le _, Nat.zero_le _⟩) hS (fun H locs hP hD hT hS => ?_)
                  have hZ := Option.some.inj h
                  exact r_iret hx hb hr hlocks hP hK hD hT hG hS (congrArg Prod.fst hZ) (congrArg Prod.snd hZ) dX13_at_154
                · replace h := ite_t c12 h
                  refine lv_iconst (v := 1) hx hb dX13_at_144 rfl ?_
                  refine lv_goto (tgt := 149) hx hb dX13_at_145 rfl ?_
                  refine lv_iadd hx hb dX13_at_149 ?_
                  refine lv_imul hx hb dX13_at_150 ?_
                  obtain ⟨z14, h14, h⟩ := ob_some h
                  refine k_i (va_runV (As := [.int (z11 * ((gI (pI M a0 0 0) a0 22) + 1))]) (rest := []) ⟨hx, hb, hml, hown, hts⟩ (c_X13_done (l := l) (pI M a0 0 0) a0 (z11 * ((gI (pI M a0 0 0) a0 22) + 1)) k0 h14) (cwV 1 hts gX13_at_X13_done rfl rfl rfl hdV_X13_done ⟨Nat.le_of_ble_eq_true rfl, Nat.le_of_ble_eq_true rfl⟩) (pV (T := TX13) hP hK hD hT hG hS k0 (by decide) rfl) rfl rfl hl.1 rfl (lv_room (Nat.le_of_ble_eq_true rfl)) dX13_at_151 ⟨Nat.zero_le _, Nat.zero_le _⟩) hS (fun H locs hP hD hT hS => ?_)
                  have hZ := Option.some.inj h
                  exact r_iret hx hb hr hlocks hP hK hD hT hG hS (congrArg Prod.fst hZ) (congrArg Prod.snd hZ) dX13_at_154
            · replace h := ite_f c4_3 h
              by_cases c4_4 : x1 = 4
              · replace h := ite_t c4_4 h
                refine lv_tableIn (tgt := 155) (off := 118) hx hb dX13_at_37 (by rw [c4_4]; decide) (by rw [c4_4]; decide) (by rw [c4_4]; decide) rfl ?_
                refine lv_aload_n hx hb dX13_at_155 rfl (lv_at hl 0 rfl) ?_
                refine lv_aload_n hx hb dX13_at_156 rfl (lv_at hl 0 rfl) ?_
                refine r_get (T := TX13) (v := .int (gI (pI M a0 0 0) a0 24)) hx hb hts in13 hown hK hP k0 (by decide) rfl 24 (by decide) (hts (.fieldLink RX13 509 "StoneWalkModel" "liesNow" "I") (List.mem_of_getElem? (i := 8) (by decide +kernel))) rfl (t := 0) rfl rfl dX13_at_157 ?_
                obtain ⟨z15, h15, h⟩ := ob_some h
                refine k_i (va_runV (As := [.int (gI (pI M a0 0 0) a0 24)]) (rest := []) ⟨hx, hb, hml, hown, hts⟩ (c_X13_done (l := l) (pI M a0 0 0) a0 (gI (pI M a0 0 0) a0 24) k0 h15) (cwV 1 hts gX13_at_X13_done rfl rfl rfl hdV_X13_done ⟨Nat.le_of_ble_eq_true rfl, Nat.le_of_ble_eq_true rfl⟩) (pV (T := TX13) hP hK hD hT hG hS k0 (by decide) rfl) rfl rfl hl.1 rfl (lv_room (Nat.le_of_ble_eq_true rfl)) dX13_at_160 ⟨Nat.zero_le _, Nat.zero_le _⟩) hS (fun H locs hP hD hT hS => ?_)
                have hZ := Option.some.inj h
                exact r_iret hx hb hr hlocks hP hK hD hT hG hS (congrArg Prod.fst hZ) (congrArg Prod.snd hZ) dX13_at_163
              · replace h := ite_f c4_4 h
                by_cases c4_5 : x1 = 5
                · replace h := ite_t c4_5 h
                  refine lv_tableIn (tgt := 164) (off := 127) hx hb dX13_at_37 (by rw [c4_5]; decide) (by rw [c4_5]; decide) (by rw [c4_5]; decide) rfl ?_
                  refine lv_aload_n hx hb dX13_at_164 rfl (lv_at hl 0 rfl) ?_
                  refine lv_aload_n hx hb dX13_at_165 rfl (lv_at hl 0 rfl) ?_
                  refine r_get (T := TX13) (v := .int (gI (pI M a0 0 0) a0 17)) hx hb hts in13 hown hK hP k0 (by decide) rfl 17 (by decide) (hts (.fieldLink RX13 17 "StoneWalkModel" "moved" "I") (List.mem_of_getElem? (i := 2) (by decide +kernel))) rfl (t := 0) rfl rfl dX13_at_166 ?_
                  obtain ⟨z16, h16, h⟩ := ob_some h
                  refine k_i (va_runV (As := [.int (gI (pI M a0 0 0) a0 17)]) (rest := []) ⟨hx, hb, hml, hown, hts⟩ (c_X13_done (l := l) (pI M a0 0 0) a0 (gI (pI M a0 0 0) a0 17) k0 h16) (cwV 1 hts gX13_at_X13_done rfl rfl rfl hdV_X13_done ⟨Nat.le_of_ble_eq_true rfl, Nat.le_of_ble_eq_true rfl⟩) (pV (T := TX13) hP hK hD hT hG hS k0 (by decide) rfl) rfl rfl hl.1 rfl (lv_room (Nat.le_of_ble_eq_true rfl)) dX13_at_169 ⟨Nat.zero_le _, Nat.zero_le _⟩) hS (fun H locs hP hD hT hS => ?_)
                  have hZ := Option.some.inj h
                  exact r_iret hx hb hr hlocks hP hK hD hT hG hS (congrArg Prod.fst hZ) (congrArg Prod.snd hZ) dX13_at_172
                · replace h := ite_f c4_5 h
                  by_cases c4_6 : x1 = 6
                  · replace h := ite_t c4_6 h
                    refine lv_tableIn (tgt := 173) (off := 136) hx hb dX13_at_37 (by rw [c4_6]; decide) (by rw [c4_6]; decide) (by rw [c4_6]; decide) rfl ?_
                    refine lv_aload_n hx hb dX13_at_173 rfl (lv_at hl 0 rfl) ?_
                    refine lv_aload_n hx hb dX13_at_174 rfl (lv_at hl 0 rfl) ?_
                    refine r_get (T := TX13) (v := .int (gI (pI M a0 0 0) a0 18)) hx hb hts in13 hown hK hP k0 (by decide) rfl 18 (by decide) (hts (.fieldLink RX13 490 "StoneWalkModel" "movedBy" "I") (List.mem_of_getElem? (i := 6) (by decide +kernel))) rfl (t := 0) rfl rfl dX13_at_175 ?_
                    obtain ⟨z17, h17, h⟩ := ob_some h
                    refine k_i (va_runV (As := [.int (gI (pI M a0 0 0) a0 18)]) (rest := []) ⟨hx, hb, hml, hown, hts⟩ (c_X13_done (l := l) (pI M a0 0 0) a0 (gI (pI M a0 0 0) a0 18) k0 h17) (cwV 1 hts gX13_at_X13_done rfl rfl rfl hdV_X13_done ⟨Nat.le_of_ble_eq_true rfl, Nat.le_of_ble_eq_true rfl⟩) (pV (T := TX13) hP hK hD hT hG hS k0 (by decide) rfl) rfl rfl hl.1 rfl (lv_room (Nat.le_of_ble_eq_true rfl)) dX13_at_178 ⟨Nat.zero_le _, Nat.zero_le _⟩) hS (fun H locs hP hD hT hS => ?_)
                    have hZ := Option.some.inj h
                    exact r_iret hx hb hr hlocks hP hK hD hT hG hS (congrArg Prod.fst hZ) (congrArg Prod.snd hZ) dX13_at_181
                  · replace h := ite_f c4_6 h
                    by_cases c4_7 : x1 = 7
                    · replace h := ite_t c4_7 h
                      refine lv_tableIn (tgt := 182) (off := 145) hx hb dX13_at_37 (by rw [c4_7]; decide) (by rw [c4_7]; decide) (by rw [c4_7]; decide) rfl ?_
                      refine lv_aload_n hx hb dX13_at_182 rfl (lv_at hl 0 rfl) ?_
                      refine lv_aload_n hx hb dX13_at_183 rfl (lv_at hl 0 rfl) ?_
                      refine r_get (T := TX13) (v := .int (gI (pI M a0 0 0) a0 19)) hx hb hts in13 hown hK hP k0 (by decide) rfl 19 (by decide) (hts (.fieldLink RX13 493 "StoneWalkModel" "movedOn" "I") (List.mem_of_getElem? (i := 9) (by decide +kernel))) rfl (t := 0) rfl rfl dX13_at_184 ?_
                      obtain ⟨z18, h18, h⟩ := ob_some h
                      refine k_i (va_runV (As := [.int (gI (pI M a0 0 0) a0 19)]) (rest := []) ⟨hx, hb, hml, hown, hts⟩ (c_X13_done (l := l) (pI M a0 0 0) a0 (gI (pI M a0 0 0) a0 19) k0 h18) (cwV 1 hts gX13_at_X13_done rfl rfl rfl hdV_X13_done ⟨Nat.le_of_ble_eq_true rfl, Nat.le_of_ble_eq_true rfl⟩) (pV (T := TX13) hP hK hD hT hG hS k0 (by decide) rfl) rfl rfl hl.1 rfl (lv_room (Nat.le_of_ble_eq_true rfl)) dX13_at_187 ⟨Nat.zero_le _, Nat.zero_le _⟩) hS (fun H locs hP hD hT hS => ?_)
                      have hZ := Option.some.inj h
                      exact r_iret hx hb hr hlocks hP hK hD hT hG hS (congrArg Prod.fst hZ) (congrArg Prod.snd hZ) dX13_at_190
                    · replace h := ite_f c4_7 h
                      refine lv_tableOut (tgt := 191) hx hb dX13_at_37 (by
                          have e0 := lv_neT (a := 0) c4_0 rfl
                          have e1 := lv_neT (a := 1) c4_1 rfl
                          have e2 := lv_neT (a := 2) c4_2 rfl
                          have e3 := lv_neT (a := 3) c4_3 rfl
                          have e4 := lv_neT (a := 4) c4_4 rfl
                          have e5 := lv_neT (a := 5) c4_5 rfl
                          have e6 := lv_neT (a := 6) c4_6 rfl
                          have e7 := lv_neT (a := 7) c4_7 rfl
                          omega) rfl ?_
                      refine lv_aload_n hx hb dX13_at_191 rfl (lv_at hl 0 rfl) ?_
                      refine lv_aload_n hx hb dX13_at_192 rfl (lv_at hl 0 rfl) ?_
                      refine r_get (T := TX13) (v := .int (gI (pI M a0 0 0) a0 20)) hx hb hts in13 hown hK hP k0 (by decide) rfl 20 (by decide) (hts (.fieldLink RX13 496 "StoneWalkModel" "people" "I") (List.mem_of_getElem? (i := 10) (by decide +kernel))) rfl (t := 0) rfl rfl dX13_at_193 ?_
                      obtain ⟨z19, h19, h⟩ := ob_some h
                      refine k_i (va_runV (As := [.int (gI (pI M a0 0 0) a0 20)]) (rest := []) ⟨hx, hb, hml, hown, hts⟩ (c_X13_done (l := l) (pI M a0 0 0) a0 (gI (pI M a0 0 0) a0 20) k0 h19) (cwV 1 hts gX13_at_X13_done rfl rfl rfl hdV_X13_done ⟨Nat.le_of_ble_eq_true rfl, Nat.le_of_ble_eq_true rfl⟩) (pV (T := TX13) hP hK hD hT hG hS k0 (by decide) rfl) rfl rfl hl.1 rfl (lv_room (Nat.le_of_ble_eq_true rfl)) dX13_at_196 ⟨Nat.zero_le _, Nat.zero_le _⟩) hS (fun H locs hP hD hT hS => ?_)
                      have hZ := Option.some.inj h
                      exact r_iret hx hb hr hlocks hP hK hD hT hG hS (congrArg Prod.fst hZ) (congrArg Prod.snd hZ) dX13_at_199
    · replace h := ite_t c3 h
      refine lv_aload_n hx hb dX13_at_29 rfl (lv_at hl 0 rfl) ?_
      refine lv_bipush (v := 6) hx hb dX13_at_30 rfl ?_
      obtain ⟨z20, h20, h⟩ := ob_some h
      refine k_i (va_runV (As := [.int 6]) (rest := []) ⟨hx, hb, hml, hown, hts⟩ (c_X13_refused (l := l) (pI M a0 0 0) a0 6 k0 h20) (cwV 1 hts gX13_at_X13_refused rfl rfl rfl hdV_X13_refused ⟨Nat.le_of_ble_eq_true rfl, Nat.le_of_ble_eq_true rfl⟩) (pV (T := TX13) hP hK hD hT hG hS k0 (by decide) rfl) rfl rfl hl.1 rfl (lv_room (Nat.le_of_ble_eq_true rfl)) dX13_at_32 ⟨Nat.zero_le _, Nat.zero_le _⟩) hS (fun H locs hP hD hT hS => ?_)
      have hZ := Option.some.inj h
      exact r_iret hx hb hr hlocks hP hK hD hT hG hS (congrArg Prod.fst hZ) (congrArg Prod.snd hZ) dX13_at_35
  · replace h := ite_t c2 h
    refine lv_aload_n hx hb dX13_at_15 rfl (lv_at hl 0 rfl) ?_
    refine lv_iconst (v := 1) hx hb dX13_at_16 rfl ?_
    obtain ⟨z21, h21, h⟩ := ob_some h
    refine k_i (va_runV (As := [.int 1]) (rest := []) ⟨hx, hb, hml, hown, hts⟩ (c_X13_refused (l := l) (pI M a0 0 0) a0 1 k0 h21) (cwV 1 hts gX13_at_X13_refused rfl rfl rfl hdV_X13_refused ⟨Nat.le_of_ble_eq_true rfl, Nat.le_of_ble_eq_true rfl⟩) (pV (T := TX13) hP hK hD hT hG hS k0 (by decide) rfl) rfl rfl hl.1 rfl (lv_room (Nat.le_of_ble_eq_true rfl)) dX13_at_17 ⟨Nat.zero_le _, Nat.zero_le _⟩) hS (fun H locs hP hD hT hS => ?_)
    have hZ := Option.some.inj h
    exact r_iret hx hb hr hlocks hP hK hD hT hG hS (congrArg Prod.fst hZ) (congrArg Prod.snd hZ) dX13_at_20
set_option maxHeartbeats 4000000 in
set_option maxRecDepth 100000 in
theorem c_X13_tries {l : Launch} {D : va_G} {ad : Nat → Nat} {cy : Nat → ClassId} {A : Nat → Prop} {g : CG} {q : SE} (M : MM) (a0 : Nat) (x1 : Int32) (k0 : ok g a0 13 0) {Z : (Int32 × MM)} (h : f_X13_tries M a0 x1 = some Z) : Met l yX13_tries wsX13_tries ({ frames := 4, cells := 0, slots := 0, locals := 94 }) (va_Pc [.ref (ad a0), .int x1] (Wd D ad cy A g q M)) (va_Qi (fun r u => r = Z.1 ∧ u = Z.2) (Wd D ad cy A g q) A) 0 0 A := by
  refine Met.ofW (cc := cX13_tries) (maxL := 8) (ret := (some .int)) (by decide) rfl ?_
  intro p e s m args below meth c s₁ B hml hv
  obtain ⟨rfl, hP, hK, hD, hT, hG⟩ := hv
  have hx := B.exec
  have hb := B.bytes
  have hr := B.returns
  have hts := atoms_spec (ws := wsX13_tries) B.pre
  have hown : s.vm.findClass RX13 = some m.cls := findClass_of_methodNamed B.named
  have hlocks := B.notSynchronized
  have in13 : ∀ w ∈ u_ws RX13 TX13 29, w ∈ wsX13_tries := fun w h => List.mem_cons_of_mem _ (List.mem_append_left _ (List.mem_append_right _ h))
  have hS : va_S A s.heap s.heap [] := va_S.rf
  have hl := lv_entry ([.ref (ad a0), .int x1]) (n := 8) (Nat.le_of_ble_eq_true rfl)
  rw [lg_entry_eq]
  generalize (lg_sl ([.ref (ad a0), .int x1]) ++ List.replicate (8 - (lg_sl ([.ref (ad a0), .int x1])).length) Slot.unset).toArray = ls at hl ⊢
  have hl : lv_has ls 8 [(0, .ref (ad a0)), (1, .int x1)] := hl
  unfold f_X13_tries at h
  refine lv_aload_n hx hb dX13_tries_0 rfl (lv_at hl 0 rfl) ?_
  refine lv_iconst (v := 0) hx hb dX13_tries_1 rfl ?_
  refine r_putI (T := TX13) (ty := .int) (v := 0) hx hb hts in13 tyX13 tyX13_ok nmX13 hown hK hP hD hT hS k0 (by decide) rfl 0 (by decide) (hts (.fieldLink RX13 30 "StoneWalkModel" "thrown" "I") (List.mem_of_getElem? (i := 1) (by decide +kernel))) rfl rfl (tyX13_ok 0 (by decide)) rfl rfl rfl dX13_tries_2 (fun H locs hP hD hT hS => ?_)
  refine lv_aload_n hx hb dX13_tries_5 rfl (lv_at hl 0 rfl) ?_
  refine r_get (T := TX13) (v := .int (gI (pI M a0 0 0) a0 17)) hx hb hts in13 hown hK hP k0 (by decide) rfl 17 (by decide) (hts (.fieldLink RX13 17 "StoneWalkModel" "moved" "I") (List.mem_of_getElem? (i := 2) (by decide +kernel))) rfl (t := 0) rfl rfl dX13_tries_6 ?_
  refine lv_iconst (v := (-1)) hx hb dX13_tries_9 rfl ?_
  refine lv_icmp_ne (tgt := 20) hx hb dX13_tries_10 rfl (fun c1 => ?_) (fun c1 => ?_)
  · replace h := ite_f c1 h
    refine lv_iload_n hx hb dX13_tries_20 rfl (lv_at hl 1 rfl) ?_
    refine lv_iconst (v := 1) hx hb dX13_tries_21 rfl ?_
    refine lv_bipush (v := 100) hx hb dX13_tries_22 rfl ?_
    obtain ⟨z2, h2, h⟩ := ob_some h
    refine k_z (va_runS (As := [.int x1, .int 1, .int 100]) (rest := []) ⟨hx, hb, hml, hown, hts⟩ (c_X13_in (l := l) (pI M a0 0 0) x1 1 100 h2) (va_cwS 3 hts gX13_tries_X13_in rfl rfl rfl hdS_X13_in ⟨Nat.le_of_ble_eq_true rfl, Nat.le_of_ble_eq_true rfl⟩) (pS hP hK hD hT hG hS) rfl rfl hl.1 rfl (lv_room (Nat.le_of_ble_eq_true rfl)) dX13_tries_24 ⟨Nat.zero_le _, Nat.zero_le _⟩) hS (fun H locs hz2 hP hD hT hS => ?_)
    refine lv_if_ne (tgt := 36) hx hb dX13_tries_27 rfl (fun c3 => ?_) (fun c3 => ?_)
    · replace h := ite_f c3 h
      refine lv_aload_n hx hb dX13_tries_36 rfl (lv_at hl 0 rfl) ?_
      refine r_get (T := TX13) (v := .int (gI (pI M a0 0 0) a0 21)) hx hb hts in13 hown hK hP k0 (by decide) rfl 21 (by decide) (hts (.fieldLink RX13 500 "StoneWalkModel" "told" "I") (List.mem_of_getElem? (i := 3) (by decide +kernel))) rfl (t := 0) rfl rfl dX13_tries_37 ?_
      refine lv_istore_n (lv' := [(2, .int (gI (pI M a0 0 0) a0 21)), (0, .ref (ad a0)), (1, .int x1)]) hx hb dX13_tries_40 rfl hl (by decide) rfl (fun ls hl => ?_)
      refine lv_aload_n hx hb dX13_tries_41 rfl (lv_at hl 1 rfl) ?_
      refine r_get (T := TX13) (v := .int (gI (pI M a0 0 0) a0 22)) hx hb hts in13 hown hK hP k0 (by decide) rfl 22 (by decide) (hts (.fieldLink RX13 503 "StoneWalkModel" "slopesGone" "I") (List.mem_of_getElem? (i := 4) (by decide +kernel))) rfl (t := 0) rfl rfl dX13_tries_42 ?_
      refine lv_istore_n (lv' := [(3, .int (gI (pI M a0 0 0) a0 22)), (2, .int (gI (pI M a0 0 0) a0 21)), (0, .ref (ad a0)), (1, .int x1)]) hx hb dX13_tries_45 rfl hl (by decide) rfl (fun ls hl => ?_)
      refine lv_aload_n hx hb dX13_tries_46 rfl (lv_at hl 2 rfl) ?_
      refine r_get (T := TX13) (v := .int (gI (pI M a0 0 0) a0 23)) hx hb hts in13 hown hK hP k0 (by decide) rfl 23 (by decide) (hts (.fieldLink RX13 506 "StoneWalkModel" "minutesGone" "I") (List.mem_of_getElem? (i := 5) (by decide +kernel))) rfl (t := 0) rfl rfl dX13_tries_47 ?_
      refine lv_istore (lv' := [(4, .int (gI (pI M a0 0 0) a0 23)), (3, .int (gI (pI M a0 0 0) a0 22)), (2, .int (gI (pI M a0 0 0) a0 21)), (0, .ref (ad a0)), (1, .int x1)]) hx hb dX13_tries_50 hl (by decide) rfl (fun ls hl => ?_)
      refine lv_aload_n hx hb dX13_tries_52 rfl (lv_at hl 3 rfl) ?_
      refine r_get (T := TX13) (v := .int (gI (pI M a0 0 0) a0 24)) hx hb hts in13 hown hK hP k0 (by decide) rfl 24 (by decide) (hts (.fieldLink RX13 509 "StoneWalkModel" "liesNow" "I") (List.mem_of_getElem? (i := 6) (by decide +kernel))) rfl (t := 0) rfl rfl dX13_tries_53 ?_
      refine lv_istore (lv' := [(5, .int (gI (pI M a0 0 0) a0 24)), (4, .int (gI (pI M a0 0 0) a0 23)), (3, .int (gI (pI M a0 0 0) a0 22)), (2, .int (gI (pI M a0 0 0) a0 21)), (0, .ref (ad a0)), (1, .int x1)]) hx hb dX13_tries_56 hl (by decide) rfl (fun ls hl => ?_)
      refine lv_iconst (v := 0) hx hb dX13_tries_58 rfl ?_
      refine lv_istore (lv' := [(6, .int 0), (5, .int (gI (pI M a0 0 0) a0 24)), (4, .int (gI (pI M a0 0 0) a0 23)), (3, .int (gI (pI M a0 0 0) a0 22)), (2, .int (gI (pI M a0 0 0) a0 21)), (0, .ref (ad a0)), (1, .int x1)]) hx hb dX13_tries_59 hl (by decide) rfl (fun ls hl => ?_)
      refine lv_iconst (v := 0) hx hb dX13_tries_61 rfl ?_
      refine lv_istore (lv' := [(7, .int 0), (6, .int 0), (5, .int (gI (pI M a0 0 0) a0 24)), (4, .int (gI (pI M a0 0 0) a0 23)), (3, .int (gI (pI M a0 0 0) a0 22)), (2, .int (gI (pI M a0 0 0) a0 21)), (0, .ref (ad a0)), (1, .int x1)]) hx hb dX13_tries_62 hl (by decide) rfl (fun ls hl => ?_)
      have L4 : ∀ n4 : Nat, ∀ (M4 : MM) (y4_0 : Nat) (y4_1 : Int32) (y4_2 : Int32) (y4_3 : Int32) (y4_4 : Int32) (y4_5 : Int32) (y4_6 : Int32) (y4_7 : Int32) (ky4_0 : ok g y4_0 13 0) (H : Heap) (locs : List Loc), f_X13_tries_L64 n4 M4 y4_0 y4_1 y4_2 y4_3 y4_4 y4_5 y4_6 y4_7 = some Z → va_P D vwCl (wd ad cy g M4) H → va_D A (wd ad cy g M4) → WT g M4 → va_S A s.heap H locs → ∀ (ls : Array Slot), lv_has ls 8 [(0, .ref (ad y4_0)), (1, .int y4_1), (2, .int y4_2), (3, .int y4_3), (4, .int y4_4), (5, .int y4_5), (6, .int y4_6), (7, .int y4_7)] → W p l e ((headSpec wsX13_tries ({ frames := 4, cells := 0, slots := 0, locals := 94 })).room) s m (([.ref (ad a0), .int x1] : List Value).toArray) below meth c H locs 0 0 (MQ below (va_Qi (fun r u => r = Z.1 ∧ u = Z.2) (Wd D ad cy A g q) A) ([.ref (ad a0), .int x1]).toArray s 0 0 A) (F0 m 64 ls []) := by
        intro n4
        induction n4 with
        | zero => intro M4 y4_0 y4_1 y4_2 y4_3 y4_4 y4_5 y4_6 y4_7 ky4_0 H locs h; exact absurd h (by simp [f_X13_tries_L64])
        | succ n4 ih4 =>
          intro M4 y4_0 y4_1 y4_2 y4_3 y4_4 y4_5 y4_6 y4_7 ky4_0 H locs h hP hD hT hS ls hl
          rw [f_X13_tries_L64] at h
          refine lv_iload hx hb dX13_tries_64 (lv_at hl 7 rfl) ?_
          refine lv_iload_n hx hb dX13_tries_66 rfl (lv_at hl 1 rfl) ?_
          refine lv_icmp_ge (tgt := 117) hx hb dX13_tries_67 rfl (fun c5 => ?_) (fun c5 => ?_)
          · replace h := ite_t c5 h
            refine lv_aload_n hx hb dX13_tries_117 rfl (lv_at hl 0 rfl) ?_
            refine lv_iload_n hx hb dX13_tries_118 rfl (lv_at hl 2 rfl) ?_
            refine r_putI (T := TX13) (ty := .int) (v := y4_2) hx hb hts in13 tyX13 tyX13_ok nmX13 hown hK hP hD hT hS ky4_0 (by decide) rfl 21 (by decide) (hts (.fieldLink RX13 500 "StoneWalkModel" "told" "I") (List.mem_of_getElem? (i := 3) (by decide +kernel))) rfl rfl (tyX13_ok 21 (by decide)) rfl rfl rfl dX13_tries_119 (fun H locs hP hD hT hS => ?_)
            refine lv_aload_n hx hb dX13_tries_122 rfl (lv_at hl 0 rfl) ?_
            refine lv_iload_n hx hb dX13_tries_123 rfl (lv_at hl 3 rfl) ?_
            refine r_putI (T := TX13) (ty := .int) (v := y4_3) hx hb hts in13 tyX13 tyX13_ok nmX13 hown hK hP hD hT hS ky4_0 (by decide) rfl 22 (by decide) (hts (.fieldLink RX13 503 "StoneWalkModel" "slopesGone" "I") (List.mem_of_getElem? (i := 4) (by decide +kernel))) rfl rfl (tyX13_ok 22 (by decide)) rfl rfl rfl dX13_tries_124 (fun H locs hP hD hT hS => ?_)
            refine lv_aload_n hx hb dX13_tries_127 rfl (lv_at hl 0 rfl) ?_
            refine lv_iload hx hb dX13_tries_128 (lv_at hl 4 rfl) ?_
            refine r_putI (T := TX13) (ty := .int) (v := y4_4) hx hb hts in13 tyX13 tyX13_ok nmX13 hown hK hP hD hT hS ky4_0 (by decide) rfl 23 (by decide) (hts (.fieldLink RX13 506 "StoneWalkModel" "minutesGone" "I") (List.mem_of_getElem? (i := 5) (by decide +kernel))) rfl rfl (tyX13_ok 23 (by decide)) rfl rfl rfl dX13_tries_130 (fun H locs hP hD hT hS => ?_)
            refine lv_aload_n hx hb dX13_tries_133 rfl (lv_at hl 0 rfl) ?_
            refine lv_iload hx hb dX13_tries_134 (lv_at hl 5 rfl) ?_
            refine r_putI (T := TX13) (ty := .int) (v := y4_5) hx hb hts in13 tyX13 tyX13_ok nmX13 hown hK hP hD hT hS ky4_0 (by decide) rfl 24 (by decide) (hts (.fieldLink RX13 509 "StoneWalkModel" "liesNow" "I") (List.mem_of_getElem? (i := 6) (by decide +kernel))) rfl rfl (tyX13_ok 24 (by decide)) rfl rfl rfl dX13_tries_136 (fun H locs hP hD hT hS => ?_)
            refine lv_aload_n hx hb dX13_tries_139 rfl (lv_at hl 0 rfl) ?_
            refine lv_iload hx hb dX13_tries_140 (lv_at hl 6 rfl) ?_
            obtain ⟨z6, h6, h⟩ := ob_some h
            refine k_i (va_runV (As := [.int y4_6]) (rest := []) ⟨hx, hb, hml, hown, hts⟩ (c_X13_done (l := l) (pI (pI (pI (pI M4 y4_0 21 y4_2) y4_0 22 y4_3) y4_0 23 y4_4) y4_0 24 y4_5) y4_0 y4_6 ky4_0 h6) (cwV 1 hts gX13_tries_X13_done rfl rfl rfl hdV_X13_done ⟨Nat.le_of_ble_eq_true rfl, Nat.le_of_ble_eq_true rfl⟩) (pV (T := TX13) hP hK hD hT hG hS ky4_0 (by decide) rfl) rfl rfl hl.1 rfl (lv_room (Nat.le_of_ble_eq_true rfl)) dX13_tries_142 ⟨Nat.zero_le _, Nat.zero_le _⟩) hS (fun H locs hP hD hT hS => ?_)
            have hZ := Option.some.inj h
            exact r_iret hx hb hr hlocks hP hK hD hT hG hS (congrArg Prod.fst hZ) (congrArg Prod.snd hZ) dX13_tries_145
          · replace h := ite_f c5 h
            refine lv_aload_n hx hb dX13_tries_70 rfl (lv_at hl 0 rfl) ?_
            obtain ⟨z7, h7, h⟩ := ob_some h
            refine k_v (va_runV (As := []) (rest := []) ⟨hx, hb, hml, hown, hts⟩ (c_X13_startsAnew (l := l) M4 y4_0 ky4_0 h7) (cwV 0 hts gX13_tries_X13_startsAnew rfl rfl rfl hdV_X13_startsAnew ⟨Nat.le_of_ble_eq_true rfl, Nat.le_of_ble_eq_true rfl⟩) (pV (T := TX13) hP hK hD hT hG hS ky4_0 (by decide) rfl) rfl rfl hl.1 rfl (lv_room (Nat.le_of_ble_eq_true rfl)) dX13_tries_71 ⟨Nat.zero_le _, Nat.zero_le _⟩) hS (fun H locs hP hD hT hS => ?_)
            have L8 : ∀ n8 : Nat, ∀ (M8 : MM) (y8_0 : Nat) (y8_1 : Int32) (y8_2 : Int32) (y8_3 : Int32) (y8_4 : Int32) (y8_5 : Int32) (y8_6 : Int32) (y8_7 : Int32) (ky8_0 : ok g y8_0 13 0) (H : Heap) (locs : List Loc), f_X13_tries_L74 (fun M y4_0 y4_1 y4_2 y4_3 y4_4 y4_5 y4_6 y4_7 => f_X13_tries_L64 n4 M y4_0 y4_1 y4_2 y4_3 y4_4 y4_5 y4_6 y4_7) n8 M8 y8_0 y8_1 y8_2 y8_3 y8_4 y8_5 y8_6 y8_7 = some Z → va_P D vwCl (wd ad cy g M8) H → va_D A (wd ad cy g M8) → WT g M8 → va_S A s.heap H locs → ∀ (ls : Array Slot), lv_has ls 8 [(0, .ref (ad y8_0)), (1, .int y8_1), (2, .int y8_2), (3, .int y8_3), (4, .int y8_4), (5, .int y8_5), (6, .int y8_6), (7, .int y8_7)] → W p l e ((headSpec wsX13_tries ({ frames := 4, cells := 0, slots := 0, locals := 94 })).room) s m (([.ref (ad a0), .int x1] : List Value).toArray) below meth c H locs 0 0 (MQ below (va_Qi (fun r u => r = Z.1 ∧ u = Z.2) (Wd D ad cy A g q) A) ([.ref (ad a0), .int x1]).toArray s 0 0 A) (F0 m 74 ls []) := by
              intro n8
              induction n8 with
              | zero => intro M8 y8_0 y8_1 y8_2 y8_3 y8_4 y8_5 y8_6 y8_7 ky8_0 H locs h; exact absurd h (by simp [f_X13_tries_L74])
              | succ n8 ih8 =>
                intro M8 y8_0 y8_1 y8_2 y8_3 y8_4 y8_5 y8_6 y8_7 ky8_0 H locs h hP hD hT hS ls hl
                rw [f_X13_tries_L74] at h
                refine lv_aload_n hx hb dX13_tries_74 rfl (lv_at hl 0 rfl) ?_
                refine r_get (T := TX13) (v := .int (gI M8 y8_0 21)) hx hb hts in13 hown hK hP ky8_0 (by decide) rfl 21 (by decide) (hts (.fieldLink RX13 500 "StoneWalkModel" "told" "I") (List.mem_of_getElem? (i := 3) (by decide +kernel))) rfl (t := 0) rfl rfl dX13_tries_75 ?_
                refine lv_iconst (v := 1) hx hb dX13_tries_78 rfl ?_
                refine lv_icmp_ne (tgt := 93) hx hb dX13_tries_79 rfl (fun c9 => ?_) (fun c9 => ?_)
                · replace h := ite_f c9 h
                  refine lv_iload hx hb dX13_tries_93 (lv_at hl 6 rfl) ?_
                  refine lv_aload_n hx hb dX13_tries_95 rfl (lv_at hl 0 rfl) ?_
                  refine r_get (T := TX13) (v := .int (gI M8 y8_0 21)) hx hb hts in13 hown hK hP ky8_0 (by decide) rfl 21 (by decide) (hts (.fieldLink RX13 500 "StoneWalkModel" "told" "I") (List.mem_of_getElem? (i := 3) (by decide +kernel))) rfl (t := 0) rfl rfl dX13_tries_96 ?_
                  refine lv_iconst (v := 2) hx hb dX13_tries_99 rfl ?_
                  refine lv_icmp_ne (tgt := 107) hx hb dX13_tries_100 rfl (fun c10 => ?_) (fun c10 => ?_)
                  · replace h := ite_f c10 h
                    refine lv_iconst (v := 0) hx hb dX13_tries_107 rfl ?_
                    refine lv_iadd hx hb dX13_tries_108 ?_
                    refine lv_istore (lv' := [(6, .int (y8_6 + 0)), (0, .ref (ad y8_0)), (1, .int y8_1), (2, .int y8_2), (3, .int y8_3), (4, .int y8_4), (5, .int y8_5), (7, .int y8_7)]) hx hb dX13_tries_109 hl (by decide) rfl (fun ls hl => ?_)
                    refine lv_iinc (v := y8_7 + 1) (lv' := [(7, .int (y8_7 + 1)), (6, .int (y8_6 + 0)), (0, .ref (ad y8_0)), (1, .int y8_1), (2, .int y8_2), (3, .int y8_3), (4, .int y8_4), (5, .int y8_5)]) hx hb dX13_tries_111 hl (k := 7) rfl rfl (by decide) rfl (fun ls hl => ?_)
                    refine lv_goto (tgt := 64) hx hb dX13_tries_114 rfl ?_
                    exact ih4 M8 y8_0 y8_1 y8_2 y8_3 y8_4 y8_5 (y8_6 + 0) (y8_7 + 1) ky8_0 _ _ h hP hD hT hS ls (lv_sub hl [2, 3, 4, 5, 6, 7, 1, 0] rfl)
                  · replace h := ite_t c10 h
                    refine lv_iconst (v := 1) hx hb dX13_tries_103 rfl ?_
                    refine lv_goto (tgt := 108) hx hb dX13_tries_104 rfl ?_
                    refine lv_iadd hx hb dX13_tries_108 ?_
                    refine lv_istore (lv' := [(6, .int (y8_6 + 1)), (0, .ref (ad y8_0)), (1, .int y8_1), (2, .int y8_2), (3, .int y8_3), (4, .int y8_4), (5, .int y8_5), (7, .int y8_7)]) hx hb dX13_tries_109 hl (by decide) rfl (fun ls hl => ?_)
                    refine lv_iinc (v := y8_7 + 1) (lv' := [(7, .int (y8_7 + 1)), (6, .int (y8_6 + 1)), (0, .ref (ad y8_0)), (1, .int y8_1), (2, .int y8_2), (3, .int y8_3), (4, .int y8_4), (5, .int y8_5)]) hx hb dX13_tries_111 hl (k := 7) rfl rfl (by decide) rfl (fun ls hl => ?_)
                    refine lv_goto (tgt := 64) hx hb dX13_tries_114 rfl ?_
                    exact ih4 M8 y8_0 y8_1 y8_2 y8_3 y8_4 y8_5 (y8_6 + 1) (y8_7 + 1) ky8_0 _ _ h hP hD hT hS ls (lv_sub hl [2, 3, 4, 5, 6, 7, 1, 0] rfl)
                · replace h := ite_t c9 h
                  refine lv_aload_n hx hb dX13_tries_82 rfl (lv_at hl 0 rfl) ?_
                  refine lv_aload_n hx hb dX13_tries_83 rfl (lv_at hl 0 rfl) ?_
                  obtain ⟨z11, h11, h⟩ := ob_some h
                  refine k_i (va_runV (As := []) (rest := [.ref (ad y8_0)]) ⟨hx, hb, hml, hown, hts⟩ (c_X13_steps (l := l) M8 y8_0 ky8_0 h11) (cwV 0 hts gX13_tries_X13_steps rfl rfl rfl hdV_X13_steps ⟨Nat.le_of_ble_eq_true rfl, Nat.le_of_ble_eq_true rfl⟩) (pV (T := TX13) hP hK hD hT hG hS ky8_0 (by decide) rfl) rfl rfl hl.1 rfl (lv_room (Nat.le_of_ble_eq_true rfl)) dX13_tries_84 ⟨Nat.zero_le _, Nat.zero_le _⟩) hS (fun H locs hP hD hT hS => ?_)
                  refine r_putI (T := TX13) (ty := .int) (v := z11.1) hx hb hts in13 tyX13 tyX13_ok nmX13 hown hK hP hD hT hS ky8_0 (by decide) rfl 21 (by decide) (hts (.fieldLink RX13 500 "StoneWalkModel" "told" "I") (List.mem_of_getElem? (i := 3) (by decide +kernel))) rfl rfl (tyX13_ok 21 (by decide)) rfl rfl rfl dX13_tries_87 (fun H locs hP hD hT hS => ?_)
                  refine lv_goto (tgt := 74) hx hb dX13_tries_90 rfl ?_
                  exact ih8 (pI z11.2 y8_0 21 z11.1) y8_0 y8_1 y8_2 y8_3 y8_4 y8_5 y8_6 y8_7 ky8_0 _ _ h hP hD hT hS ls (lv_sub hl [0, 1, 2, 3, 4, 5, 6, 7] rfl)
            exact L8 FU z7 y4_0 y4_1 y4_2 y4_3 y4_4 y4_5 y4_6 y4_7 ky4_0 _ _ h hP hD hT hS ls (lv_sub hl [0, 1, 2, 3, 4, 5, 6, 7] rfl)
      exact L4 FU (pI M a0 0 0) a0 x1 (gI (pI M a0 0 0) a0 21) (gI (pI M a0 0 0) a0 22) (gI (pI M a0 0 0) a0 23) (gI (pI M a0 0 0) a0 24) 0 0 k0 _ _ h hP hD hT hS ls (lv_sub hl [6, 7, 5, 4, 3, 2, 1, 0] rfl)
    · replace h := ite_t c3 h
      refine lv_aload_n hx hb dX13_tries_30 rfl (lv_at hl 0 rfl) ?_
      refine lv_iconst (v := 2) hx hb dX13_tries_31 rfl ?_
      obtain ⟨z12, h12, h⟩ := ob_some h
      refine k_i (va_runV (As := [.int 2]) (rest := []) ⟨hx, hb, hml, hown, hts⟩ (c_X13_refused (l := l) (pI M a0 0 0) a0 2 k0 h12) (cwV 1 hts gX13_tries_X13_refused rfl rfl rfl hdV_X13_refused ⟨Nat.le_of_ble_eq_true rfl, Nat.le_of_ble_eq_true rfl⟩) (pV (T := TX13) hP hK hD hT hG hS k0 (by decide) rfl) rfl rfl hl.1 rfl (lv_room (Nat.le_of_ble_eq_true rfl)) dX13_tries_32 ⟨Nat.zero_le _, Nat.zero_le _⟩) hS (fun H locs hP hD hT hS => ?_)
      have hZ := Option.some.inj h
      exact r_iret hx hb hr hlocks hP hK hD hT hG hS (congrArg Prod.fst hZ) (congrArg Prod.snd hZ) dX13_tries_35
  · replace h := ite_t c1 h
    refine lv_aload_n hx hb dX13_tries_13 rfl (lv_at hl 0 rfl) ?_
    refine lv_bipush (v := 6) hx hb dX13_tries_14 rfl ?_
    obtain ⟨z13, h13, h⟩ := ob_some h
    refine k_i (va_runV (As := [.int 6]) (rest := []) ⟨hx, hb, hml, hown, hts⟩ (c_X13_refused (l := l) (pI M a0 0 0) a0 6 k0 h13) (cwV 1 hts gX13_tries_X13_refused rfl rfl rfl hdV_X13_refused ⟨Nat.le_of_ble_eq_true rfl, Nat.le_of_ble_eq_true rfl⟩) (pV (T := TX13) hP hK hD hT hG hS k0 (by decide) rfl) rfl rfl hl.1 rfl (lv_room (Nat.le_of_ble_eq_true rfl)) dX13_tries_16 ⟨Nat.zero_le _, Nat.zero_le _⟩) hS (fun H locs hP hD hT hS => ?_)
    have hZ := Option.some.inj h
    exact r_iret hx hb hr hlocks hP hK hD hT hG hS (congrArg Prod.fst hZ) (congrArg Prod.snd hZ) dX13_tries_19
set_option maxHeartbeats 4000000 in
set_option maxRecDepth 100000 in
theorem c_X13_image {l : Launch} {D : va_G} {ad : Nat → Nat} {cy : Nat → ClassId} {A : Nat → Prop} {g : CG} {q : SE} (M : MM) (a0 : Nat) (k0 : ok g a0 13 0) {Z : (Int64 × MM)} (h : f_X13_image M a0 = some Z) : Met l yX13_image wsX13_image ({ frames := 1, cells := 0, slots := 0, locals := 21 }) (va_Pc [.ref (ad a0)] (Wd D ad cy A g q M)) (va_Ql (fun r u => r = Z.1 ∧ u = Z.2) (Wd D ad cy A g q) A) 0 0 A := by
  refine Met.ofW (cc := cX13_image) (maxL := 3) (ret := (some .long)) (by decide) rfl ?_
  intro p e s m args below meth c s₁ B hml hv
  obtain ⟨rfl, hP, hK, hD, hT, hG⟩ := hv
  have hx := B.exec
  have hb := B.bytes
  have hr := B.returns
  have hts := atoms_spec (ws := wsX13_image) B.pre
  have hown : s.vm.findClass RX13 = some m.cls := findClass_of_methodNamed B.named
  have hlocks := B.notSynchronized
  have in13 : ∀ w ∈ u_ws RX13 TX13 29, w ∈ wsX13_image := fun w h => List.mem_cons_of_mem _ (List.mem_append_right _ h)
  have hS : va_S A s.heap s.heap [] := va_S.rf
  have hl := lv_entry ([.ref (ad a0)]) (n := 3) (Nat.le_of_ble_eq_true rfl)
  rw [lg_entry_eq]
  generalize (lg_sl ([.ref (ad a0)]) ++ List.replicate (3 - (lg_sl ([.ref (ad a0)])).length) Slot.unset).toArray = ls at hl ⊢
  have hl : lv_has ls 3 [(0, .ref (ad a0))] := hl
  unfold f_X13_image at h
  refine lv_aload_n hx hb dX13_image_0 rfl (lv_at hl 0 rfl) ?_
  refine lv_iconst (v := 0) hx hb dX13_image_1 rfl ?_
  refine r_putI (T := TX13) (ty := .int) (v := 0) hx hb hts in13 tyX13 tyX13_ok nmX13 hown hK hP hD hT hS k0 (by decide) rfl 0 (by decide) (hts (.fieldLink RX13 30 "StoneWalkModel" "thrown" "I") (List.mem_of_getElem? (i := 1) (by decide +kernel))) rfl rfl (tyX13_ok 0 (by decide)) rfl rfl rfl dX13_image_2 (fun H locs hP hD hT hS => ?_)
  refine lv_aload_n hx hb dX13_image_5 rfl (lv_at hl 0 rfl) ?_
  refine r_get (T := TX13) (v := .int (gI (pI M a0 0 0) a0 17)) hx hb hts in13 hown hK hP k0 (by decide) rfl 17 (by decide) (hts (.fieldLink RX13 17 "StoneWalkModel" "moved" "I") (List.mem_of_getElem? (i := 2) (by decide +kernel))) rfl (t := 0) rfl rfl dX13_image_6 ?_
  refine lv_iconst (v := (-1)) hx hb dX13_image_9 rfl ?_
  refine lv_icmp_ne (tgt := 21) hx hb dX13_image_10 rfl (fun c1 => ?_) (fun c1 => ?_)
  · replace h := ite_f c1 h
    refine lv_aload_n hx hb dX13_image_21 rfl (lv_at hl 0 rfl) ?_
    refine lv_iconst (v := 0) hx hb dX13_image_22 rfl ?_
    obtain ⟨z2, h2, h⟩ := ob_some h
    refine k_i (va_runV (As := [.int 0]) (rest := []) ⟨hx, hb, hml, hown, hts⟩ (c_X13_done (l := l) (pI M a0 0 0) a0 0 k0 h2) (cwV 1 hts gX13_image_X13_done rfl rfl rfl hdV_X13_done ⟨Nat.le_of_ble_eq_true rfl, Nat.le_of_ble_eq_true rfl⟩) (pV (T := TX13) hP hK hD hT hG hS k0 (by decide) rfl) rfl rfl hl.1 rfl (lv_room (Nat.le_of_ble_eq_true rfl)) dX13_image_23 ⟨Nat.zero_le _, Nat.zero_le _⟩) hS (fun H locs hP hD hT hS => ?_)
    refine lv_pop hx hb dX13_image_26 rfl ?_
    refine lv_aload_n hx hb dX13_image_27 rfl (lv_at hl 0 rfl) ?_
    refine r_get (T := TX13) (v := .int (gI z2.2 a0 16)) hx hb hts in13 hown hK hP k0 (by decide) rfl 16 (by decide) (hts (.fieldLink RX13 437 "StoneWalkModel" "seed" "I") (List.mem_of_getElem? (i := 3) (by decide +kernel))) rfl (t := 0) rfl rfl dX13_image_28 ?_
    refine lv_i2l hx hb dX13_image_31 rfl ?_
    refine lv_lstore_n (lv' := [(1, .long ((gI z2.2 a0 16).toInt64)), (0, .ref (ad a0))]) hx hb dX13_image_32 rfl hl (by decide) rfl (fun ls hl => ?_)
    refine lv_ldc2 hx hb hown (hts (.constantLong RX13 527 (6)) (List.mem_of_getElem? (i := 4) (by decide +kernel))) dX13_image_33 ?_
    refine lv_lload_n hx hb dX13_image_36 rfl (lv_at hl 0 rfl) ?_
    refine lv_lmul hx hb dX13_image_37 ?_
    refine lv_aload_n hx hb dX13_image_38 rfl (lv_at hl 1 rfl) ?_
    refine r_get (T := TX13) (v := .int (gI z2.2 a0 21)) hx hb hts in13 hown hK hP k0 (by decide) rfl 21 (by decide) (hts (.fieldLink RX13 500 "StoneWalkModel" "told" "I") (List.mem_of_getElem? (i := 5) (by decide +kernel))) rfl (t := 0) rfl rfl dX13_image_39 ?_
    refine lv_i2l hx hb dX13_image_42 rfl ?_
    refine lv_ladd hx hb dX13_image_43 ?_
    refine lv_lstore_n (lv' := [(1, .long ((6 * ((gI z2.2 a0 16).toInt64)) + ((gI z2.2 a0 21).toInt64))), (0, .ref (ad a0))]) hx hb dX13_image_44 rfl hl (by decide) rfl (fun ls hl => ?_)
    refine lv_ldc2 hx hb hown (hts (.constantLong RX13 529 (7)) (List.mem_of_getElem? (i := 6) (by decide +kernel))) dX13_image_45 ?_
    refine lv_lload_n hx hb dX13_image_48 rfl (lv_at hl 0 rfl) ?_
    refine lv_lmul hx hb dX13_image_49 ?_
    refine lv_aload_n hx hb dX13_image_50 rfl (lv_at hl 1 rfl) ?_
    refine r_get (T := TX13) (v := .int (gI z2.2 a0 22)) hx hb hts in13 hown hK hP k0 (by decide) rfl 22 (by decide) (hts (.fieldLink RX13 503 "StoneWalkModel" "slopesGone" "I") (List.mem_of_getElem? (i := 7) (by decide +kernel))) rfl (t := 0) rfl rfl dX13_image_51 ?_
    refine lv_i2l hx hb dX13_image_54 rfl ?_
    refine lv_ladd hx hb dX13_image_55 ?_
    refine lv_lstore_n (lv' := [(1, .long ((7 * ((6 * ((gI z2.2 a0 16).toInt64)) + ((gI z2.2 a0 21).toInt64))) + ((gI z2.2 a0 22).toInt64))), (0, .ref (ad a0))]) hx hb dX13_image_56 rfl hl (by decide) rfl (fun ls hl => ?_)
    refine lv_ldc2 hx hb hown (hts (.constantLong RX13 531 (541)) (List.mem_of_getElem? (i := 8) (by decide +kernel))) dX13_image_57 ?_
    refine lv_lload_n hx hb dX13_image_60 rfl (lv_at hl 0 rfl) ?_
    refine lv_lmul hx hb dX13_image_61 ?_
    refine lv_aload_n hx hb dX13_image_62 rfl (lv_at hl 1 rfl) ?_
    refine r_get (T := TX13) (v := .int (gI z2.2 a0 23)) hx hb hts in13 hown hK hP k0 (by decide) rfl 23 (by decide) (hts (.fieldLink RX13 506 "StoneWalkModel" "minutesGone" "I") (List.mem_of_getElem? (i := 9) (by decide +kernel))) rfl (t := 0) rfl rfl dX13_image_63 ?_
    refine lv_i2l hx hb dX13_image_66 rfl ?_
    refine lv_ladd hx hb dX13_image_67 ?_
    refine lv_lstore_n (lv' := [(1, .long ((541 * ((7 * ((6 * ((gI z2.2 a0 16).toInt64)) + ((gI z2.2 a0 21).toInt64))) + ((gI z2.2 a0 22).toInt64))) + ((gI z2.2 a0 23).toInt64))), (0, .ref (ad a0))]) hx hb dX13_image_68 rfl hl (by decide) rfl (fun ls hl => ?_)
    refine lv_ldc2 hx hb hown (hts (.constantLong RX13 533 (4)) (List.mem_of_getElem? (i := 10) (by decide +kernel))) dX13_image_69 ?_
    refine lv_lload_n hx hb dX13_image_72 rfl (lv_at hl 0 rfl) ?_
    refine lv_lmul hx hb dX13_image_73 ?_
    refine lv_aload_n hx hb dX13_image_74 rfl (lv_at hl 1 rfl) ?_
    refine r_get (T := TX13) (v := .int (gI z2.2 a0 24)) hx hb hts in13 hown hK hP k0 (by decide) rfl 24 (by decide) (hts (.fieldLink RX13 509 "StoneWalkModel" "liesNow" "I") (List.mem_of_getElem? (i := 11) (by decide +kernel))) rfl (t := 0) rfl rfl dX13_image_75 ?_
    refine lv_bipush (v := (-2)) hx hb dX13_image_78 rfl ?_
    refine lv_icmp_ne (tgt := 87) hx hb dX13_image_80 rfl (fun c3 => ?_) (fun c3 => ?_)
    · replace h := ite_f c3 h
      refine lv_aload_n hx hb dX13_image_87 rfl (lv_at hl 1 rfl) ?_
      refine r_get (T := TX13) (v := .int (gI z2.2 a0 24)) hx hb hts in13 hown hK hP k0 (by decide) rfl 24 (by decide) (hts (.fieldLink RX13 509 "StoneWalkModel" "liesNow" "I") (List.mem_of_getElem? (i := 11) (by decide +kernel))) rfl (t := 0) rfl rfl dX13_image_88 ?_
      refine lv_i2l hx hb dX13_image_91 rfl ?_
      refine lv_ladd hx hb dX13_image_92 ?_
      refine lv_lstore_n (lv' := [(1, .long ((4 * ((541 * ((7 * ((6 * ((gI z2.2 a0 16).toInt64)) + ((gI z2.2 a0 21).toInt64))) + ((gI z2.2 a0 22).toInt64))) + ((gI z2.2 a0 23).toInt64))) + ((gI z2.2 a0 24).toInt64))), (0, .ref (ad a0))]) hx hb dX13_image_93 rfl hl (by decide) rfl (fun ls hl => ?_)
      refine lv_ldc2 hx hb hown (hts (.constantLong RX13 535 (10)) (List.mem_of_getElem? (i := 12) (by decide +kernel))) dX13_image_94 ?_
      refine lv_lload_n hx hb dX13_image_97 rfl (lv_at hl 0 rfl) ?_
      refine lv_lmul hx hb dX13_image_98 ?_
      refine lv_aload_n hx hb dX13_image_99 rfl (lv_at hl 1 rfl) ?_
      refine r_get (T := TX13) (v := .int (gI z2.2 a0 17)) hx hb hts in13 hown hK hP k0 (by decide) rfl 17 (by decide) (hts (.fieldLink RX13 17 "StoneWalkModel" "moved" "I") (List.mem_of_getElem? (i := 2) (by decide +kernel))) rfl (t := 0) rfl rfl dX13_image_100 ?_
      refine lv_i2l hx hb dX13_image_103 rfl ?_
      refine lv_ladd hx hb dX13_image_104 ?_
      refine lv_lstore_n (lv' := [(1, .long ((10 * ((4 * ((541 * ((7 * ((6 * ((gI z2.2 a0 16).toInt64)) + ((gI z2.2 a0 21).toInt64))) + ((gI z2.2 a0 22).toInt64))) + ((gI z2.2 a0 23).toInt64))) + ((gI z2.2 a0 24).toInt64))) + ((gI z2.2 a0 17).toInt64))), (0, .ref (ad a0))]) hx hb dX13_image_105 rfl hl (by decide) rfl (fun ls hl => ?_)
      refine lv_ldc2 hx hb hown (hts (.constantLong RX13 533 (4)) (List.mem_of_getElem? (i := 10) (by decide +kernel))) dX13_image_106 ?_
      refine lv_lload_n hx hb dX13_image_109 rfl (lv_at hl 0 rfl) ?_
      refine lv_lmul hx hb dX13_image_110 ?_
      refine lv_aload_n hx hb dX13_image_111 rfl (lv_at hl 1 rfl) ?_
      refine r_get (T := TX13) (v := .int (gI z2.2 a0 18)) hx hb hts in13 hown hK hP k0 (by decide) rfl 18 (by decide) (hts (.fieldLink RX13 490 "StoneWalkModel" "movedBy" "I") (List.mem_of_getElem? (i := 13) (by decide +kernel))) rfl (t := 0) rfl rfl dX13_image_112 ?_
      refine lv_i2l hx hb dX13_image_115 rfl ?_
      refine lv_ladd hx hb dX13_image_116 ?_
      refine lv_lstore_n (lv' := [(1, .long ((4 * ((10 * ((4 * ((541 * ((7 * ((6 * ((gI z2.2 a0 16).toInt64)) + ((gI z2.2 a0 21).toInt64))) + ((gI z2.2 a0 22).toInt64))) + ((gI z2.2 a0 23).toInt64))) + ((gI z2.2 a0 24).toInt64))) + ((gI z2.2 a0 17).toInt64))) + ((gI z2.2 a0 18).toInt64))), (0, .ref (ad a0))]) hx hb dX13_image_117 rfl hl (by decide) rfl (fun ls hl => ?_)
      refine lv_ldc2 hx hb hown (hts (.constantLong RX13 537 (3)) (List.mem_of_getElem? (i := 14) (by decide +kernel))) dX13_image_118 ?_
      refine lv_lload_n hx hb dX13_image_121 rfl (lv_at hl 0 rfl) ?_
      refine lv_lmul hx hb dX13_image_122 ?_
      refine lv_aload_n hx hb dX13_image_123 rfl (lv_at hl 1 rfl) ?_
      refine r_get (T := TX13) (v := .int (gI z2.2 a0 19)) hx hb hts in13 hown hK hP k0 (by decide) rfl 19 (by decide) (hts (.fieldLink RX13 493 "StoneWalkModel" "movedOn" "I") (List.mem_of_getElem? (i := 15) (by decide +kernel))) rfl (t := 0) rfl rfl dX13_image_124 ?_
      refine lv_i2l hx hb dX13_image_127 rfl ?_
      refine lv_ladd hx hb dX13_image_128 ?_
      refine lv_lstore_n (lv' := [(1, .long ((3 * ((4 * ((10 * ((4 * ((541 * ((7 * ((6 * ((gI z2.2 a0 16).toInt64)) + ((gI z2.2 a0 21).toInt64))) + ((gI z2.2 a0 22).toInt64))) + ((gI z2.2 a0 23).toInt64))) + ((gI z2.2 a0 24).toInt64))) + ((gI z2.2 a0 17).toInt64))) + ((gI z2.2 a0 18).toInt64))) + ((gI z2.2 a0 19).toInt64))), (0, .ref (ad a0))]) hx hb dX13_image_129 rfl hl (by decide) rfl (fun ls hl => ?_)
      refine lv_ldc2 hx hb hown (hts (.constantLong RX13 539 (201)) (List.mem_of_getElem? (i := 16) (by decide +kernel))) dX13_image_130 ?_
      refine lv_lload_n hx hb dX13_image_133 rfl (lv_at hl 0 rfl) ?_
      refine lv_lmul hx hb dX13_image_134 ?_
      refine lv_aload_n hx hb dX13_image_135 rfl (lv_at hl 1 rfl) ?_
      refine r_get (T := TX13) (v := .int (gI z2.2 a0 20)) hx hb hts in13 hown hK hP k0 (by decide) rfl 20 (by decide) (hts (.fieldLink RX13 496 "StoneWalkModel" "people" "I") (List.mem_of_getElem? (i := 17) (by decide +kernel))) rfl (t := 0) rfl rfl dX13_image_136 ?_
      refine lv_i2l hx hb dX13_image_139 rfl ?_
      refine lv_ladd hx hb dX13_image_140 ?_
      have hZ := Option.some.inj h
      exact r_lret hx hb hr hlocks hP hK hD hT hG hS (congrArg Prod.fst hZ) (congrArg Prod.snd hZ) dX13_image_141
    · replace h := ite_t c3 h
      refine lv_iconst (v := 3) hx hb dX13_image_83 rfl ?_
      refine lv_goto (tgt := 91) hx hb dX13_image_84 rfl ?_
      refine lv_i2l hx hb dX13_image_91 rfl ?_
      refine lv_ladd hx hb dX13_image_92 ?_
      refine lv_lstore_n (lv' := [(1, .long ((4 * ((541 * ((7 * ((6 * ((gI z2.2 a0 16).toInt64)) + ((gI z2.2 a0 21).toInt64))) + ((gI z2.2 a0 22).toInt64))) + ((gI z2.2 a0 23).toInt64))) + ((3 : Int32).toInt64))), (0, .ref (ad a0))]) hx hb dX13_image_93 rfl hl (by decide) rfl (fun ls hl => ?_)
      refine lv_ldc2 hx hb hown (hts (.constantLong RX13 535 (10)) (List.mem_of_getElem? (i := 12) (by decide +kernel))) dX13_image_94 ?_
      refine lv_lload_n hx hb dX13_image_97 rfl (lv_at hl 0 rfl) ?_
      refine lv_lmul hx hb dX13_image_98 ?_
      refine lv_aload_n hx hb dX13_image_99 rfl (lv_at hl 1 rfl) ?_
      refine r_get (T := TX13) (v := .int (gI z2.2 a0 17)) hx hb hts in13 hown hK hP k0 (by decide) rfl 17 (by decide) (hts (.fieldLink RX13 17 "StoneWalkModel" "moved" "I") (List.mem_of_getElem? (i := 2) (by decide +kernel))) rfl (t := 0) rfl rfl dX13_image_100 ?_
      refine lv_i2l hx hb dX13_image_103 rfl ?_
      refine lv_ladd hx hb dX13_image_104 ?_
      refine lv_lstore_n (lv' := [(1, .long ((10 * ((4 * ((541 * ((7 * ((6 * ((gI z2.2 a0 16).toInt64)) + ((gI z2.2 a0 21).toInt64))) + ((gI z2.2 a0 22).toInt64))) + ((gI z2.2 a0 23).toInt64))) + ((3 : Int32).toInt64))) + ((gI z2.2 a0 17).toInt64))), (0, .ref (ad a0))]) hx hb dX13_image_105 rfl hl (by decide) rfl (fun ls hl => ?_)
      refine lv_ldc2 hx hb hown (hts (.constantLong RX13 533 (4)) (List.mem_of_getElem? (i := 10) (by decide +kernel))) dX13_image_106 ?_
      refine lv_lload_n hx hb dX13_image_109 rfl (lv_at hl 0 rfl) ?_
      refine lv_lmul hx hb dX13_image_110 ?_
      refine lv_aload_n hx hb dX13_image_111 rfl (lv_at hl 1 rfl) ?_
      refine r_get (T := TX13) (v := .int (gI z2.2 a0 18)) hx hb hts in13 hown hK hP k0 (by decide) rfl 18 (by decide) (hts (.fieldLink RX13 490 "StoneWalkModel" "movedBy" "I") (List.mem_of_getElem? (i := 13) (by decide +kernel))) rfl (t := 0) rfl rfl dX13_image_112 ?_
      refine lv_i2l hx hb dX13_image_115 rfl ?_
      refine lv_ladd hx hb dX13_image_116 ?_
      refine lv_lstore_n (lv' := [(1, .long ((4 * ((10 * ((4 * ((541 * ((7 * ((6 * ((gI z2.2 a0 16).toInt64)) + ((gI z2.2 a0 21).toInt64))) + ((gI z2.2 a0 22).toInt64))) + ((gI z2.2 a0 23).toInt64))) + ((3 : Int32).toInt64))) + ((gI z2.2 a0 17).toInt64))) + ((gI z2.2 a0 18).toInt64))), (0, .ref (ad a0))]) hx hb dX13_image_117 rfl hl (by decide) rfl (fun ls hl => ?_)
      refine lv_ldc2 hx hb hown (hts (.constantLong RX13 537 (3)) (List.mem_of_getElem? (i := 14) (by decide +kernel))) dX13_image_118 ?_
      refine lv_lload_n hx hb dX13_image_121 rfl (lv_at hl 0 rfl) ?_
      refine lv_lmul hx hb dX13_image_122 ?_
      refine lv_aload_n hx hb dX13_image_123 rfl (lv_at hl 1 rfl) ?_
      refine r_get (T := TX13) (v := .int (gI z2.2 a0 19)) hx hb hts in13 hown hK hP k0 (by decide) rfl 19 (by decide) (hts (.fieldLink RX13 493 "StoneWalkModel" "movedOn" "I") (List.mem_of_getElem? (i := 15) (by decide +kernel))) rfl (t := 0) rfl rfl dX13_image_124 ?_
      refine lv_i2l hx hb dX13_image_127 rfl ?_
      refine lv_ladd hx hb dX13_image_128 ?_
      refine lv_lstore_n (lv' := [(1, .long ((3 * ((4 * ((10 * ((4 * ((541 * ((7 * ((6 * ((gI z2.2 a0 16).toInt64)) + ((gI z2.2 a0 21).toInt64))) + ((gI z2.2 a0 22).toInt64))) + ((gI z2.2 a0 23).toInt64))) + ((3 : Int32).toInt64))) + ((gI z2.2 a0 17).toInt64))) + ((gI z2.2 a0 18).toInt64))) + ((gI z2.2 a0 19).toInt64))), (0, .ref (ad a0))]) hx hb dX13_image_129 rfl hl (by decide) rfl (fun ls hl => ?_)
      refine lv_ldc2 hx hb hown (hts (.constantLong RX13 539 (201)) (List.mem_of_getElem? (i := 16) (by decide +kernel))) dX13_image_130 ?_
      refine lv_lload_n hx hb dX13_image_133 rfl (lv_at hl 0 rfl) ?_
      refine lv_lmul hx hb dX13_image_134 ?_
      refine lv_aload_n hx hb dX13_image_135 rfl (lv_at hl 1 rfl) ?_
      refine r_get (T := TX13) (v := .int (gI z2.2 a0 20)) hx hb hts in13 hown hK hP k0 (by decide) rfl 20 (by decide) (hts (.fieldLink RX13 496 "StoneWalkModel" "people" "I") (List.mem_of_getElem? (i := 17) (by decide +kernel))) rfl (t := 0) rfl rfl dX13_image_136 ?_
      refine lv_i2l hx hb dX13_image_139 rfl ?_
      refine lv_ladd hx hb dX13_image_140 ?_
      have hZ := Option.some.inj h
      exact r_lret hx hb hr hlocks hP hK hD hT hG hS (congrArg Prod.fst hZ) (congrArg Prod.snd hZ) dX13_image_141
  · replace h := ite_t c1 h
    refine lv_aload_n hx hb dX13_image_13 rfl (lv_at hl 0 rfl) ?_
    refine lv_bipush (v := 6) hx hb dX13_image_14 rfl ?_
    obtain ⟨z4, h4, h⟩ := ob_some h
    refine k_i (va_runV (As := [.int 6]) (rest := []) ⟨hx, hb, hml, hown, hts⟩ (c_X13_refused (l := l) (pI M a0 0 0) a0 6 k0 h4) (cwV 1 hts gX13_image_X13_refused rfl rfl rfl hdV_X13_refused ⟨Nat.le_of_ble_eq_true rfl, Nat.le_of_ble_eq_true rfl⟩) (pV (T := TX13) hP hK hD hT hG hS k0 (by decide) rfl) rfl rfl hl.1 rfl (lv_room (Nat.le_of_ble_eq_true rfl)) dX13_image_16 ⟨Nat.zero_le _, Nat.zero_le _⟩) hS (fun H locs hP hD hT hS => ?_)
    refine lv_i2l hx hb dX13_image_19 rfl ?_
    have hZ := Option.some.inj h
    exact r_lret hx hb hr hlocks hP hK hD hT hG hS (congrArg Prod.fst hZ) (congrArg Prod.snd hZ) dX13_image_20
