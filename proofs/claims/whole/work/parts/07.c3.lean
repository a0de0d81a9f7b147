theorem hdV_X11_feed : yX11_feed.cls = RX11 ∧ yX11_feed.cls ≠ "java/lang/invoke/MethodHandle" ∧ yX11_feed.cls ≠ "java/lang/invoke/VarHandle" ∧ (parseMethodDescriptor yX11_feed.desc).map (fun d => d.parameters.length) = some 5 := by decide +kernel
theorem hdV_X11_refused : yX11_refused.cls = RX11 ∧ yX11_refused.cls ≠ "java/lang/invoke/MethodHandle" ∧ yX11_refused.cls ≠ "java/lang/invoke/VarHandle" ∧ (parseMethodDescriptor yX11_refused.desc).map (fun d => d.parameters.length) = some 1 := by decide +kernel
theorem hdV_X11_granted : yX11_granted.cls = RX11 ∧ yX11_granted.cls ≠ "java/lang/invoke/MethodHandle" ∧ yX11_granted.cls ≠ "java/lang/invoke/VarHandle" ∧ (parseMethodDescriptor yX11_granted.desc).map (fun d => d.parameters.length) = some 1 := by decide +kernel
theorem hdV_X11_island : yX11_island.cls = RX11 ∧ yX11_island.cls ≠ "java/lang/invoke/MethodHandle" ∧ yX11_island.cls ≠ "java/lang/invoke/VarHandle" ∧ (parseMethodDescriptor yX11_island.desc).map (fun d => d.parameters.length) = some 1 := by decide +kernel
theorem hdV_X11_fault : yX11_fault.cls = RX11 ∧ yX11_fault.cls ≠ "java/lang/invoke/MethodHandle" ∧ yX11_fault.cls ≠ "java/lang/invoke/VarHandle" ∧ (parseMethodDescriptor yX11_fault.desc).map (fun d => d.parameters.length) = some 0 := by decide +kernel
theorem hdV_X11_where : yX11_where.cls = RX11 ∧ yX11_where.cls ≠ "java/lang/invoke/MethodHandle" ∧ yX11_where.cls ≠ "java/lang/invoke/VarHandle" ∧ (parseMethodDescriptor yX11_where.desc).map (fun d => d.parameters.length) = some 0 := by decide +kernel
theorem hdS_X11_isSlope : yX11_isSlope.cls ≠ "java/lang/invoke/MethodHandle" ∧ yX11_isSlope.cls ≠ "java/lang/invoke/VarHandle" ∧ (parseMethodDescriptor yX11_isSlope.desc).map (fun d => d.parameters.length) = some 1 := by decide +kernel
theorem hdV_X11_can : yX11_can.cls = RX11 ∧ yX11_can.cls ≠ "java/lang/invoke/MethodHandle" ∧ yX11_can.cls ≠ "java/lang/invoke/VarHandle" ∧ (parseMethodDescriptor yX11_can.desc).map (fun d => d.parameters.length) = some 3 := by decide +kernel
theorem hdV_X11_canOn : yX11_canOn.cls = RX11 ∧ yX11_canOn.cls ≠ "java/lang/invoke/MethodHandle" ∧ yX11_canOn.cls ≠ "java/lang/invoke/VarHandle" ∧ (parseMethodDescriptor yX11_canOn.desc).map (fun d => d.parameters.length) = some 3 := by decide +kernel
theorem hdV_X11_unknown : yX11_unknown.cls = RX11 ∧ yX11_unknown.cls ≠ "java/lang/invoke/MethodHandle" ∧ yX11_unknown.cls ≠ "java/lang/invoke/VarHandle" ∧ (parseMethodDescriptor yX11_unknown.desc).map (fun d => d.parameters.length) = some 1 := by decide +kernel
theorem hdV_X11_steepest : yX11_steepest.cls = RX11 ∧ yX11_steepest.cls ≠ "java/lang/invoke/MethodHandle" ∧ yX11_steepest.cls ≠ "java/lang/invoke/VarHandle" ∧ (parseMethodDescriptor yX11_steepest.desc).map (fun d => d.parameters.length) = some 3 := by decide +kernel
theorem hdV_X11_need : yX11_need.cls = RX11 ∧ yX11_need.cls ≠ "java/lang/invoke/MethodHandle" ∧ yX11_need.cls ≠ "java/lang/invoke/VarHandle" ∧ (parseMethodDescriptor yX11_need.desc).map (fun d => d.parameters.length) = some 3 := by decide +kernel
theorem hdV_X11_minutes : yX11_minutes.cls = RX11 ∧ yX11_minutes.cls ≠ "java/lang/invoke/MethodHandle" ∧ yX11_minutes.cls ≠ "java/lang/invoke/VarHandle" ∧ (parseMethodDescriptor yX11_minutes.desc).map (fun d => d.parameters.length) = some 4 := by decide +kernel
theorem hdV_X11_chance : yX11_chance.cls = RX11 ∧ yX11_chance.cls ≠ "java/lang/invoke/MethodHandle" ∧ yX11_chance.cls ≠ "java/lang/invoke/VarHandle" ∧ (parseMethodDescriptor yX11_chance.desc).map (fun d => d.parameters.length) = some 3 := by decide +kernel
theorem hdS_X11_isLie : yX11_isLie.cls ≠ "java/lang/invoke/MethodHandle" ∧ yX11_isLie.cls ≠ "java/lang/invoke/VarHandle" ∧ (parseMethodDescriptor yX11_isLie.desc).map (fun d => d.parameters.length) = some 1 := by decide +kernel
theorem hdV_X11_lying : yX11_lying.cls = RX11 ∧ yX11_lying.cls ≠ "java/lang/invoke/MethodHandle" ∧ yX11_lying.cls ≠ "java/lang/invoke/VarHandle" ∧ (parseMethodDescriptor yX11_lying.desc).map (fun d => d.parameters.length) = some 3 := by decide +kernel
theorem hdV_X11_easiest : yX11_easiest.cls = RX11 ∧ yX11_easiest.cls ≠ "java/lang/invoke/MethodHandle" ∧ yX11_easiest.cls ≠ "java/lang/invoke/VarHandle" ∧ (parseMethodDescriptor yX11_easiest.desc).map (fun d => d.parameters.length) = some 2 := by decide +kernel
theorem hdV_X11_denied : yX11_denied.cls = RX11 ∧ yX11_denied.cls ≠ "java/lang/invoke/MethodHandle" ∧ yX11_denied.cls ≠ "java/lang/invoke/VarHandle" ∧ (parseMethodDescriptor yX11_denied.desc).map (fun d => d.parameters.length) = some 1 := by decide +kernel
theorem hdV_X11_allowed : yX11_allowed.cls = RX11 ∧ yX11_allowed.cls ≠ "java/lang/invoke/MethodHandle" ∧ yX11_allowed.cls ≠ "java/lang/invoke/VarHandle" ∧ (parseMethodDescriptor yX11_allowed.desc).map (fun d => d.parameters.length) = some 0 := by decide +kernel
theorem hdV_X11_seed : yX11_seed.cls = RX11 ∧ yX11_seed.cls ≠ "java/lang/invoke/MethodHandle" ∧ yX11_seed.cls ≠ "java/lang/invoke/VarHandle" ∧ (parseMethodDescriptor yX11_seed.desc).map (fun d => d.parameters.length) = some 1 := by decide +kernel
theorem hdV_X11_move : yX11_move.cls = RX11 ∧ yX11_move.cls ≠ "java/lang/invoke/MethodHandle" ∧ yX11_move.cls ≠ "java/lang/invoke/VarHandle" ∧ (parseMethodDescriptor yX11_move.desc).map (fun d => d.parameters.length) = some 4 := by decide +kernel
theorem hdV_X11_step : yX11_step.cls = RX11 ∧ yX11_step.cls ≠ "java/lang/invoke/MethodHandle" ∧ yX11_step.cls ≠ "java/lang/invoke/VarHandle" ∧ (parseMethodDescriptor yX11_step.desc).map (fun d => d.parameters.length) = some 0 := by decide +kernel
theorem hdV_X11_call : yX11_call.cls = RX11 ∧ yX11_call.cls ≠ "java/lang/invoke/MethodHandle" ∧ yX11_call.cls ≠ "java/lang/invoke/VarHandle" ∧ (parseMethodDescriptor yX11_call.desc).map (fun d => d.parameters.length) = some 1 := by decide +kernel
theorem hdV_X11_at : yX11_at.cls = RX11 ∧ yX11_at.cls ≠ "java/lang/invoke/MethodHandle" ∧ yX11_at.cls ≠ "java/lang/invoke/VarHandle" ∧ (parseMethodDescriptor yX11_at.desc).map (fun d => d.parameters.length) = some 1 := by decide +kernel
theorem hdV_X11_tries : yX11_tries.cls = RX11 ∧ yX11_tries.cls ≠ "java/lang/invoke/MethodHandle" ∧ yX11_tries.cls ≠ "java/lang/invoke/VarHandle" ∧ (parseMethodDescriptor yX11_tries.desc).map (fun d => d.parameters.length) = some 1 := by decide +kernel
theorem hdV_X11_image : yX11_image.cls = RX11 ∧ yX11_image.cls ≠ "java/lang/invoke/MethodHandle" ∧ yX11_image.cls ≠ "java/lang/invoke/VarHandle" ∧ (parseMethodDescriptor yX11_image.desc).map (fun d => d.parameters.length) = some 0 := by decide +kernel
theorem hdV_X11_restore : yX11_restore.cls = RX11 ∧ yX11_restore.cls ≠ "java/lang/invoke/MethodHandle" ∧ yX11_restore.cls ≠ "java/lang/invoke/VarHandle" ∧ (parseMethodDescriptor yX11_restore.desc).map (fun d => d.parameters.length) = some 1 := by decide +kernel
theorem hdV_X11_odds : yX11_odds.cls = RX11 ∧ yX11_odds.cls ≠ "java/lang/invoke/MethodHandle" ∧ yX11_odds.cls ≠ "java/lang/invoke/VarHandle" ∧ (parseMethodDescriptor yX11_odds.desc).map (fun d => d.parameters.length) = some 1 := by decide +kernel
theorem hdV_X11_likeliest : yX11_likeliest.cls = RX11 ∧ yX11_likeliest.cls ≠ "java/lang/invoke/MethodHandle" ∧ yX11_likeliest.cls ≠ "java/lang/invoke/VarHandle" ∧ (parseMethodDescriptor yX11_likeliest.desc).map (fun d => d.parameters.length) = some 0 := by decide +kernel
theorem hdV_X11_lies : yX11_lies.cls = RX11 ∧ yX11_lies.cls ≠ "java/lang/invoke/MethodHandle" ∧ yX11_lies.cls ≠ "java/lang/invoke/VarHandle" ∧ (parseMethodDescriptor yX11_lies.desc).map (fun d => d.parameters.length) = some 2 := by decide +kernel
theorem hdV_X11_hollow : yX11_hollow.cls = RX11 ∧ yX11_hollow.cls ≠ "java/lang/invoke/MethodHandle" ∧ yX11_hollow.cls ≠ "java/lang/invoke/VarHandle" ∧ (parseMethodDescriptor yX11_hollow.desc).map (fun d => d.parameters.length) = some 2 := by decide +kernel
theorem hdV_X11_shape : yX11_shape.cls = RX11 ∧ yX11_shape.cls ≠ "java/lang/invoke/MethodHandle" ∧ yX11_shape.cls ≠ "java/lang/invoke/VarHandle" ∧ (parseMethodDescriptor yX11_shape.desc).map (fun d => d.parameters.length) = some 1 := by decide +kernel
theorem hdV_X11_changed : yX11_changed.cls = RX11 ∧ yX11_changed.cls ≠ "java/lang/invoke/MethodHandle" ∧ yX11_changed.cls ≠ "java/lang/invoke/VarHandle" ∧ (parseMethodDescriptor yX11_changed.desc).map (fun d => d.parameters.length) = some 0 := by decide +kernel
theorem hdV_X11_told : yX11_told.cls = RX11 ∧ yX11_told.cls ≠ "java/lang/invoke/MethodHandle" ∧ yX11_told.cls ≠ "java/lang/invoke/VarHandle" ∧ (parseMethodDescriptor yX11_told.desc).map (fun d => d.parameters.length) = some 2 := by decide +kernel
theorem hdV_X11_turn : yX11_turn.cls = RX11 ∧ yX11_turn.cls ≠ "java/lang/invoke/MethodHandle" ∧ yX11_turn.cls ≠ "java/lang/invoke/VarHandle" ∧ (parseMethodDescriptor yX11_turn.desc).map (fun d => d.parameters.length) = some 2 := by decide +kernel
theorem hdV_X11_hangs : yX11_hangs.cls = RX11 ∧ yX11_hangs.cls ≠ "java/lang/invoke/MethodHandle" ∧ yX11_hangs.cls ≠ "java/lang/invoke/VarHandle" ∧ (parseMethodDescriptor yX11_hangs.desc).map (fun d => d.parameters.length) = some 0 := by decide +kernel
theorem hdV_X11_tryout : yX11_tryout.cls = RX11 ∧ yX11_tryout.cls ≠ "java/lang/invoke/MethodHandle" ∧ yX11_tryout.cls ≠ "java/lang/invoke/VarHandle" ∧ (parseMethodDescriptor yX11_tryout.desc).map (fun d => d.parameters.length) = some 0 := by decide +kernel
theorem hdV_X11_people : yX11_people.cls = RX11 ∧ yX11_people.cls ≠ "java/lang/invoke/MethodHandle" ∧ yX11_people.cls ≠ "java/lang/invoke/VarHandle" ∧ (parseMethodDescriptor yX11_people.desc).map (fun d => d.parameters.length) = some 3 := by decide +kernel
theorem hdV_X11_takes : yX11_takes.cls = RX11 ∧ yX11_takes.cls ≠ "java/lang/invoke/MethodHandle" ∧ yX11_takes.cls ≠ "java/lang/invoke/VarHandle" ∧ (parseMethodDescriptor yX11_takes.desc).map (fun d => d.parameters.length) = some 3 := by decide +kernel
theorem hdV_X11_off : yX11_off.cls = RX11 ∧ yX11_off.cls ≠ "java/lang/invoke/MethodHandle" ∧ yX11_off.cls ≠ "java/lang/invoke/VarHandle" ∧ (parseMethodDescriptor yX11_off.desc).map (fun d => d.parameters.length) = some 1 := by decide +kernel
theorem hdV_X11_wood : yX11_wood.cls = RX11 ∧ yX11_wood.cls ≠ "java/lang/invoke/MethodHandle" ∧ yX11_wood.cls ≠ "java/lang/invoke/VarHandle" ∧ (parseMethodDescriptor yX11_wood.desc).map (fun d => d.parameters.length) = some 1 := by decide +kernel
theorem hdV_X11_enough : yX11_enough.cls = RX11 ∧ yX11_enough.cls ≠ "java/lang/invoke/MethodHandle" ∧ yX11_enough.cls ≠ "java/lang/invoke/VarHandle" ∧ (parseMethodDescriptor yX11_enough.desc).map (fun d => d.parameters.length) = some 1 := by decide +kernel
theorem hdS_X11_isYear : yX11_isYear.cls ≠ "java/lang/invoke/MethodHandle" ∧ yX11_isYear.cls ≠ "java/lang/invoke/VarHandle" ∧ (parseMethodDescriptor yX11_isYear.desc).map (fun d => d.parameters.length) = some 1 := by decide +kernel
theorem hdV_X11_trees : yX11_trees.cls = RX11 ∧ yX11_trees.cls ≠ "java/lang/invoke/MethodHandle" ∧ yX11_trees.cls ≠ "java/lang/invoke/VarHandle" ∧ (parseMethodDescriptor yX11_trees.desc).map (fun d => d.parameters.length) = some 2 := by decide +kernel
theorem hdV_X11_see : yX11_see.cls = RX11 ∧ yX11_see.cls ≠ "java/lang/invoke/MethodHandle" ∧ yX11_see.cls ≠ "java/lang/invoke/VarHandle" ∧ (parseMethodDescriptor yX11_see.desc).map (fun d => d.parameters.length) = some 3 := by decide +kernel
theorem hdV_X11_forget : yX11_forget.cls = RX11 ∧ yX11_forget.cls ≠ "java/lang/invoke/MethodHandle" ∧ yX11_forget.cls ≠ "java/lang/invoke/VarHandle" ∧ (parseMethodDescriptor yX11_forget.desc).map (fun d => d.parameters.length) = some 0 := by decide +kernel
theorem hdV_X11_landTrouble : yX11_landTrouble.cls = RX11 ∧ yX11_landTrouble.cls ≠ "java/lang/invoke/MethodHandle" ∧ yX11_landTrouble.cls ≠ "java/lang/invoke/VarHandle" ∧ (parseMethodDescriptor yX11_landTrouble.desc).map (fun d => d.parameters.length) = some 0 := by decide +kernel
theorem hdV_X11_fits : yX11_fits.cls = RX11 ∧ yX11_fits.cls ≠ "java/lang/invoke/MethodHandle" ∧ yX11_fits.cls ≠ "java/lang/invoke/VarHandle" ∧ (parseMethodDescriptor yX11_fits.desc).map (fun d => d.parameters.length) = some 0 := by decide +kernel
theorem hdV_X11_weight : yX11_weight.cls = RX11 ∧ yX11_weight.cls ≠ "java/lang/invoke/MethodHandle" ∧ yX11_weight.cls ≠ "java/lang/invoke/VarHandle" ∧ (parseMethodDescriptor yX11_weight.desc).map (fun d => d.parameters.length) = some 0 := by decide +kernel
theorem hdV_X11_gone : yX11_gone.cls = RX11 ∧ yX11_gone.cls ≠ "java/lang/invoke/MethodHandle" ∧ yX11_gone.cls ≠ "java/lang/invoke/VarHandle" ∧ (parseMethodDescriptor yX11_gone.desc).map (fun d => d.parameters.length) = some 1 := by decide +kernel
theorem hdV_X11_dig : yX11_dig.cls = RX11 ∧ yX11_dig.cls ≠ "java/lang/invoke/MethodHandle" ∧ yX11_dig.cls ≠ "java/lang/invoke/VarHandle" ∧ (parseMethodDescriptor yX11_dig.desc).map (fun d => d.parameters.length) = some 0 := by decide +kernel
theorem hdV_X11_lived : yX11_lived.cls = RX11 ∧ yX11_lived.cls ≠ "java/lang/invoke/MethodHandle" ∧ yX11_lived.cls ≠ "java/lang/invoke/VarHandle" ∧ (parseMethodDescriptor yX11_lived.desc).map (fun d => d.parameters.length) = some 1 := by decide +kernel
theorem hdV_X11_size : yX11_size.cls = RX11 ∧ yX11_size.cls ≠ "java/lang/invoke/MethodHandle" ∧ yX11_size.cls ≠ "java/lang/invoke/VarHandle" ∧ (parseMethodDescriptor yX11_size.desc).map (fun d => d.parameters.length) = some 1 := by decide +kernel
theorem hdV_X11_statue : yX11_statue.cls = RX11 ∧ yX11_statue.cls ≠ "java/lang/invoke/MethodHandle" ∧ yX11_statue.cls ≠ "java/lang/invoke/VarHandle" ∧ (parseMethodDescriptor yX11_statue.desc).map (fun d => d.parameters.length) = some 2 := by decide +kernel
theorem hdV_X11_trouble : yX11_trouble.cls = RX11 ∧ yX11_trouble.cls ≠ "java/lang/invoke/MethodHandle" ∧ yX11_trouble.cls ≠ "java/lang/invoke/VarHandle" ∧ (parseMethodDescriptor yX11_trouble.desc).map (fun d => d.parameters.length) = some 0 := by decide +kernel
set_option maxHeartbeats 4000000 in
set_option maxRecDepth 100000 in
theorem c_X11_feed {l : Launch} {D : va_G} {ad : Nat → Nat} {cy : Nat → ClassId} {A : Nat → Prop} {g : CG} {q : SE} (M : MM) (a0 : Nat) (x1 : Int32) (x2 : Int32) (x3 : Int32) (x4 : Int32) (x5 : Int32) (k0 : ok g a0 11 0) {Z : (Int32 × MM)} (h : f_X11_feed M a0 x1 x2 x3 x4 x5 = some Z) : Met l yX11_feed wsX11_feed ({ frames := 1, cells := 0, slots := 0, locals := 22 }) (va_Pc [.ref (ad a0), .int x1, .int x2, .int x3, .int x4, .int x5] (Wd D ad cy A g q M)) (va_Qi (fun r u => r = Z.1 ∧ u = Z.2) (Wd D ad cy A g q) A) 0 0 A := by
  refine Met.ofW (cc := cX11_feed) (maxL := 6) (ret := (some .int)) (by decide) rfl ?_
  intro p e s m args below meth c s₁ B hml hv
  obtain ⟨rfl, hP, hK, hD, hT, hG⟩ := hv
  have hx := B.exec
  have hb := B.bytes
  have hr := B.returns
  have hts := atoms_spec (ws := wsX11_feed) B.pre
  have hown : s.vm.findClass RX11 = some m.cls := findClass_of_methodNamed B.named
  have hlocks := B.notSynchronized
  have in7 : ∀ w ∈ u_ws RX7 TX7 7, w ∈ wsX11_feed := fun w h => List.mem_cons_of_mem _ (List.mem_append_right _ h)
  have in11 : ∀ w ∈ u_ws RX11 TX11 8, w ∈ wsX11_feed := fun w h => List.mem_cons_of_mem _ (List.mem_append_left _ (List.mem_append_right _ h))
  have hS : va_S A s.heap s.heap [] := va_S.rf
  have hl := lv_entry ([.ref (ad a0), .int x1, .int x2, .int x3, .int x4, .int x5]) (n := 6) (Nat.le_of_ble_eq_true rfl)
  rw [lg_entry_eq]
  generalize (lg_sl ([.ref (ad a0), .int x1, .int x2, .int x3, .int x4, .int x5]) ++ List.replicate (6 - (lg_sl ([.ref (ad a0), .int x1, .int x2, .int x3, .int x4, .int x5])).length) Slot.unset).toArray = ls at hl ⊢
  have hl : lv_has ls 6 [(0, .ref (ad a0)), (1, .int x1), (2, .int x2), (3, .int x3), (4, .int x4), (5, .int x5)] := hl
  unfold f_X11_feed at h
  refine lv_aload_n hx hb dX11_feed_0 rfl (lv_at hl 0 rfl) ?_
  rcases hN1 : gR M a0 0 with _ | b1
  · exact absurd (oc_n hN1 h) (by simp)
  replace h := oc_s hN1 h
  have kb1 := hT.f k0 (k := 0) (t := 7) (n := 0) rfl hN1
  refine r_get (T := TX11) (v := .ref (ad b1)) hx hb hts in11 hown hK hP k0 (by decide) rfl 0 (by decide) (hts (.fieldLink RX11 10 "StoneWalk" "tape" "LStoneWalk$Tape;") (List.mem_of_getElem? (i := 1) (by decide +kernel))) rfl (t := 2) rfl (by show va_rf _ = _; rw [hN1]; rfl) dX11_feed_1 ?_
  refine lv_bipush (v := 20) hx hb dX11_feed_4 rfl ?_
  obtain ⟨z2, h2, h⟩ := ob_some h
  refine k_z (va_runV (As := [.int 20]) (rest := []) ⟨hx, hb, hml, hown, hts⟩ (c_X7_hasRoomFor (l := l) M b1 20 kb1 h2) (cwV 1 hts gX11_feed_X7_hasRoomFor rfl rfl rfl hdV_X7_hasRoomFor ⟨Nat.le_of_ble_eq_true rfl, Nat.le_of_ble_eq_true rfl⟩) (pV (T := TX7) hP hK hD hT hG hS kb1 (by decide) rfl) rfl rfl hl.1 rfl (lv_room (Nat.le_of_ble_eq_true rfl)) dX11_feed_6 ⟨Nat.zero_le _, Nat.zero_le _⟩) hS (fun H locs hz2 hP hD hT hS => ?_)
  refine lv_if_ne (tgt := 14) hx hb dX11_feed_9 rfl (fun c3 => ?_) (fun c3 => ?_)
  · replace h := ite_f c3 h
    refine lv_aload_n hx hb dX11_feed_14 rfl (lv_at hl 0 rfl) ?_
    rcases hN4 : gR M a0 0 with _ | b4
    · exact absurd (oc_n hN4 h) (by simp)
    replace h := oc_s hN4 h
    have kb4 := hT.f k0 (k := 0) (t := 7) (n := 0) rfl hN4
    refine r_get (T := TX11) (v := .ref (ad b4)) hx hb hts in11 hown hK hP k0 (by decide) rfl 0 (by decide) (hts (.fieldLink RX11 10 "StoneWalk" "tape" "LStoneWalk$Tape;") (List.mem_of_getElem? (i := 1) (by decide +kernel))) rfl (t := 2) rfl (by show va_rf _ = _; rw [hN4]; rfl) dX11_feed_15 ?_
    refine lv_iload_n hx hb dX11_feed_18 rfl (lv_at hl 1 rfl) ?_
    obtain ⟨z5, h5, h⟩ := ob_some h
    refine k_v (va_runV (As := [.int x1]) (rest := []) ⟨hx, hb, hml, hown, hts⟩ (c_X7_put (l := l) M b4 x1 kb4 h5) (cwV 1 hts gX11_feed_X7_put rfl rfl rfl hdV_X7_put ⟨Nat.le_of_ble_eq_true rfl, Nat.le_of_ble_eq_true rfl⟩) (pV (T := TX7) hP hK hD hT hG hS kb4 (by decide) rfl) rfl rfl hl.1 rfl (lv_room (Nat.le_of_ble_eq_true rfl)) dX11_feed_19 ⟨Nat.zero_le _, Nat.zero_le _⟩) hS (fun H locs hP hD hT hS => ?_)
    refine lv_aload_n hx hb dX11_feed_22 rfl (lv_at hl 0 rfl) ?_
    rcases hN6 : gR z5 a0 0 with _ | b6
    · exact absurd (oc_n hN6 h) (by simp)
    replace h := oc_s hN6 h
    have kb6 := hT.f k0 (k := 0) (t := 7) (n := 0) rfl hN6
    refine r_get (T := TX11) (v := .ref (ad b6)) hx hb hts in11 hown hK hP k0 (by decide) rfl 0 (by decide) (hts (.fieldLink RX11 10 "StoneWalk" "tape" "LStoneWalk$Tape;") (List.mem_of_getElem? (i := 1) (by decide +kernel))) rfl (t := 2) rfl (by show va_rf _ = _; rw [hN6]; rfl) dX11_feed_23 ?_
    refine lv_iload_n hx hb dX11_feed_26 rfl (lv_at hl 2 rfl) ?_
    obtain ⟨z7, h7, h⟩ := ob_some h
    refine k_v (va_runV (As := [.int x2]) (rest := []) ⟨hx, hb, hml, hown, hts⟩ (c_X7_put (l := l) z5 b6 x2 kb6 h7) (cwV 1 hts gX11_feed_X7_put rfl rfl rfl hdV_X7_put ⟨Nat.le_of_ble_eq_true rfl, Nat.le_of_ble_eq_true rfl⟩) (pV (T := TX7) hP hK hD hT hG hS kb6 (by decide) rfl) rfl rfl hl.1 rfl (lv_room (Nat.le_of_ble_eq_true rfl)) dX11_feed_27 ⟨Nat.zero_le _, Nat.zero_le _⟩) hS (fun H locs hP hD hT hS => ?_)
    refine lv_aload_n hx hb dX11_feed_30 rfl (lv_at hl 0 rfl) ?_
    rcases hN8 : gR z7 a0 0 with _ | b8
    · exact absurd (oc_n hN8 h) (by simp)
    replace h := oc_s hN8 h
    have kb8 := hT.f k0 (k := 0) (t := 7) (n := 0) rfl hN8
    refine r_get (T := TX11) (v := .ref (ad b8)) hx hb hts in11 hown hK hP k0 (by decide) rfl 0 (by decide) (hts (.fieldLink RX11 10 "StoneWalk" "tape" "LStoneWalk$Tape;") (List.mem_of_getElem? (i := 1) (by decide +kernel))) rfl (t := 2) rfl (by show va_rf _ = _; rw [hN8]; rfl) dX11_feed_31 ?_
    refine lv_iload_n hx hb dX11_feed_34 rfl (lv_at hl 3 rfl) ?_
    obtain ⟨z9, h9, h⟩ := ob_some h
    refine k_v (va_runV (As := [.int x3]) (rest := []) ⟨hx, hb, hml, hown, hts⟩ (c_X7_put (l := l) z7 b8 x3 kb8 h9) (cwV 1 hts gX11_feed_X7_put rfl rfl rfl hdV_X7_put ⟨Nat.le_of_ble_eq_true rfl, Nat.le_of_ble_eq_true rfl⟩) (pV (T := TX7) hP hK hD hT hG hS kb8 (by decide) rfl) rfl rfl hl.1 rfl (lv_room (Nat.le_of_ble_eq_true rfl)) dX11_feed_35 ⟨Nat.zero_le _, Nat.zero_le _⟩) hS (fun H locs hP hD hT hS => ?_)
    refine lv_aload_n hx hb dX11_feed_38 rfl (lv_at hl 0 rfl) ?_
    rcases hN10 : gR z9 a0 0 with _ | b10
    · exact absurd (oc_n hN10 h) (by simp)
    replace h := oc_s hN10 h
    have kb10 := hT.f k0 (k := 0) (t := 7) (n := 0) rfl hN10
    refine r_get (T := TX11) (v := .ref (ad b10)) hx hb hts in11 hown hK hP k0 (by decide) rfl 0 (by decide) (hts (.fieldLink RX11 10 "StoneWalk" "tape" "LStoneWalk$Tape;") (List.mem_of_getElem? (i := 1) (by decide +kernel))) rfl (t := 2) rfl (by show va_rf _ = _; rw [hN10]; rfl) dX11_feed_39 ?_
    refine lv_iload hx hb dX11_feed_42 (lv_at hl 4 rfl) ?_
    obtain ⟨z11, h11, h⟩ := ob_some h
    refine k_v (va_runV (As := [.int x4]) (rest := []) ⟨hx, hb, hml, hown, hts⟩ (c_X7_put (l := l) z9 b10 x4 kb10 h11) (cwV 1 hts gX11_feed_X7_put rfl rfl rfl hdV_X7_put ⟨Nat.le_of_ble_eq_true rfl, Nat.le_of_ble_eq_true rfl⟩) (pV (T := TX7) hP hK hD hT hG hS kb10 (by decide) rfl) rfl rfl hl.1 rfl (lv_room (Nat.le_of_ble_eq_true rfl)) dX11_feed_44 ⟨Nat.zero_le _, Nat.zero_le _⟩) hS (fun H locs hP hD hT hS => ?_)
    refine lv_aload_n hx hb dX11_feed_47 rfl (lv_at hl 0 rfl) ?_
    rcases hN12 : gR z11 a0 0 with _ | b12
    · exact absurd (oc_n hN12 h) (by simp)
    replace h := oc_s hN12 h
    have kb12 := hT.f k0 (k := 0) (t := 7) (n := 0) rfl hN12
    refine r_get (T := TX11) (v := .ref (ad b12)) hx hb hts in11 hown hK hP k0 (by decide) rfl 0 (by decide) (hts (.fieldLink RX11 10 "StoneWalk" "tape" "LStoneWalk$Tape;") (List.mem_of_getElem? (i := 1) (by decide +kernel))) rfl (t := 2) rfl (by show va_rf _ = _; rw [hN12]; rfl) dX11_feed_48 ?_
    refine lv_iload hx hb dX11_feed_51 (lv_at hl 5 rfl) ?_
    obtain ⟨z13, h13, h⟩ := ob_some h
    refine k_v (va_runV (As := [.int x5]) (rest := []) ⟨hx, hb, hml, hown, hts⟩ (c_X7_put (l := l) z11 b12 x5 kb12 h13) (cwV 1 hts gX11_feed_X7_put rfl rfl rfl hdV_X7_put ⟨Nat.le_of_ble_eq_true rfl, Nat.le_of_ble_eq_true rfl⟩) (pV (T := TX7) hP hK hD hT hG hS kb12 (by decide) rfl) rfl rfl hl.1 rfl (lv_room (Nat.le_of_ble_eq_true rfl)) dX11_feed_53 ⟨Nat.zero_le _, Nat.zero_le _⟩) hS (fun H locs hP hD hT hS => ?_)
    refine lv_aload_n hx hb dX11_feed_56 rfl (lv_at hl 0 rfl) ?_
    rcases hN14 : gR z13 a0 0 with _ | b14
    · exact absurd (oc_n hN14 h) (by simp)
    replace h := oc_s hN14 h
    have kb14 := hT.f k0 (k := 0) (t := 7) (n := 0) rfl hN14
    refine r_get (T := TX11) (v := .ref (ad b14)) hx hb hts in11 hown hK hP k0 (by decide) rfl 0 (by decide) (hts (.fieldLink RX11 10 "StoneWalk" "tape" "LStoneWalk$Tape;") (List.mem_of_getElem? (i := 1) (by decide +kernel))) rfl (t := 2) rfl (by show va_rf _ = _; rw [hN14]; rfl) dX11_feed_57 ?_
    refine r_get (T := TX7) (v := .int (gI z13 b14 1)) hx hb hts in7 hown hK hP kb14 (by decide) rfl 1 (by decide) (hts (.fieldLink RX11 64 "StoneWalk$Tape" "held" "I") (List.mem_of_getElem? (i := 2) (by decide +kernel))) rfl (t := 0) rfl rfl dX11_feed_60 ?_
    have hZ := Option.some.inj h
    have hZ1 := congrArg Prod.fst hZ
    have hZ2 := congrArg Prod.snd hZ
    exact r_iret hx hb hr hlocks hP hK hD hT hG hS hZ1 hZ2 dX11_feed_63
  · replace h := ite_t c3 h
    refine lv_iconst (v := (-1)) hx hb dX11_feed_12 rfl ?_
    have hZ := Option.some.inj h
    have hZ1 := congrArg Prod.fst hZ
    have hZ2 := congrArg Prod.snd hZ
    exact r_iret hx hb hr hlocks hP hK hD hT hG hS hZ1 hZ2 dX11_feed_13
set_option maxHeartbeats 4000000 in
set_option maxRecDepth 100000 in
theorem c_X11_refused {l : Launch} {D : va_G} {ad : Nat → Nat} {cy : Nat → ClassId} {A : Nat → Prop} {g : CG} {q : SE} (M : MM) (a0 : Nat) (x1 : Int32) (k0 : ok g a0 11 0) {Z : (Int32 × MM)} (h : f_X11_refused M a0 x1 = some Z) : Met l yX11_refused wsX11_refused ({ frames := 0, cells := 0, slots := 0, locals := 0 }) (va_Pc [.ref (ad a0), .int x1] (Wd D ad cy A g q M)) (va_Qi (fun r u => r = Z.1 ∧ u = Z.2) (Wd D ad cy A g q) A) 0 0 A := by
  refine Met.ofW (cc := cX11_refused) (maxL := 2) (ret := (some .int)) (by decide) rfl ?_
  intro p e s m args below meth c s₁ B hml hv
  obtain ⟨rfl, hP, hK, hD, hT, hG⟩ := hv
  have hx := B.exec
  have hb := B.bytes
  have hr := B.returns
  have hts := atoms_spec (ws := wsX11_refused) B.pre
  have hown : s.vm.findClass RX11 = some m.cls := findClass_of_methodNamed B.named
  have hlocks := B.notSynchronized
  have in11 : ∀ w ∈ u_ws RX11 TX11 8, w ∈ wsX11_refused := fun w h => List.mem_cons_of_mem _ (List.mem_append_right _ h)
  have hS : va_S A s.heap s.heap [] := va_S.rf
  have hl := lv_entry ([.ref (ad a0), .int x1]) (n := 2) (Nat.le_of_ble_eq_true rfl)
  rw [lg_entry_eq]
  generalize (lg_sl ([.ref (ad a0), .int x1]) ++ List.replicate (2 - (lg_sl ([.ref (ad a0), .int x1])).length) Slot.unset).toArray = ls at hl ⊢
  have hl : lv_has ls 2 [(0, .ref (ad a0)), (1, .int x1)] := hl
  unfold f_X11_refused at h
  refine lv_aload_n hx hb dX11_refused_0 rfl (lv_at hl 0 rfl) ?_
  refine lv_iload_n hx hb dX11_refused_1 rfl (lv_at hl 1 rfl) ?_
  refine r_putI (T := TX11) (ty := .int) (v := x1) hx hb hts in11 tyX11 tyX11_ok nmX11 hown hK hP hD hT hS k0 (by decide) rfl 7 (by decide) (hts (.fieldLink RX11 52 "StoneWalk" "trouble" "I") (List.mem_of_getElem? (i := 1) (by decide +kernel))) rfl rfl (tyX11_ok 7 (by decide)) rfl rfl rfl dX11_refused_2 (fun H locs hP hD hT hS => ?_)
  refine lv_iconst (v := (-1)) hx hb dX11_refused_5 rfl ?_
  have hZ := Option.some.inj h
  have hZ1 := congrArg Prod.fst hZ
  have hZ2 := congrArg Prod.snd hZ
  exact r_iret hx hb hr hlocks hP hK hD hT hG hS hZ1 hZ2 dX11_refused_6
set_option maxHeartbeats 4000000 in
set_option maxRecDepth 100000 in
theorem c_X11_granted {l : Launch} {D : va_G} {ad : Nat → Nat} {cy : Nat → ClassId} {A : Nat → Prop} {g : CG} {q : SE} (M : MM) (a0 : Nat) (x1 : Int32) (k0 : ok g a0 11 0) {Z : (Int32 × MM)} (h : f_X11_granted M a0 x1 = some Z) : Met l yX11_granted wsX11_granted ({ frames := 0, cells := 0, slots := 0, locals := 0 }) (va_Pc [.ref (ad a0), .int x1] (Wd D ad cy A g q M)) (va_Qi (fun r u => r = Z.1 ∧ u = Z.2) (Wd D ad cy A g q) A) 0 0 A := by
  refine Met.ofW (cc := cX11_granted) (maxL := 2) (ret := (some .int)) (by decide) rfl ?_
  intro p e s m args below meth c s₁ B hml hv
  obtain ⟨rfl, hP, hK, hD, hT, hG⟩ := hv
  have hx := B.exec
  have hb := B.bytes
  have hr := B.returns
  have hts := atoms_spec (ws := wsX11_granted) B.pre
  have hown : s.vm.findClass RX11 = some m.cls := findClass_of_methodNamed B.named
  have hlocks := B.notSynchronized
  have in11 : ∀ w ∈ u_ws RX11 TX11 8, w ∈ wsX11_granted := fun w h => List.mem_cons_of_mem _ (List.mem_append_right _ h)
  have hS : va_S A s.heap s.heap [] := va_S.rf
  have hl := lv_entry ([.ref (ad a0), .int x1]) (n := 2) (Nat.le_of_ble_eq_true rfl)
  rw [lg_entry_eq]
  generalize (lg_sl ([.ref (ad a0), .int x1]) ++ List.replicate (2 - (lg_sl ([.ref (ad a0), .int x1])).length) Slot.unset).toArray = ls at hl ⊢
  have hl : lv_has ls 2 [(0, .ref (ad a0)), (1, .int x1)] := hl
  unfold f_X11_granted at h
  refine lv_aload_n hx hb dX11_granted_0 rfl (lv_at hl 0 rfl) ?_
  refine lv_iconst (v := 0) hx hb dX11_granted_1 rfl ?_
  refine r_putI (T := TX11) (ty := .int) (v := 0) hx hb hts in11 tyX11 tyX11_ok nmX11 hown hK hP hD hT hS k0 (by decide) rfl 7 (by decide) (hts (.fieldLink RX11 52 "StoneWalk" "trouble" "I") (List.mem_of_getElem? (i := 1) (by decide +kernel))) rfl rfl (tyX11_ok 7 (by decide)) rfl rfl rfl dX11_granted_2 (fun H locs hP hD hT hS => ?_)
  refine lv_iload_n hx hb dX11_granted_5 rfl (lv_at hl 1 rfl) ?_
  have hZ := Option.some.inj h
  have hZ1 := congrArg Prod.fst hZ
  have hZ2 := congrArg Prod.snd hZ
  exact r_iret hx hb hr hlocks hP hK hD hT hG hS hZ1 hZ2 dX11_granted_6
set_option maxHeartbeats 4000000 in
set_option maxRecDepth 100000 in
theorem c_X11_island {l : Launch} {D : va_G} {ad : Nat → Nat} {cy : Nat → ClassId} {A : Nat → Prop} {g : CG} {q : SE} (M : MM) (a0 : Nat) (x1 : Int32) (k0 : ok g a0 11 0) {Z : (Int32 × MM)} (h : f_X11_island M a0 x1 = some Z) : Met l yX11_island wsX11_island ({ frames := 10, cells := 0, slots := 0, locals := 225 }) (va_Pc [.ref (ad a0), .int x1] (Wd D ad cy A g q M)) (va_Qi (fun r u => r = Z.1 ∧ u = Z.2) (Wd D ad cy A g q) A) 0 0 A := by
  refine Met.ofW (cc := cX11_island) (maxL := 4) (ret := (some .int)) (by decide) rfl ?_
  intro p e s m args below meth c s₁ B hml hv
  obtain ⟨rfl, hP, hK, hD, hT, hG⟩ := hv
  have hx := B.exec
  have hb := B.bytes
  have hr := B.returns
  have hts := atoms_spec (ws := wsX11_island) B.pre
  have hown : s.vm.findClass RX11 = some m.cls := findClass_of_methodNamed B.named
  have hlocks := B.notSynchronized
  have in7 : ∀ w ∈ u_ws RX7 TX7 7, w ∈ wsX11_island := fun w h => List.mem_cons_of_mem _ (List.mem_append_left _ (List.mem_append_left _ (List.mem_append_left _ (List.mem_append_left _ (List.mem_append_left _ (List.mem_append_left _ (List.mem_append_left _ (List.mem_append_left _ (List.mem_append_left _ (List.mem_append_left _ (List.mem_append_right _ h)))))))))))
  have in11 : ∀ w ∈ u_ws RX11 TX11 8, w ∈ wsX11_island := fun w h => List.mem_cons_of_mem _ (List.mem_append_left _ (List.mem_append_left _ (List.mem_append_left _ (List.mem_append_left _ (List.mem_append_left _ (List.mem_append_left _ (List.mem_append_left _ (List.mem_append_left _ (List.mem_append_left _ (List.mem_append_left _ (List.mem_append_left _ (List.mem_append_right _ h))))))))))))
  have hS : va_S A s.heap s.heap [] := va_S.rf
  have hl := lv_entry ([.ref (ad a0), .int x1]) (n := 4) (Nat.le_of_ble_eq_true rfl)
  rw [lg_entry_eq]
  generalize (lg_sl ([.ref (ad a0), .int x1]) ++ List.replicate (4 - (lg_sl ([.ref (ad a0), .int x1])).length) Slot.unset).toArray = ls at hl ⊢
  have hl : lv_has ls 4 [(0, .ref (ad a0)), (1, .int x1)] := hl
  unfold f_X11_island at h
  refine lv_iload_n hx hb dX11_island_0 rfl (lv_at hl 1 rfl) ?_
  refine lv_if_lt (tgt := 15) hx hb dX11_island_1 rfl (fun c1 => ?_) (fun c1 => ?_)
  · replace h := ite_t c1 h
    refine lv_aload_n hx hb dX11_island_15 rfl (lv_at hl 0 rfl) ?_
    refine lv_iconst (v := 2) hx hb dX11_island_16 rfl ?_
    obtain ⟨z2, h2, h⟩ := ob_some h
    refine k_i (va_runV (As := [.int 2]) (rest := []) ⟨hx, hb, hml, hown, hts⟩ (c_X11_refused (l := l) M a0 2 k0 h2) (cwV 1 hts gX11_island_X11_refused rfl rfl rfl hdV_X11_refused ⟨Nat.le_of_ble_eq_true rfl, Nat.le_of_ble_eq_true rfl⟩) (pV (T := TX11) hP hK hD hT hG hS k0 (by decide) rfl) rfl rfl hl.1 rfl (lv_room (Nat.le_of_ble_eq_true rfl)) dX11_island_17 ⟨Nat.zero_le _, Nat.zero_le _⟩) hS (fun H locs hP hD hT hS => ?_)
    have hZ := Option.some.inj h
    have hZ1 := congrArg Prod.fst hZ
    have hZ2 := congrArg Prod.snd hZ
    exact r_iret hx hb hr hlocks hP hK hD hT hG hS hZ1 hZ2 dX11_island_20
  · replace h := ite_f c1 h
    refine lv_iload_n hx hb dX11_island_4 rfl (lv_at hl 1 rfl) ?_
    refine lv_aload_n hx hb dX11_island_5 rfl (lv_at hl 0 rfl) ?_
    rcases hN3 : gR M a0 0 with _ | b3
    · exact absurd (oc_n hN3 h) (by simp)
    replace h := oc_s hN3 h
    have kb3 := hT.f k0 (k := 0) (t := 7) (n := 0) rfl hN3
    refine r_get (T := TX11) (v := .ref (ad b3)) hx hb hts in11 hown hK hP k0 (by decide) rfl 0 (by decide) (hts (.fieldLink RX11 10 "StoneWalk" "tape" "LStoneWalk$Tape;") (List.mem_of_getElem? (i := 1) (by decide +kernel))) rfl (t := 2) rfl (by show va_rf _ = _; rw [hN3]; rfl) dX11_island_6 ?_
    refine r_get (T := TX7) (v := .int (gI M b3 1)) hx hb hts in7 hown hK hP kb3 (by decide) rfl 1 (by decide) (hts (.fieldLink RX11 64 "StoneWalk$Tape" "held" "I") (List.mem_of_getElem? (i := 2) (by decide +kernel))) rfl (t := 0) rfl rfl dX11_island_9 ?_
    refine lv_icmp_le (tgt := 21) hx hb dX11_island_12 rfl (fun c4 => ?_) (fun c4 => ?_)
    · replace h := ite_t c4 h
      refine lv_aload_n hx hb dX11_island_21 rfl (lv_at hl 0 rfl) ?_
      rcases hN5 : gR M a0 1 with _ | b5
      · exact absurd (oc_n hN5 h) (by simp)
      replace h := oc_s hN5 h
      have kb5 := hT.f k0 (k := 1) (t := 2) (n := 0) rfl hN5
      refine r_get (T := TX11) (v := .ref (ad b5)) hx hb hts in11 hown hK hP k0 (by decide) rfl 1 (by decide) (hts (.fieldLink RX11 21 "StoneWalk" "reader" "LStoneWalk$Reader;") (List.mem_of_getElem? (i := 3) (by decide +kernel))) rfl (t := 2) rfl (by show va_rf _ = _; rw [hN5]; rfl) dX11_island_22 ?_
      refine lv_iload_n hx hb dX11_island_25 rfl (lv_at hl 1 rfl) ?_
      refine lv_aload_n hx hb dX11_island_26 rfl (lv_at hl 0 rfl) ?_
      rcases hN6 : gR M a0 6 with _ | b6
      · exact absurd (oc_n hN6 h) (by simp)
      replace h := oc_s hN6 h
      have kb6 := hT.f k0 (k := 6) (t := 0) (n := 0) rfl hN6
      refine r_get (T := TX11) (v := .ref (ad b6)) hx hb hts in11 hown hK hP k0 (by decide) rfl 6 (by decide) (hts (.fieldLink RX11 49 "StoneWalk" "spare" "LStoneWalk$Island;") (List.mem_of_getElem? (i := 4) (by decide +kernel))) rfl (t := 2) rfl (by show va_rf _ = _; rw [hN6]; rfl) dX11_island_27 ?_
      obtain ⟨z7, h7, h⟩ := ob_some h
      refine k_z (va_runV (As := [.int x1, .ref (ad b6)]) (rest := []) ⟨hx, hb, hml, hown, hts⟩ (c_X2_readIsland (l := l) M b5 x1 b6 kb5 kb6 h7) (cwV 2 hts gX11_island_X2_readIsland rfl rfl rfl hdV_X2_readIsland ⟨Nat.le_of_ble_eq_true rfl, Nat.le_of_ble_eq_true rfl⟩) (pV (T := TX2) hP hK hD hT hG hS kb5 (by decide) rfl) rfl rfl hl.1 rfl (lv_room (Nat.le_of_ble_eq_true rfl)) dX11_island_30 ⟨Nat.zero_le _, Nat.zero_le _⟩) hS (fun H locs hz7 hP hD hT hS => ?_)
      refine lv_istore_n (lv' := [(2, .int z7.1), (0, .ref (ad a0)), (1, .int x1)]) hx hb dX11_island_33 rfl hl (by decide) rfl (fun ls hl => ?_)
      refine lv_aload_n hx hb dX11_island_34 rfl (lv_at hl 1 rfl) ?_
      rcases hN8 : gR z7.2 a0 0 with _ | b8
      · exact absurd (oc_n hN8 h) (by simp)
      replace h := oc_s hN8 h
      have kb8 := hT.f k0 (k := 0) (t := 7) (n := 0) rfl hN8
      refine r_get (T := TX11) (v := .ref (ad b8)) hx hb hts in11 hown hK hP k0 (by decide) rfl 0 (by decide) (hts (.fieldLink RX11 10 "StoneWalk" "tape" "LStoneWalk$Tape;") (List.mem_of_getElem? (i := 1) (by decide +kernel))) rfl (t := 2) rfl (by show va_rf _ = _; rw [hN8]; rfl) dX11_island_35 ?_
      obtain ⟨z9, h9, h⟩ := ob_some h
      refine k_v (va_runV (As := []) (rest := []) ⟨hx, hb, hml, hown, hts⟩ (c_X7_empty (l := l) z7.2 b8 kb8 h9) (cwV 0 hts gX11_island_X7_empty rfl rfl rfl hdV_X7_empty ⟨Nat.le_of_ble_eq_true rfl, Nat.le_of_ble_eq_true rfl⟩) (pV (T := TX7) hP hK hD hT hG hS kb8 (by decide) rfl) rfl rfl hl.1 rfl (lv_room (Nat.le_of_ble_eq_true rfl)) dX11_island_38 ⟨Nat.zero_le _, Nat.zero_le _⟩) hS (fun H locs hP hD hT hS => ?_)
      refine lv_iload_n hx hb dX11_island_41 rfl (lv_at hl 0 rfl) ?_
      refine lv_if_ne (tgt := 51) hx hb dX11_island_42 rfl (fun c10 => ?_) (fun c10 => ?_)
      · replace h := ite_f c10 h
        refine lv_aload_n hx hb dX11_island_51 rfl (lv_at hl 1 rfl) ?_
        rcases hN11 : gR z9 a0 5 with _ | b11
        · exact absurd (oc_n hN11 h) (by simp)
        replace h := oc_s hN11 h
        have kb11 := hT.f k0 (k := 5) (t := 0) (n := 0) rfl hN11
        refine r_get (T := TX11) (v := .ref (ad b11)) hx hb hts in11 hown hK hP k0 (by decide) rfl 5 (by decide) (hts (.fieldLink RX11 45 "StoneWalk" "island" "LStoneWalk$Island;") (List.mem_of_getElem? (i := 5) (by decide +kernel))) rfl (t := 2) rfl (by show va_rf _ = _; rw [hN11]; rfl) dX11_island_52 ?_
        refine lv_astore_n (lv' := [(3, .ref (ad b11)), (2, .int z7.1), (0, .ref (ad a0)), (1, .int x1)]) hx hb dX11_island_55 rfl hl (by decide) rfl (fun ls hl => ?_)
        refine lv_aload_n hx hb dX11_island_56 rfl (lv_at hl 2 rfl) ?_
        refine lv_aload_n hx hb dX11_island_57 rfl (lv_at hl 2 rfl) ?_
        rcases hN12 : gR z9 a0 6 with _ | b12
        · exact absurd (oc_n hN12 h) (by simp)
        replace h := oc_s hN12 h
        have kb12 := hT.f k0 (k := 6) (t := 0) (n := 0) rfl hN12
        refine r_get (T := TX11) (v := .ref (ad b12)) hx hb hts in11 hown hK hP k0 (by decide) rfl 6 (by decide) (hts (.fieldLink RX11 49 "StoneWalk" "spare" "LStoneWalk$Island;") (List.mem_of_getElem? (i := 4) (by decide +kernel))) rfl (t := 2) rfl (by show va_rf _ = _; rw [hN12]; rfl) dX11_island_58 ?_
        refine r_putR (T := TX11) (v := b12) hx hb hts in11 tyX11 tyX11_ok nmX11 hown hK hP hD hT hS k0 (by decide) rfl 5 (by decide) (hts (.fieldLink RX11 45 "StoneWalk" "island" "LStoneWalk$Island;") (List.mem_of_getElem? (i := 5) (by decide +kernel))) rfl rfl (tyX11_ok 5 (by decide)) rfl (fun t n ht => by cases ht; exact kb12) rfl dX11_island_61 (fun H locs hP hD hT hS => ?_)
        refine lv_aload_n hx hb dX11_island_64 rfl (lv_at hl 2 rfl) ?_
        refine lv_aload_n hx hb dX11_island_65 rfl (lv_at hl 0 rfl) ?_
        refine r_putR (T := TX11) (v := b11) hx hb hts in11 tyX11 tyX11_ok nmX11 hown hK hP hD hT hS k0 (by decide) rfl 6 (by decide) (hts (.fieldLink RX11 49 "StoneWalk" "spare" "LStoneWalk$Island;") (List.mem_of_getElem? (i := 4) (by decide +kernel))) rfl rfl (tyX11_ok 6 (by decide)) rfl (fun t n ht => by cases ht; exact kb11) rfl dX11_island_66 (fun H locs hP hD hT hS => ?_)
        refine lv_aload_n hx hb dX11_island_69 rfl (lv_at hl 2 rfl) ?_
        rcases hN13 : gR (pR (pR z9 a0 5 (some b12)) a0 6 (some b11)) a0 5 with _ | b13
        · exact absurd (oc_n hN13 h) (by simp)
        replace h := oc_s hN13 h
        have kb13 := hT.f k0 (k := 5) (t := 0) (n := 0) rfl hN13
        refine r_get (T := TX11) (v := .ref (ad b13)) hx hb hts in11 hown hK hP k0 (by decide) rfl 5 (by decide) (hts (.fieldLink RX11 45 "StoneWalk" "island" "LStoneWalk$Island;") (List.mem_of_getElem? (i := 5) (by decide +kernel))) rfl (t := 2) rfl (by show va_rf _ = _; rw [hN13]; rfl) dX11_island_70 ?_
        obtain ⟨z14, h14, h⟩ := ob_some h
        refine k_v (va_runV (As := []) (rest := []) ⟨hx, hb, hml, hown, hts⟩ (c_X0_growTrees (l := l) (pR (pR z9 a0 5 (some b12)) a0 6 (some b11)) b13 kb13 h14) (cwV 0 hts gX11_island_X0_growTrees rfl rfl rfl hdV_X0_growTrees ⟨Nat.le_of_ble_eq_true rfl, Nat.le_of_ble_eq_true rfl⟩) (pV (T := TX0) hP hK hD hT hG hS kb13 (by decide) rfl) rfl rfl hl.1 rfl (lv_room (Nat.le_of_ble_eq_true rfl)) dX11_island_73 ⟨Nat.zero_le _, Nat.zero_le _⟩) hS (fun H locs hP hD hT hS => ?_)
        refine lv_aload_n hx hb dX11_island_76 rfl (lv_at hl 2 rfl) ?_
        rcases hN15 : gR z14 a0 3 with _ | b15
        · exact absurd (oc_n hN15 h) (by simp)
        replace h := oc_s hN15 h
        have kb15 := hT.f k0 (k := 3) (t := 1) (n := 0) rfl hN15
        refine r_get (T := TX11) (v := .ref (ad b15)) hx hb hts in11 hown hK hP k0 (by decide) rfl 3 (by decide) (hts (.fieldLink RX11 35 "StoneWalk" "journey" "LStoneWalk$Journey;") (List.mem_of_getElem? (i := 6) (by decide +kernel))) rfl (t := 2) rfl (by show va_rf _ = _; rw [hN15]; rfl) dX11_island_77 ?_
        obtain ⟨z16, h16, h⟩ := ob_some h
        refine k_v (va_runV (As := []) (rest := []) ⟨hx, hb, hml, hown, hts⟩ (c_X1_clear (l := l) z14 b15 kb15 h16) (cwV 0 hts gX11_island_X1_clear rfl rfl rfl hdV_X1_clear ⟨Nat.le_of_ble_eq_true rfl, Nat.le_of_ble_eq_true rfl⟩) (pV (T := TX1) hP hK hD hT hG hS kb15 (by decide) rfl) rfl rfl hl.1 rfl (lv_room (Nat.le_of_ble_eq_true rfl)) dX11_island_80 ⟨Nat.zero_le _, Nat.zero_le _⟩) hS (fun H locs hP hD hT hS => ?_)
        refine lv_aload_n hx hb dX11_island_83 rfl (lv_at hl 2 rfl) ?_
        rcases hN17 : gR z16 a0 2 with _ | b17
        · exact absurd (oc_n hN17 h) (by simp)
        replace h := oc_s hN17 h
        have kb17 := hT.f k0 (k := 2) (t := 4) (n := 0) rfl hN17
        refine r_get (T := TX11) (v := .ref (ad b17)) hx hb hts in11 hown hK hP k0 (by decide) rfl 2 (by decide) (hts (.fieldLink RX11 28 "StoneWalk" "sights" "LStoneWalk$Sights;") (List.mem_of_getElem? (i := 7) (by decide +kernel))) rfl (t := 2) rfl (by show va_rf _ = _; rw [hN17]; rfl) dX11_island_84 ?_
        obtain ⟨z18, h18, h⟩ := ob_some h
        refine k_v (va_runV (As := []) (rest := []) ⟨hx, hb, hml, hown, hts⟩ (c_X4_clear (l := l) z16 b17 kb17 h18) (cwV 0 hts gX11_island_X4_clear rfl rfl rfl hdV_X4_clear ⟨Nat.le_of_ble_eq_true rfl, Nat.le_of_ble_eq_true rfl⟩) (pV (T := TX4) hP hK hD hT hG hS kb17 (by decide) rfl) rfl rfl hl.1 rfl (lv_room (Nat.le_of_ble_eq_true rfl)) dX11_island_87 ⟨Nat.zero_le _, Nat.zero_le _⟩) hS (fun H locs hP hD hT hS => ?_)
        refine lv_aload_n hx hb dX11_island_90 rfl (lv_at hl 2 rfl) ?_
        refine lv_aload_n hx hb dX11_island_91 rfl (lv_at hl 2 rfl) ?_
        rcases hN19 : gR z18 a0 5 with _ | b19
        · exact absurd (oc_n hN19 h) (by simp)
        replace h := oc_s hN19 h
        have kb19 := hT.f k0 (k := 5) (t := 0) (n := 0) rfl hN19
        refine r_get (T := TX11) (v := .ref (ad b19)) hx hb hts in11 hown hK hP k0 (by decide) rfl 5 (by decide) (hts (.fieldLink RX11 45 "StoneWalk" "island" "LStoneWalk$Island;") (List.mem_of_getElem? (i := 5) (by decide +kernel))) rfl (t := 2) rfl (by show va_rf _ = _; rw [hN19]; rfl) dX11_island_92 ?_
        refine lv_iconst (v := 2) hx hb dX11_island_95 rfl ?_
        obtain ⟨z20, h20, h⟩ := ob_some h
        refine k_i (va_runV (As := [.int 2]) (rest := [.ref (ad a0)]) ⟨hx, hb, hml, hown, hts⟩ (c_X0_count (l := l) z18 b19 2 kb19 h20) (cwV 1 hts gX11_island_X0_count rfl rfl rfl hdV_X0_count ⟨Nat.le_of_ble_eq_true rfl, Nat.le_of_ble_eq_true rfl⟩) (pV (T := TX0) hP hK hD hT hG hS kb19 (by decide) rfl) rfl rfl hl.1 rfl (lv_room (Nat.le_of_ble_eq_true rfl)) dX11_island_96 ⟨Nat.zero_le _, Nat.zero_le _⟩) hS (fun H locs hP hD hT hS => ?_)
        obtain ⟨z21, h21, h⟩ := ob_some h
        refine k_i (va_runV (As := [.int z20]) (rest := []) ⟨hx, hb, hml, hown, hts⟩ (c_X11_granted (l := l) z18 a0 z20 k0 h21) (cwV 1 hts gX11_island_X11_granted rfl rfl rfl hdV_X11_granted ⟨Nat.le_of_ble_eq_true rfl, Nat.le_of_ble_eq_true rfl⟩) (pV (T := TX11) hP hK hD hT hG hS k0 (by decide) rfl) rfl rfl hl.1 rfl (lv_room (Nat.le_of_ble_eq_true rfl)) dX11_island_99 ⟨Nat.zero_le _, Nat.zero_le _⟩) hS (fun H locs hP hD hT hS => ?_)
        have hZ := Option.some.inj h
        have hZ1 := congrArg Prod.fst hZ
        have hZ2 := congrArg Prod.snd hZ
        exact r_iret hx hb hr hlocks hP hK hD hT hG hS hZ1 hZ2 dX11_island_102
      · replace h := ite_t c10 h
        refine lv_aload_n hx hb dX11_island_45 rfl (lv_at hl 1 rfl) ?_
        refine lv_iconst (v := 4) hx hb dX11_island_46 rfl ?_
        obtain ⟨z22, h22, h⟩ := ob_some h
        refine k_i (va_runV (As := [.int 4]) (rest := []) ⟨hx, hb, hml, hown, hts⟩ (c_X11_refused (l := l) z9 a0 4 k0 h22) (cwV 1 hts gX11_island_X11_refused rfl rfl rfl hdV_X11_refused ⟨Nat.le_of_ble_eq_true rfl, Nat.le_of_ble_eq_true rfl⟩) (pV (T := TX11) hP hK hD hT hG hS k0 (by decide) rfl) rfl rfl hl.1 rfl (lv_room (Nat.le_of_ble_eq_true rfl)) dX11_island_47 ⟨Nat.zero_le _, Nat.zero_le _⟩) hS (fun H locs hP hD hT hS => ?_)
        have hZ := Option.some.inj h
        have hZ1 := congrArg Prod.fst hZ
        have hZ2 := congrArg Prod.snd hZ
        exact r_iret hx hb hr hlocks hP hK hD hT hG hS hZ1 hZ2 dX11_island_50
    · replace h := ite_f c4 h
      refine lv_aload_n hx hb dX11_island_15 rfl (lv_at hl 0 rfl) ?_
      refine lv_iconst (v := 2) hx hb dX11_island_16 rfl ?_
      obtain ⟨z23, h23, h⟩ := ob_some h
      refine k_i (va_runV (As := [.int 2]) (rest := []) ⟨hx, hb, hml, hown, hts⟩ (c_X11_refused (l := l) M a0 2 k0 h23) (cwV 1 hts gX11_island_X11_refused rfl rfl rfl hdV_X11_refused ⟨Nat.le_of_ble_eq_true rfl, Nat.le_of_ble_eq_true rfl⟩) (pV (T := TX11) hP hK hD hT hG hS k0 (by decide) rfl) rfl rfl hl.1 rfl (lv_room (Nat.le_of_ble_eq_true rfl)) dX11_island_17 ⟨Nat.zero_le _, Nat.zero_le _⟩) hS (fun H locs hP hD hT hS => ?_)
      have hZ := Option.some.inj h
      have hZ1 := congrArg Prod.fst hZ
      have hZ2 := congrArg Prod.snd hZ
      exact r_iret hx hb hr hlocks hP hK hD hT hG hS hZ1 hZ2 dX11_island_20
set_option maxHeartbeats 4000000 in
set_option maxRecDepth 100000 in
theorem c_X11_fault {l : Launch} {D : va_G} {ad : Nat → Nat} {cy : Nat → ClassId} {A : Nat → Prop} {g : CG} {q : SE} (M : MM) (a0 : Nat) (k0 : ok g a0 11 0) {Z : Int32} (h : f_X11_fault M a0 = some Z) : Met l yX11_fault wsX11_fault ({ frames := 0, cells := 0, slots := 0, locals := 0 }) (va_Pc [.ref (ad a0)] (Wd D ad cy A g q M)) (va_Qi (fun r u => r = Z ∧ u = M) (Wd D ad cy A g q) A) 0 0 A := by
  refine Met.ofW (cc := cX11_fault) (maxL := 1) (ret := (some .int)) (by decide) rfl ?_
  intro p e s m args below meth c s₁ B hml hv
  obtain ⟨rfl, hP, hK, hD, hT, hG⟩ := hv
  have hx := B.exec
  have hb := B.bytes
  have hr := B.returns
  have hts := atoms_spec (ws := wsX11_fault) B.pre
  have hown : s.vm.findClass RX11 = some m.cls := findClass_of_methodNamed B.named
  have hlocks := B.notSynchronized
  have in2 : ∀ w ∈ u_ws RX2 TX2 7, w ∈ wsX11_fault := fun w h => List.mem_cons_of_mem _ (List.mem_append_right _ h)
  have in11 : ∀ w ∈ u_ws RX11 TX11 8, w ∈ wsX11_fault := fun w h => List.mem_cons_of_mem _ (List.mem_append_left _ (List.mem_append_right _ h))
  have hS : va_S A s.heap s.heap [] := va_S.rf
  have hl := lv_entry ([.ref (ad a0)]) (n := 1) (Nat.le_of_ble_eq_true rfl)
  rw [lg_entry_eq]
  generalize (lg_sl ([.ref (ad a0)]) ++ List.replicate (1 - (lg_sl ([.ref (ad a0)])).length) Slot.unset).toArray = ls at hl ⊢
  have hl : lv_has ls 1 [(0, .ref (ad a0))] := hl
  unfold f_X11_fault at h
  refine lv_aload_n hx hb dX11_fault_0 rfl (lv_at hl 0 rfl) ?_
  rcases hN1 : gR M a0 1 with _ | b1
  · exact absurd (oc_n hN1 h) (by simp)
  replace h := oc_s hN1 h
  have kb1 := hT.f k0 (k := 1) (t := 2) (n := 0) rfl hN1
  refine r_get (T := TX11) (v := .ref (ad b1)) hx hb hts in11 hown hK hP k0 (by decide) rfl 1 (by decide) (hts (.fieldLink RX11 21 "StoneWalk" "reader" "LStoneWalk$Reader;") (List.mem_of_getElem? (i := 1) (by decide +kernel))) rfl (t := 2) rfl (by show va_rf _ = _; rw [hN1]; rfl) dX11_fault_1 ?_
  refine r_get (T := TX2) (v := .int (gI M b1 5)) hx hb hts in2 hown hK hP kb1 (by decide) rfl 5 (by decide) (hts (.fieldLink RX11 91 "StoneWalk$Reader" "fault" "I") (List.mem_of_getElem? (i := 2) (by decide +kernel))) rfl (t := 0) rfl rfl dX11_fault_4 ?_
  exact r_iret hx hb hr hlocks hP hK hD hT hG hS (Option.some.inj h) rfl dX11_fault_7
set_option maxHeartbeats 4000000 in
set_option maxRecDepth 100000 in
theorem c_X11_where {l : Launch} {D : va_G} {ad : Nat → Nat} {cy : Nat → ClassId} {A : Nat → Prop} {g : CG} {q : SE} (M : MM) (a0 : Nat) (k0 : ok g a0 11 0) {Z : Int32} (h : f_X11_where M a0 = some Z) : Met l yX11_where wsX11_where ({ frames := 0, cells := 0, slots := 0, locals := 0 }) (va_Pc [.ref (ad a0)] (Wd D ad cy A g q M)) (va_Qi (fun r u => r = Z ∧ u = M) (Wd D ad cy A g q) A) 0 0 A := by
  refine Met.ofW (cc := cX11_where) (maxL := 1) (ret := (some .int)) (by decide) rfl ?_
  intro p e s m args below meth c s₁ B hml hv
  obtain ⟨rfl, hP, hK, hD, hT, hG⟩ := hv
  have hx := B.exec
  have hb := B.bytes
  have hr := B.returns
  have hts := atoms_spec (ws := wsX11_where) B.pre
  have hown : s.vm.findClass RX11 = some m.cls := findClass_of_methodNamed B.named
  have hlocks := B.notSynchronized
  have in2 : ∀ w ∈ u_ws RX2 TX2 7, w ∈ wsX11_where := fun w h => List.mem_cons_of_mem _ (List.mem_append_right _ h)
  have in11 : ∀ w ∈ u_ws RX11 TX11 8, w ∈ wsX11_where := fun w h => List.mem_cons_of_mem _ (List.mem_append_left _ (List.mem_append_right _ h))
  have hS : va_S A s.heap s.heap [] := va_S.rf
  have hl := lv_entry ([.ref (ad a0)]) (n := 1) (Nat.le_of_ble_eq_true rfl)
  rw [lg_entry_eq]
  generalize (lg_sl ([.ref (ad a0)]) ++ List.replicate (1 - (lg_sl ([.ref (ad a0)])).length) Slot.unset).toArray = ls at hl ⊢
  have hl : lv_has ls 1 [(0, .ref (ad a0))] := hl
  unfold f_X11_where at h
  refine lv_aload_n hx hb dX11_where_0 rfl (lv_at hl 0 rfl) ?_
  refine r_get (T := TX11) (v := .int (gI M a0 7)) hx hb hts in11 hown hK hP k0 (by decide) rfl 7 (by decide) (hts (.fieldLink RX11 52 "StoneWalk" "trouble" "I") (List.mem_of_getElem? (i := 1) (by decide +kernel))) rfl (t := 0) rfl rfl dX11_where_1 ?_
  refine lv_iconst (v := 4) hx hb dX11_where_4 rfl ?_
  refine lv_icmp_ne (tgt := 18) hx hb dX11_where_5 rfl (fun c1 => ?_) (fun c1 => ?_)
  · replace h := ite_f c1 h
    refine lv_iconst (v := (-1)) hx hb dX11_where_18 rfl ?_
    exact r_iret hx hb hr hlocks hP hK hD hT hG hS (Option.some.inj h) rfl dX11_where_19
  · replace h := ite_t c1 h
    refine lv_aload_n hx hb dX11_where_8 rfl (lv_at hl 0 rfl) ?_
    rcases hN2 : gR M a0 1 with _ | b2
    · exact absurd (oc_n hN2 h) (by simp)
    replace h := oc_s hN2 h
    have kb2 := hT.f k0 (k := 1) (t := 2) (n := 0) rfl hN2
    refine r_get (T := TX11) (v := .ref (ad b2)) hx hb hts in11 hown hK hP k0 (by decide) rfl 1 (by decide) (hts (.fieldLink RX11 21 "StoneWalk" "reader" "LStoneWalk$Reader;") (List.mem_of_getElem? (i := 2) (by decide +kernel))) rfl (t := 2) rfl (by show va_rf _ = _; rw [hN2]; rfl) dX11_where_9 ?_
    refine r_get (T := TX2) (v := .int (gI M b2 6)) hx hb hts in2 hown hK hP kb2 (by decide) rfl 6 (by decide) (hts (.fieldLink RX11 94 "StoneWalk$Reader" "place" "I") (List.mem_of_getElem? (i := 3) (by decide +kernel))) rfl (t := 0) rfl rfl dX11_where_12 ?_
    refine lv_goto (tgt := 19) hx hb dX11_where_15 rfl ?_
    exact r_iret hx hb hr hlocks hP hK hD hT hG hS (Option.some.inj h) rfl dX11_where_19
set_option maxHeartbeats 4000000 in
set_option maxRecDepth 100000 in
theorem c_X11_isSlope {l : Launch} {D : va_G} {ad : Nat → Nat} {cy : Nat → ClassId} {A : Nat → Prop} {g : CG} {q : SE} (M : MM) (x0 : Int32) {Z : Int32} (h : f_X11_isSlope M x0 = some Z) : Met l yX11_isSlope wsX11_isSlope ({ frames := 0, cells := 0, slots := 0, locals := 0 }) (va_Pc [.int x0] (Wd D ad cy A g q M)) (va_Qi (fun r u => r = Z ∧ u = M ∧ zb r) (Wd D ad cy A g q) A) 0 0 A := by
  refine Met.ofW (cc := cX11_isSlope) (maxL := 1) (ret := (some .boolean)) (by decide) rfl ?_
  intro p e s m args below meth c s₁ B hml hv
  obtain ⟨rfl, hP, hK, hD, hT, hG⟩ := hv
  have hx := B.exec
  have hb := B.bytes
  have hr := B.returns
  have hts := atoms_spec (ws := wsX11_isSlope) B.pre
  have hown : s.vm.findClass RX11 = some m.cls := findClass_of_methodNamed B.named
  have hlocks := B.notSynchronized
  have hS : va_S A s.heap s.heap [] := va_S.rf
  have hl := lv_entry ([.int x0]) (n := 1) (Nat.le_of_ble_eq_true rfl)
  rw [lg_entry_eq]
  generalize (lg_sl ([.int x0]) ++ List.replicate (1 - (lg_sl ([.int x0])).length) Slot.unset).toArray = ls at hl ⊢
  have hl : lv_has ls 1 [(0, .int x0)] := hl
  unfold f_X11_isSlope at h
  refine lv_iload_n hx hb dX11_isSlope_0 rfl (lv_at hl 0 rfl) ?_
  refine lv_bipush (v := (-20)) hx hb dX11_isSlope_1 rfl ?_
  refine lv_icmp_lt (tgt := 16) hx hb dX11_isSlope_3 rfl (fun c1 => ?_) (fun c1 => ?_)
  · replace h := ite_t c1 h
    refine lv_iconst (v := 0) hx hb dX11_isSlope_16 rfl ?_
    exact r_zret hx hb hr hlocks hP hK hD hT hG hS zb_0 (Option.some.inj h) rfl dX11_isSlope_17
  · replace h := ite_f c1 h
    refine lv_iload_n hx hb dX11_isSlope_6 rfl (lv_at hl 0 rfl) ?_
    refine lv_bipush (v := 20) hx hb dX11_isSlope_7 rfl ?_
    refine lv_icmp_gt (tgt := 16) hx hb dX11_isSlope_9 rfl (fun c2 => ?_) (fun c2 => ?_)
    · replace h := ite_t c2 h
      refine lv_iconst (v := 0) hx hb dX11_isSlope_16 rfl ?_
      exact r_zret hx hb hr hlocks hP hK hD hT hG hS zb_0 (Option.some.inj h) rfl dX11_isSlope_17
    · replace h := ite_f c2 h
      refine lv_iconst (v := 1) hx hb dX11_isSlope_12 rfl ?_
      refine lv_goto (tgt := 17) hx hb dX11_isSlope_13 rfl ?_
      exact r_zret hx hb hr hlocks hP hK hD hT hG hS zb_1 (Option.some.inj h) rfl dX11_isSlope_17
set_option maxHeartbeats 4000000 in
set_option maxRecDepth 100000 in
theorem c_X11_can {l : Launch} {D : va_G} {ad : Nat → Nat} {cy : Nat → ClassId} {A : Nat → Prop} {g : CG} {q : SE} (M : MM) (a0 : Nat) (x1 : Int32) (x2 : Int32) (x3 : Int32) (k0 : ok g a0 11 0) {Z : (Int32 × MM)} (h : f_X11_can M a0 x1 x2 x3 = some Z) : Met l yX11_can wsX11_can ({ frames := 1, cells := 0, slots := 0, locals := 22 }) (va_Pc [.ref (ad a0), .int x1, .int x2, .int x3] (Wd D ad cy A g q M)) (va_Qi (fun r u => r = Z.1 ∧ u = Z.2) (Wd D ad cy A g q) A) 0 0 A := by
  refine Met.ofW (cc := cX11_can) (maxL := 6) (ret := (some .int)) (by decide) rfl ?_
  intro p e s m args below meth c s₁ B hml hv
  obtain ⟨rfl, hP, hK, hD, hT, hG⟩ := hv
  have hx := B.exec
  have hb := B.bytes
  have hr := B.returns
  have hts := atoms_spec (ws := wsX11_can) B.pre
  have hown : s.vm.findClass RX11 = some m.cls := findClass_of_methodNamed B.named
  have hlocks := B.notSynchronized
  have in11 : ∀ w ∈ u_ws RX11 TX11 8, w ∈ wsX11_can := fun w h => List.mem_cons_of_mem _ (List.mem_append_left _ (List.mem_append_left _ (List.mem_append_left _ (List.mem_append_right _ h))))
  have hS : va_S A s.heap s.heap [] := va_S.rf
  have hl := lv_entry ([.ref (ad a0), .int x1, .int x2, .int x3]) (n := 6) (Nat.le_of_ble_eq_true rfl)
  rw [lg_entry_eq]
  generalize (lg_sl ([.ref (ad a0), .int x1, .int x2, .int x3]) ++ List.replicate (6 - (lg_sl ([.ref (ad a0), .int x1, .int x2, .int x3])).length) Slot.unset).toArray = ls at hl ⊢
  have hl : lv_has ls 6 [(0, .ref (ad a0)), (1, .int x1), (2, .int x2), (3, .int x3)] := hl
  unfold f_X11_can at h
  refine lv_aload_n hx hb dX11_can_0 rfl (lv_at hl 0 rfl) ?_
  rcases hN1 : gR M a0 5 with _ | b1
  · exact absurd (oc_n hN1 h) (by simp)
  replace h := oc_s hN1 h
  have kb1 := hT.f k0 (k := 5) (t := 0) (n := 0) rfl hN1
  refine r_get (T := TX11) (v := .ref (ad b1)) hx hb hts in11 hown hK hP k0 (by decide) rfl 5 (by decide) (hts (.fieldLink RX11 45 "StoneWalk" "island" "LStoneWalk$Island;") (List.mem_of_getElem? (i := 1) (by decide +kernel))) rfl (t := 2) rfl (by show va_rf _ = _; rw [hN1]; rfl) dX11_can_1 ?_
  refine lv_iload_n hx hb dX11_can_4 rfl (lv_at hl 1 rfl) ?_
  obtain ⟨z2, h2, h⟩ := ob_some h
  refine k_q (va_runV (As := [.int x1]) (rest := []) ⟨hx, hb, hml, hown, hts⟩ (c_X0_wayAt (l := l) M b1 x1 kb1 h2) (cwV 1 hts gX11_can_X0_wayAt rfl rfl rfl hdV_X0_wayAt ⟨Nat.le_of_ble_eq_true rfl, Nat.le_of_ble_eq_true rfl⟩) (pV (T := TX0) hP hK hD hT hG hS kb1 (by decide) rfl) rfl rfl hl.1 rfl (lv_room (Nat.le_of_ble_eq_true rfl)) dX11_can_5 ⟨Nat.zero_le _, Nat.zero_le _⟩) hS (fun H locs hq2 hP hD hT hS => ?_)
  rcases hN2 : z2 with _ | b2
  · replace h := oc_n hN2 h
    show W _ _ _ _ _ _ _ _ _ _ _ _ _ _ _ (F0 _ _ _ (.null :: []))
    refine lv_astoreN (lv' := [(4, .null), (0, .ref (ad a0)), (1, .int x1), (2, .int x2), (3, .int x3)]) hx hb dX11_can_8 hl (by decide) rfl (fun ls hl => ?_)
    refine lv_aload_n hx hb dX11_can_10 rfl (lv_at hl 1 rfl) ?_
    rcases hN3 : gR M a0 5 with _ | b3
    · exact absurd (oc_n hN3 h) (by simp)
    replace h := oc_s hN3 h
    have kb3 := hT.f k0 (k := 5) (t := 0) (n := 0) rfl hN3
    refine r_get (T := TX11) (v := .ref (ad b3)) hx hb hts in11 hown hK hP k0 (by decide) rfl 5 (by decide) (hts (.fieldLink RX11 45 "StoneWalk" "island" "LStoneWalk$Island;") (List.mem_of_getElem? (i := 1) (by decide +kernel))) rfl (t := 2) rfl (by show va_rf _ = _; rw [hN3]; rfl) dX11_can_11 ?_
    refine lv_iload_n hx hb dX11_can_14 rfl (lv_at hl 3 rfl) ?_
    obtain ⟨z4, h4, h⟩ := ob_some h
    refine k_q (va_runV (As := [.int x2]) (rest := []) ⟨hx, hb, hml, hown, hts⟩ (c_X0_statueAt (l := l) M b3 x2 kb3 h4) (cwV 1 hts gX11_can_X0_statueAt rfl rfl rfl hdV_X0_statueAt ⟨Nat.le_of_ble_eq_true rfl, Nat.le_of_ble_eq_true rfl⟩) (pV (T := TX0) hP hK hD hT hG hS kb3 (by decide) rfl) rfl rfl hl.1 rfl (lv_room (Nat.le_of_ble_eq_true rfl)) dX11_can_15 ⟨Nat.zero_le _, Nat.zero_le _⟩) hS (fun H locs hq4 hP hD hT hS => ?_)
    rcases hN4 : z4 with _ | b4
    · replace h := oc_n hN4 h
      show W _ _ _ _ _ _ _ _ _ _ _ _ _ _ _ (F0 _ _ _ (.null :: []))
      refine lv_astoreN (lv' := [(5, .null), (4, .null), (0, .ref (ad a0)), (1, .int x1), (2, .int x2), (3, .int x3)]) hx hb dX11_can_18 hl (by decide) rfl (fun ls hl => ?_)
      refine lv_aloadN hx hb dX11_can_20 (lv_at hl 1 rfl) ?_
      refine lv_ifnullN (tgt := 30) hx hb dX11_can_22 rfl ?_
      refine lv_aload_n hx hb dX11_can_30 rfl (lv_at hl 2 rfl) ?_
      refine lv_iconst (v := 1) hx hb dX11_can_31 rfl ?_
      obtain ⟨z5, h5, h⟩ := ob_some h
      refine k_i (va_runV (As := [.int 1]) (rest := []) ⟨hx, hb, hml, hown, hts⟩ (c_X11_refused (l := l) M a0 1 k0 h5) (cwV 1 hts gX11_can_X11_refused rfl rfl rfl hdV_X11_refused ⟨Nat.le_of_ble_eq_true rfl, Nat.le_of_ble_eq_true rfl⟩) (pV (T := TX11) hP hK hD hT hG hS k0 (by decide) rfl) rfl rfl hl.1 rfl (lv_room (Nat.le_of_ble_eq_true rfl)) dX11_can_32 ⟨Nat.zero_le _, Nat.zero_le _⟩) hS (fun H locs hP hD hT hS => ?_)
      have hZ := Option.some.inj h
      have hZ1 := congrArg Prod.fst hZ
      have hZ2 := congrArg Prod.snd hZ
      exact r_iret hx hb hr hlocks hP hK hD hT hG hS hZ1 hZ2 dX11_can_35
    · replace h := oc_s hN4 h
      have kb4 := hq4 _ hN4
      show W _ _ _ _ _ _ _ _ _ _ _ _ _ _ _ (F0 _ _ _ (.ref (ad b4) :: []))
      refine lv_astore (lv' := [(5, .ref (ad b4)), (4, .null), (0, .ref (ad a0)), (1, .int x1), (2, .int x2), (3, .int x3)]) hx hb dX11_can_18 hl (by decide) rfl (fun ls hl => ?_)
      refine lv_aloadN hx hb dX11_can_20 (lv_at hl 1 rfl) ?_
      refine lv_ifnullN (tgt := 30) hx hb dX11_can_22 rfl ?_
      refine lv_aload_n hx hb dX11_can_30 rfl (lv_at hl 2 rfl) ?_
      refine lv_iconst (v := 1) hx hb dX11_can_31 rfl ?_
      obtain ⟨z6, h6, h⟩ := ob_some h
      refine k_i (va_runV (As := [.int 1]) (rest := []) ⟨hx, hb, hml, hown, hts⟩ (c_X11_refused (l := l) M a0 1 k0 h6) (cwV 1 hts gX11_can_X11_refused rfl rfl rfl hdV_X11_refused ⟨Nat.le_of_ble_eq_true rfl, Nat.le_of_ble_eq_true rfl⟩) (pV (T := TX11) hP hK hD hT hG hS k0 (by decide) rfl) rfl rfl hl.1 rfl (lv_room (Nat.le_of_ble_eq_true rfl)) dX11_can_32 ⟨Nat.zero_le _, Nat.zero_le _⟩) hS (fun H locs hP hD hT hS => ?_)
      have hZ := Option.some.inj h
      have hZ1 := congrArg Prod.fst hZ
      have hZ2 := congrArg Prod.snd hZ
      exact r_iret hx hb hr hlocks hP hK hD hT hG hS hZ1 hZ2 dX11_can_35
  · replace h := oc_s hN2 h
    have kb2 := hq2 _ hN2
    show W _ _ _ _ _ _ _ _ _ _ _ _ _ _ _ (F0 _ _ _ (.ref (ad b2) :: []))
    refine lv_astore (lv' := [(4, .ref (ad b2)), (0, .ref (ad a0)), (1, .int x1), (2, .int x2), (3, .int x3)]) hx hb dX11_can_8 hl (by decide) rfl (fun ls hl => ?_)
    refine lv_aload_n hx hb dX11_can_10 rfl (lv_at hl 1 rfl) ?_
    rcases hN7 : gR M a0 5 with _ | b7
    · exact absurd (oc_n hN7 h) (by simp)
    replace h := oc_s hN7 h
    have kb7 := hT.f k0 (k := 5) (t := 0) (n := 0) rfl hN7
    refine r_get (T := TX11) (v := .ref (ad b7)) hx hb hts in11 hown hK hP k0 (by decide) rfl 5 (by decide) (hts (.fieldLink RX11 45 "StoneWalk" "island" "LStoneWalk$Island;") (List.mem_of_getElem? (i := 1) (by decide +kernel))) rfl (t := 2) rfl (by show va_rf _ = _; rw [hN7]; rfl) dX11_can_11 ?_
    refine lv_iload_n hx hb dX11_can_14 rfl (lv_at hl 3 rfl) ?_
    obtain ⟨z8, h8, h⟩ := ob_some h
    refine k_q (va_runV (As := [.int x2]) (rest := []) ⟨hx, hb, hml, hown, hts⟩ (c_X0_statueAt (l := l) M b7 x2 kb7 h8) (cwV 1 hts gX11_can_X0_statueAt rfl rfl rfl hdV_X0_statueAt ⟨Nat.le_of_ble_eq_true rfl, Nat.le_of_ble_eq_true rfl⟩) (pV (T := TX0) hP hK hD hT hG hS kb7 (by decide) rfl) rfl rfl hl.1 rfl (lv_room (Nat.le_of_ble_eq_true rfl)) dX11_can_15 ⟨Nat.zero_le _, Nat.zero_le _⟩) hS (fun H locs hq8 hP hD hT hS => ?_)
    rcases hN8 : z8 with _ | b8
    · replace h := oc_n hN8 h
      show W _ _ _ _ _ _ _ _ _ _ _ _ _ _ _ (F0 _ _ _ (.null :: []))
      refine lv_astoreN (lv' := [(5, .null), (4, .ref (ad b2)), (0, .ref (ad a0)), (1, .int x1), (2, .int x2), (3, .int x3)]) hx hb dX11_can_18 hl (by decide) rfl (fun ls hl => ?_)
      refine lv_aload hx hb dX11_can_20 (lv_at hl 1 rfl) ?_
      refine lv_ifnull hx hb dX11_can_22 ?_
      refine lv_aloadN hx hb dX11_can_25 (lv_at hl 0 rfl) ?_
      refine lv_ifnonnullN hx hb dX11_can_27 ?_
      refine lv_aload_n hx hb dX11_can_30 rfl (lv_at hl 2 rfl) ?_
      refine lv_iconst (v := 1) hx hb dX11_can_31 rfl ?_
      obtain ⟨z9, h9, h⟩ := ob_some h
      refine k_i (va_runV (As := [.int 1]) (rest := []) ⟨hx, hb, hml, hown, hts⟩ (c_X11_refused (l := l) M a0 1 k0 h9) (cwV 1 hts gX11_can_X11_refused rfl rfl rfl hdV_X11_refused ⟨Nat.le_of_ble_eq_true rfl, Nat.le_of_ble_eq_true rfl⟩) (pV (T := TX11) hP hK hD hT hG hS k0 (by decide) rfl) rfl rfl hl.1 rfl (lv_room (Nat.le_of_ble_eq_true rfl)) dX11_can_32 ⟨Nat.zero_le _, Nat.zero_le _⟩) hS (fun H locs hP hD hT hS => ?_)
      have hZ := Option.some.inj h
      have hZ1 := congrArg Prod.fst hZ
      have hZ2 := congrArg Prod.snd hZ
      exact r_iret hx hb hr hlocks hP hK hD hT hG hS hZ1 hZ2 dX11_can_35
    · replace h := oc_s hN8 h
      have kb8 := hq8 _ hN8
      show W _ _ _ _ _ _ _ _ _ _ _ _ _ _ _ (F0 _ _ _ (.ref (ad b8) :: []))
      refine lv_astore (lv' := [(5, .ref (ad b8)), (4, .ref (ad b2)), (0, .ref (ad a0)), (1, .int x1), (2, .int x2), (3, .int x3)]) hx hb dX11_can_18 hl (by decide) rfl (fun ls hl => ?_)
      refine lv_aload hx hb dX11_can_20 (lv_at hl 1 rfl) ?_
      refine lv_ifnull hx hb dX11_can_22 ?_
      refine lv_aload hx hb dX11_can_25 (lv_at hl 0 rfl) ?_
      refine lv_ifnonnull (tgt := 36) hx hb dX11_can_27 rfl ?_
      refine lv_iload_n hx hb dX11_can_36 rfl (lv_at hl 5 rfl) ?_
      obtain ⟨z10, h10, h⟩ := ob_some h
      refine k_z (va_runS (As := [.int x3]) (rest := []) ⟨hx, hb, hml, hown, hts⟩ (c_X11_isSlope (l := l) M x3 h10) (va_cwS 1 hts gX11_can_X11_isSlope rfl rfl rfl hdS_X11_isSlope ⟨Nat.le_of_ble_eq_true rfl, Nat.le_of_ble_eq_true rfl⟩) (pS hP hK hD hT hG hS) rfl rfl hl.1 rfl (lv_room (Nat.le_of_ble_eq_true rfl)) dX11_can_37 ⟨Nat.zero_le _, Nat.zero_le _⟩) hS (fun H locs hz10 hP hD hT hS => ?_)
      refine lv_if_ne (tgt := 49) hx hb dX11_can_40 rfl (fun c11 => ?_) (fun c11 => ?_)
      · replace h := ite_f c11 h
        refine lv_aload_n hx hb dX11_can_49 rfl (lv_at hl 2 rfl) ?_
        refine lv_aload hx hb dX11_can_50 (lv_at hl 1 rfl) ?_
        refine lv_aload hx hb dX11_can_52 (lv_at hl 0 rfl) ?_
        refine lv_iload_n hx hb dX11_can_54 rfl (lv_at hl 5 rfl) ?_
        obtain ⟨z12, h12, h⟩ := ob_some h
        refine k_z (va_runV (As := [.ref (ad b8), .int x3]) (rest := [.ref (ad a0)]) ⟨hx, hb, hml, hown, hts⟩ (c_X10_carries (l := l) M b2 b8 x3 kb2 kb8 h12) (cwV 2 hts gX11_can_X10_carries rfl rfl rfl hdV_X10_carries ⟨Nat.le_of_ble_eq_true rfl, Nat.le_of_ble_eq_true rfl⟩) (pV (T := TX10) hP hK hD hT hG hS kb2 (by decide) rfl) rfl rfl hl.1 rfl (lv_room (Nat.le_of_ble_eq_true rfl)) dX11_can_55 ⟨Nat.zero_le _, Nat.zero_le _⟩) hS (fun H locs hz12 hP hD hT hS => ?_)
        refine lv_if_eq (tgt := 65) hx hb dX11_can_58 rfl (fun c13 => ?_) (fun c13 => ?_)
        · replace h := ite_t c13 h
          refine lv_iconst (v := 0) hx hb dX11_can_65 rfl ?_
          obtain ⟨z14, h14, h⟩ := ob_some h
          refine k_i (va_runV (As := [.int 0]) (rest := []) ⟨hx, hb, hml, hown, hts⟩ (c_X11_granted (l := l) M a0 0 k0 h14) (cwV 1 hts gX11_can_X11_granted rfl rfl rfl hdV_X11_granted ⟨Nat.le_of_ble_eq_true rfl, Nat.le_of_ble_eq_true rfl⟩) (pV (T := TX11) hP hK hD hT hG hS k0 (by decide) rfl) rfl rfl hl.1 rfl (lv_room (Nat.le_of_ble_eq_true rfl)) dX11_can_66 ⟨Nat.zero_le _, Nat.zero_le _⟩) hS (fun H locs hP hD hT hS => ?_)
          have hZ := Option.some.inj h
          have hZ1 := congrArg Prod.fst hZ
          have hZ2 := congrArg Prod.snd hZ
          exact r_iret hx hb hr hlocks hP hK hD hT hG hS hZ1 hZ2 dX11_can_69
        · replace h := ite_f c13 h
          refine lv_iconst (v := 1) hx hb dX11_can_61 rfl ?_
          refine lv_goto (tgt := 66) hx hb dX11_can_62 rfl ?_
          obtain ⟨z15, h15, h⟩ := ob_some h
          refine k_i (va_runV (As := [.int 1]) (rest := []) ⟨hx, hb, hml, hown, hts⟩ (c_X11_granted (l := l) M a0 1 k0 h15) (cwV 1 hts gX11_can_X11_granted rfl rfl rfl hdV_X11_granted ⟨Nat.le_of_ble_eq_true rfl, Nat.le_of_ble_eq_true rfl⟩) (pV (T := TX11) hP hK hD hT hG hS k0 (by decide) rfl) rfl rfl hl.1 rfl (lv_room (Nat.le_of_ble_eq_true rfl)) dX11_can_66 ⟨Nat.zero_le _, Nat.zero_le _⟩) hS (fun H locs hP hD hT hS => ?_)
          have hZ := Option.some.inj h
          have hZ1 := congrArg Prod.fst hZ
          have hZ2 := congrArg Prod.snd hZ
          exact r_iret hx hb hr hlocks hP hK hD hT hG hS hZ1 hZ2 dX11_can_69
      · replace h := ite_t c11 h
        refine lv_aload_n hx hb dX11_can_43 rfl (lv_at hl 2 rfl) ?_
        refine lv_iconst (v := 2) hx hb dX11_can_44 rfl ?_
        obtain ⟨z16, h16, h⟩ := ob_some h
        refine k_i (va_runV (As := [.int 2]) (rest := []) ⟨hx, hb, hml, hown, hts⟩ (c_X11_refused (l := l) M a0 2 k0 h16) (cwV 1 hts gX11_can_X11_refused rfl rfl rfl hdV_X11_refused ⟨Nat.le_of_ble_eq_true rfl, Nat.le_of_ble_eq_true rfl⟩) (pV (T := TX11) hP hK hD hT hG hS k0 (by decide) rfl) rfl rfl hl.1 rfl (lv_room (Nat.le_of_ble_eq_true rfl)) dX11_can_45 ⟨Nat.zero_le _, Nat.zero_le _⟩) hS (fun H locs hP hD hT hS => ?_)
        have hZ := Option.some.inj h
        have hZ1 := congrArg Prod.fst hZ
        have hZ2 := congrArg Prod.snd hZ
        exact r_iret hx hb hr hlocks hP hK hD hT hG hS hZ1 hZ2 dX11_can_48
set_option maxHeartbeats 4000000 in
set_option maxRecDepth 100000 in
theorem c_X11_canOn {l : Launch} {D : va_G} {ad : Nat → Nat} {cy : Nat → ClassId} {A : Nat → Prop} {g : CG} {q : SE} (M : MM) (a0 : Nat) (x1 : Int32) (x2 : Int32) (x3 : Int32) (k0 : ok g a0 11 0) {Z : (Int32 × MM)} (h : f_X11_canOn M a0 x1 x2 x3 = some Z) : Met l yX11_canOn wsX11_canOn ({ frames := 3, cells := 0, slots := 0, locals := 66 }) (va_Pc [.ref (ad a0), .int x1, .int x2, .int x3] (Wd D ad cy A g q M)) (va_Qi (fun r u => r = Z.1 ∧ u = Z.2) (Wd D ad cy A g q) A) 0 0 A := by
  refine Met.ofW (cc := cX11_canOn) (maxL := 7) (ret := (some .int)) (by decide) rfl ?_
  intro p e s m args below meth c s₁ B hml hv
  obtain ⟨rfl, hP, hK, hD, hT, hG⟩ := hv
  have hx := B.exec
  have hb := B.bytes
  have hr := B.returns
  have hts := atoms_spec (ws := wsX11_canOn) B.pre
  have hown : s.vm.findClass RX11 = some m.cls := findClass_of_methodNamed B.named
  have hlocks := B.notSynchronized
  have in11 : ∀ w ∈ u_ws RX11 TX11 8, w ∈ wsX11_canOn := fun w h => List.mem_cons_of_mem _ (List.mem_append_left _ (List.mem_append_left _ (List.mem_append_left _ (List.mem_append_left _ (List.mem_append_right _ h)))))
  have hS : va_S A s.heap s.heap [] := va_S.rf
  have hl := lv_entry ([.ref (ad a0), .int x1, .int x2, .int x3]) (n := 7) (Nat.le_of_ble_eq_true rfl)
  rw [lg_entry_eq]
  generalize (lg_sl ([.ref (ad a0), .int x1, .int x2, .int x3]) ++ List.replicate (7 - (lg_sl ([.ref (ad a0), .int x1, .int x2, .int x3])).length) Slot.unset).toArray = ls at hl ⊢
  have hl : lv_has ls 7 [(0, .ref (ad a0)), (1, .int x1), (2, .int x2), (3, .int x3)] := hl
  unfold f_X11_canOn at h
  refine lv_aload_n hx hb dX11_canOn_0 rfl (lv_at hl 0 rfl) ?_
  rcases hN1 : gR M a0 5 with _ | b1
  · exact absurd (oc_n hN1 h) (by simp)
  replace h := oc_s hN1 h
  have kb1 := hT.f k0 (k := 5) (t := 0) (n := 0) rfl hN1
  refine r_get (T := TX11) (v := .ref (ad b1)) hx hb hts in11 hown hK hP k0 (by decide) rfl 5 (by decide) (hts (.fieldLink RX11 45 "StoneWalk" "island" "LStoneWalk$Island;") (List.mem_of_getElem? (i := 1) (by decide +kernel))) rfl (t := 2) rfl (by show va_rf _ = _; rw [hN1]; rfl) dX11_canOn_1 ?_
  refine lv_iload_n hx hb dX11_canOn_4 rfl (lv_at hl 1 rfl) ?_
  obtain ⟨z2, h2, h⟩ := ob_some h
  refine k_q (va_runV (As := [.int x1]) (rest := []) ⟨hx, hb, hml, hown, hts⟩ (c_X0_wayAt (l := l) M b1 x1 kb1 h2) (cwV 1 hts gX11_canOn_X0_wayAt rfl rfl rfl hdV_X0_wayAt ⟨Nat.le_of_ble_eq_true rfl, Nat.le_of_ble_eq_true rfl⟩) (pV (T := TX0) hP hK hD hT hG hS kb1 (by decide) rfl) rfl rfl hl.1 rfl (lv_room (Nat.le_of_ble_eq_true rfl)) dX11_canOn_5 ⟨Nat.zero_le _, Nat.zero_le _⟩) hS (fun H locs hq2 hP hD hT hS => ?_)
  rcases hN2 : z2 with _ | b2
  · replace h := oc_n hN2 h
    show W _ _ _ _ _ _ _ _ _ _ _ _ _ _ _ (F0 _ _ _ (.null :: []))
    refine lv_astoreN (lv' := [(4, .null), (0, .ref (ad a0)), (1, .int x1), (2, .int x2), (3, .int x3)]) hx hb dX11_canOn_8 hl (by decide) rfl (fun ls hl => ?_)
    refine lv_aload_n hx hb dX11_canOn_10 rfl (lv_at hl 1 rfl) ?_
    rcases hN3 : gR M a0 5 with _ | b3
    · exact absurd (oc_n hN3 h) (by simp)
    replace h := oc_s hN3 h
    have kb3 := hT.f k0 (k := 5) (t := 0) (n := 0) rfl hN3
    refine r_get (T := TX11) (v := .ref (ad b3)) hx hb hts in11 hown hK hP k0 (by decide) rfl 5 (by decide) (hts (.fieldLink RX11 45 "StoneWalk" "island" "LStoneWalk$Island;") (List.mem_of_getElem? (i := 1) (by decide +kernel))) rfl (t := 2) rfl (by show va_rf _ = _; rw [hN3]; rfl) dX11_canOn_11 ?_
    refine lv_iload_n hx hb dX11_canOn_14 rfl (lv_at hl 3 rfl) ?_
    obtain ⟨z4, h4, h⟩ := ob_some h
    refine k_q (va_runV (As := [.int x2]) (rest := []) ⟨hx, hb, hml, hown, hts⟩ (c_X0_statueAt (l := l) M b3 x2 kb3 h4) (cwV 1 hts gX11_canOn_X0_statueAt rfl rfl rfl hdV_X0_statueAt ⟨Nat.le_of_ble_eq_true rfl, Nat.le_of_ble_eq_true rfl⟩) (pV (T := TX0) hP hK hD hT hG hS kb3 (by decide) rfl) rfl rfl hl.1 rfl (lv_room (Nat.le_of_ble_eq_true rfl)) dX11_canOn_15 ⟨Nat.zero_le _, Nat.zero_le _⟩) hS (fun H locs hq4 hP hD hT hS => ?_)
    rcases hN4 : z4 with _ | b4
    · replace h := oc_n hN4 h
      show W _ _ _ _ _ _ _ _ _ _ _ _ _ _ _ (F0 _ _ _ (.null :: []))
      refine lv_astoreN (lv' := [(5, .null), (4, .null), (0, .ref (ad a0)), (1, .int x1), (2, .int x2), (3, .int x3)]) hx hb dX11_canOn_18 hl (by decide) rfl (fun ls hl => ?_)
      refine lv_aload_n hx hb dX11_canOn_20 rfl (lv_at hl 2 rfl) ?_
      rcases hN5 : gR M a0 5 with _ | b5
      · exact absurd (oc_n hN5 h) (by simp)
      replace h := oc_s hN5 h
      have kb5 := hT.f k0 (k := 5) (t := 0) (n := 0) rfl hN5
      refine r_get (T := TX11) (v := .ref (ad b5)) hx hb hts in11 hown hK hP k0 (by decide) rfl 5 (by decide) (hts (.fieldLink RX11 45 "StoneWalk" "island" "LStoneWalk$Island;") (List.mem_of_getElem? (i := 1) (by decide +kernel))) rfl (t := 2) rfl (by show va_rf _ = _; rw [hN5]; rfl) dX11_canOn_21 ?_
      refine lv_iload_n hx hb dX11_canOn_24 rfl (lv_at hl 5 rfl) ?_
      obtain ⟨z6, h6, h⟩ := ob_some h
      refine k_q (va_runV (As := [.int x3]) (rest := []) ⟨hx, hb, hml, hown, hts⟩ (c_X0_roadAt (l := l) M b5 x3 kb5 h6) (cwV 1 hts gX11_canOn_X0_roadAt rfl rfl rfl hdV_X0_roadAt ⟨Nat.le_of_ble_eq_true rfl, Nat.le_of_ble_eq_true rfl⟩) (pV (T := TX0) hP hK hD hT hG hS kb5 (by decide) rfl) rfl rfl hl.1 rfl (lv_room (Nat.le_of_ble_eq_true rfl)) dX11_canOn_25 ⟨Nat.zero_le _, Nat.zero_le _⟩) hS (fun H locs hq6 hP hD hT hS => ?_)
      rcases hN6 : z6 with _ | b6
      · replace h := oc_n hN6 h
        show W _ _ _ _ _ _ _ _ _ _ _ _ _ _ _ (F0 _ _ _ (.null :: []))
        refine lv_astoreN (lv' := [(6, .null), (5, .null), (4, .null), (0, .ref (ad a0)), (1, .int x1), (2, .int x2), (3, .int x3)]) hx hb dX11_canOn_28 hl (by decide) rfl (fun ls hl => ?_)
        refine lv_aloadN hx hb dX11_canOn_30 (lv_at hl 2 rfl) ?_
        refine lv_ifnullN (tgt := 45) hx hb dX11_canOn_32 rfl ?_
        refine lv_aload_n hx hb dX11_canOn_45 rfl (lv_at hl 3 rfl) ?_
        refine lv_iconst (v := 1) hx hb dX11_canOn_46 rfl ?_
        obtain ⟨z7, h7, h⟩ := ob_some h
        refine k_i (va_runV (As := [.int 1]) (rest := []) ⟨hx, hb, hml, hown, hts⟩ (c_X11_refused (l := l) M a0 1 k0 h7) (cwV 1 hts gX11_canOn_X11_refused rfl rfl rfl hdV_X11_refused ⟨Nat.le_of_ble_eq_true rfl, Nat.le_of_ble_eq_true rfl⟩) (pV (T := TX11) hP hK hD hT hG hS k0 (by decide) rfl) rfl rfl hl.1 rfl (lv_room (Nat.le_of_ble_eq_true rfl)) dX11_canOn_47 ⟨Nat.zero_le _, Nat.zero_le _⟩) hS (fun H locs hP hD hT hS => ?_)
        have hZ := Option.some.inj h
        have hZ1 := congrArg Prod.fst hZ
        have hZ2 := congrArg Prod.snd hZ
        exact r_iret hx hb hr hlocks hP hK hD hT hG hS hZ1 hZ2 dX11_canOn_50
      · replace h := oc_s hN6 h
        have kb6 := hq6 _ hN6
        show W _ _ _ _ _ _ _ _ _ _ _ _ _ _ _ (F0 _ _ _ (.ref (ad b6) :: []))
        refine lv_astore (lv' := [(6, .ref (ad b6)), (5, .null), (4, .null), (0, .ref (ad a0)), (1, .int x1), (2, .int x2), (3, .int x3)]) hx hb dX11_canOn_28 hl (by decide) rfl (fun ls hl => ?_)
        refine lv_aloadN hx hb dX11_canOn_30 (lv_at hl 2 rfl) ?_
        refine lv_ifnullN (tgt := 45) hx hb dX11_canOn_32 rfl ?_
        refine lv_aload_n hx hb dX11_canOn_45 rfl (lv_at hl 3 rfl) ?_
        refine lv_iconst (v := 1) hx hb dX11_canOn_46 rfl ?_
        obtain ⟨z8, h8, h⟩ := ob_some h
        refine k_i (va_runV (As := [.int 1]) (rest := []) ⟨hx, hb, hml, hown, hts⟩ (c_X11_refused (l := l) M a0 1 k0 h8) (cwV 1 hts gX11_canOn_X11_refused rfl rfl rfl hdV_X11_refused ⟨Nat.le_of_ble_eq_true rfl, Nat.le_of_ble_eq_true rfl⟩) (pV (T := TX11) hP hK hD hT hG hS k0 (by decide) rfl) rfl rfl hl.1 rfl (lv_room (Nat.le_of_ble_eq_true rfl)) dX11_canOn_47 ⟨Nat.zero_le _, Nat.zero_le _⟩) hS (fun H locs hP hD hT hS => ?_)
        have hZ := Option.some.inj h
        have hZ1 := congrArg Prod.fst hZ
        have hZ2 := congrArg Prod.snd hZ
        exact r_iret hx hb hr hlocks hP hK hD hT hG hS hZ1 hZ2 dX11_canOn_50
    · replace h := oc_s hN4 h
      have kb4 := hq4 _ hN4
      show W _ _ _ _ _ _ _ _ _ _ _ _ _ _ _ (F0 _ _ _ (.ref (ad b4) :: []))
      refine lv_astore (lv' := [(5, .ref (ad b4)), (4, .null), (0, .ref (ad a0)), (1, .int x1), (2, .int x2), (3, .int x3)]) hx hb dX11_canOn_18 hl (by decide) rfl (fun ls hl => ?_)
      refine lv_aload_n hx hb dX11_canOn_20 rfl (lv_at hl 2 rfl) ?_
      rcases hN9 : gR M a0 5 with _ | b9
      · exact absurd (oc_n hN9 h) (by simp)
      replace h := oc_s hN9 h
      have kb9 := hT.f k0 (k := 5) (t := 0) (n := 0) rfl hN9
      refine r_get (T := TX11) (v := .ref (ad b9)) hx hb hts in11 hown hK hP k0 (by decide) rfl 5 (by decide) (hts (.fieldLink RX11 45 "StoneWalk" "island" "LStoneWalk$Island;") (List.mem_of_getElem? (i := 1) (by decide +kernel))) rfl (t := 2) rfl (by show va_rf _ = _; rw [hN9]; rfl) dX11_canOn_21 ?_
      refine lv_iload_n hx hb dX11_canOn_24 rfl (lv_at hl 5 rfl) ?_
      obtain ⟨z10, h10, h⟩ := ob_some h
      refine k_q (va_runV (As := [.int x3]) (rest := []) ⟨hx, hb, hml, hown, hts⟩ (c_X0_roadAt (l := l) M b9 x3 kb9 h10) (cwV 1 hts gX11_canOn_X0_roadAt rfl rfl rfl hdV_X0_roadAt ⟨Nat.le_of_ble_eq_true rfl, Nat.le_of_ble_eq_true rfl⟩) (pV (T := TX0) hP hK hD hT hG hS kb9 (by decide) rfl) rfl rfl hl.1 rfl (lv_room (Nat.le_of_ble_eq_true rfl)) dX11_canOn_25 ⟨Nat.zero_le _, Nat.zero_le _⟩) hS (fun H locs hq10 hP hD hT hS => ?_)
      rcases hN10 : z10 with _ | b10
      · replace h := oc_n hN10 h
        show W _ _ _ _ _ _ _ _ _ _ _ _ _ _ _ (F0 _ _ _ (.null :: []))
        refine lv_astoreN (lv' := [(6, .null), (5, .ref (ad b4)), (4, .null), (0, .ref (ad a0)), (1, .int x1), (2, .int x2), (3, .int x3)]) hx hb dX11_canOn_28 hl (by decide) rfl (fun ls hl => ?_)
        refine lv_aloadN hx hb dX11_canOn_30 (lv_at hl 2 rfl) ?_
        refine lv_ifnullN (tgt := 45) hx hb dX11_canOn_32 rfl ?_
        refine lv_aload_n hx hb dX11_canOn_45 rfl (lv_at hl 3 rfl) ?_
        refine lv_iconst (v := 1) hx hb dX11_canOn_46 rfl ?_
        obtain ⟨z11, h11, h⟩ := ob_some h
        refine k_i (va_runV (As := [.int 1]) (rest := []) ⟨hx, hb, hml, hown, hts⟩ (c_X11_refused (l := l) M a0 1 k0 h11) (cwV 1 hts gX11_canOn_X11_refused rfl rfl rfl hdV_X11_refused ⟨Nat.le_of_ble_eq_true rfl, Nat.le_of_ble_eq_true rfl⟩) (pV (T := TX11) hP hK hD hT hG hS k0 (by decide) rfl) rfl rfl hl.1 rfl (lv_room (Nat.le_of_ble_eq_true rfl)) dX11_canOn_47 ⟨Nat.zero_le _, Nat.zero_le _⟩) hS (fun H locs hP hD hT hS => ?_)
        have hZ := Option.some.inj h
        have hZ1 := congrArg Prod.fst hZ
        have hZ2 := congrArg Prod.snd hZ
        exact r_iret hx hb hr hlocks hP hK hD hT hG hS hZ1 hZ2 dX11_canOn_50
      · replace h := oc_s hN10 h
        have kb10 := hq10 _ hN10
        show W _ _ _ _ _ _ _ _ _ _ _ _ _ _ _ (F0 _ _ _ (.ref (ad b10) :: []))
        refine lv_astore (lv' := [(6, .ref (ad b10)), (5, .ref (ad b4)), (4, .null), (0, .ref (ad a0)), (1, .int x1), (2, .int x2), (3, .int x3)]) hx hb dX11_canOn_28 hl (by decide) rfl (fun ls hl => ?_)
        refine lv_aloadN hx hb dX11_canOn_30 (lv_at hl 2 rfl) ?_
        refine lv_ifnullN (tgt := 45) hx hb dX11_canOn_32 rfl ?_
        refine lv_aload_n hx hb dX11_canOn_45 rfl (lv_at hl 3 rfl) ?_
        refine lv_iconst (v := 1) hx hb dX11_canOn_46 rfl ?_
        obtain ⟨z12, h12, h⟩ := ob_some h
        refine k_i (va_runV (As := [.int 1]) (rest := []) ⟨hx, hb, hml, hown, hts⟩ (c_X11_refused (l := l) M a0 1 k0 h12) (cwV 1 hts gX11_canOn_X11_refused rfl rfl rfl hdV_X11_refused ⟨Nat.le_of_ble_eq_true rfl, Nat.le_of_ble_eq_true rfl⟩) (pV (T := TX11) hP hK hD hT hG hS k0 (by decide) rfl) rfl rfl hl.1 rfl (lv_room (Nat.le_of_ble_eq_true rfl)) dX11_canOn_47 ⟨Nat.zero_le _, Nat.zero_le _⟩) hS (fun H locs hP hD hT hS => ?_)
        have hZ := Option.some.inj h
        have hZ1 := congrArg Prod.fst hZ
        have hZ2 := congrArg Prod.snd hZ
        exact r_iret hx hb hr hlocks hP hK hD hT hG hS hZ1 hZ2 dX11_canOn_50
  · replace h := oc_s hN2 h
    have kb2 := hq2 _ hN2
    show W _ _ _ _ _ _ _ _ _ _ _ _ _ _ _ (F0 _ _ _ (.ref (ad b2) :: []))
    refine lv_astore (lv' := [(4, .ref (ad b2)), (0, .ref (ad a0)), (1, .int x1), (2, .int x2), (3, .int x3)]) hx hb dX11_canOn_8 hl (by decide) rfl (fun ls hl => ?_)
    refine lv_aload_n hx hb dX11_canOn_10 rfl (lv_at hl 1 rfl) ?_
    rcases hN13 : gR M a0 5 with _ | b13
    · exact absurd (oc_n hN13 h) (by simp)
    replace h := oc_s hN13 h
    have kb13 := hT.f k0 (k := 5) (t := 0) (n := 0) rfl hN13
    refine r_get (T := TX11) (v := .ref (ad b13)) hx hb hts in11 hown hK hP k0 (by decide) rfl 5 (by decide) (hts (.fieldLink RX11 45 "StoneWalk" "island" "LStoneWalk$Island;") (List.mem_of_getElem? (i := 1) (by decide +kernel))) rfl (t := 2) rfl (by show va_rf _ = _; rw [hN13]; rfl) dX11_canOn_11 ?_
    refine lv_iload_n hx hb dX11_canOn_14 rfl (lv_at hl 3 rfl) ?_
    obtain ⟨z14, h14, h⟩ := ob_some h
    refine k_q (va_runV (As := [.int x2]) (rest := []) ⟨hx, hb, hml, hown, hts⟩ (c_X0_statueAt (l := l) M b13 x2 kb13 h14) (cwV 1 hts gX11_canOn_X0_statueAt rfl rfl rfl hdV_X0_statueAt ⟨Nat.le_of_ble_eq_true rfl, Nat.le_of_ble_eq_true rfl⟩) (pV (T := TX0) hP hK hD hT hG hS kb13 (by decide) rfl) rfl rfl hl.1 rfl (lv_room (Nat.le_of_ble_eq_true rfl)) dX11_canOn_15 ⟨Nat.zero_le _, Nat.zero_le _⟩) hS (fun H locs hq14 hP hD hT hS => ?_)
    rcases hN14 : z14 with _ | b14
    · replace h := oc_n hN14 h
      show W _ _ _ _ _ _ _ _ _ _ _ _ _ _ _ (F0 _ _ _ (.null :: []))
      refine lv_astoreN (lv' := [(5, .null), (4, .ref (ad b2)), (0, .ref (ad a0)), (1, .int x1), (2, .int x2), (3, .int x3)]) hx hb dX11_canOn_18 hl (by decide) rfl (fun ls hl => ?_)
      refine lv_aload_n hx hb dX11_canOn_20 rfl (lv_at hl 2 rfl) ?_
      rcases hN15 : gR M a0 5 with _ | b15
      · exact absurd (oc_n hN15 h) (by simp)
      replace h := oc_s hN15 h
      have kb15 := hT.f k0 (k := 5) (t := 0) (n := 0) rfl hN15
      refine r_get (T := TX11) (v := .ref (ad b15)) hx hb hts in11 hown hK hP k0 (by decide) rfl 5 (by decide) (hts (.fieldLink RX11 45 "StoneWalk" "island" "LStoneWalk$Island;") (List.mem_of_getElem? (i := 1) (by decide +kernel))) rfl (t := 2) rfl (by show va_rf _ = _; rw [hN15]; rfl) dX11_canOn_21 ?_
      refine lv_iload_n hx hb dX11_canOn_24 rfl (lv_at hl 5 rfl) ?_
      obtain ⟨z16, h16, h⟩ := ob_some h
      refine k_q (va_runV (As := [.int x3]) (rest := []) ⟨hx, hb, hml, hown, hts⟩ (c_X0_roadAt (l := l) M b15 x3 kb15 h16) (cwV 1 hts gX11_canOn_X0_roadAt rfl rfl rfl hdV_X0_roadAt ⟨Nat.le_of_ble_eq_true rfl, Nat.le_of_ble_eq_true rfl⟩) (pV (T := TX0) hP hK hD hT hG hS kb15 (by decide) rfl) rfl rfl hl.1 rfl (lv_room (Nat.le_of_ble_eq_true rfl)) dX11_canOn_25 ⟨Nat.zero_le _, Nat.zero_le _⟩) hS (fun H locs hq16 hP hD hT hS => ?_)
      rcases hN16 : z16 with _ | b16
      · replace h := oc_n hN16 h
        show W _ _ _ _ _ _ _ _ _ _ _ _ _ _ _ (F0 _ _ _ (.null :: []))
        refine lv_astoreN (lv' := [(6, .null), (5, .null), (4, .ref (ad b2)), (0, .ref (ad a0)), (1, .int x1), (2, .int x2), (3, .int x3)]) hx hb dX11_canOn_28 hl (by decide) rfl (fun ls hl => ?_)
        refine lv_aload hx hb dX11_canOn_30 (lv_at hl 2 rfl) ?_
        refine lv_ifnull hx hb dX11_canOn_32 ?_
        refine lv_aloadN hx hb dX11_canOn_35 (lv_at hl 1 rfl) ?_
        refine lv_ifnullN (tgt := 45) hx hb dX11_canOn_37 rfl ?_
        refine lv_aload_n hx hb dX11_canOn_45 rfl (lv_at hl 3 rfl) ?_
        refine lv_iconst (v := 1) hx hb dX11_canOn_46 rfl ?_
        obtain ⟨z17, h17, h⟩ := ob_some h
        refine k_i (va_runV (As := [.int 1]) (rest := []) ⟨hx, hb, hml, hown, hts⟩ (c_X11_refused (l := l) M a0 1 k0 h17) (cwV 1 hts gX11_canOn_X11_refused rfl rfl rfl hdV_X11_refused ⟨Nat.le_of_ble_eq_true rfl, Nat.le_of_ble_eq_true rfl⟩) (pV (T := TX11) hP hK hD hT hG hS k0 (by decide) rfl) rfl rfl hl.1 rfl (lv_room (Nat.le_of_ble_eq_true rfl)) dX11_canOn_47 ⟨Nat.zero_le _, Nat.zero_le _⟩) hS (fun H locs hP hD hT hS => ?_)
        have hZ := Option.some.inj h
        have hZ1 := congrArg Prod.fst hZ
        have hZ2 := congrArg Prod.snd hZ
        exact r_iret hx hb hr hlocks hP hK hD hT hG hS hZ1 hZ2 dX11_canOn_50
      · replace h := oc_s hN16 h
        have kb16 := hq16 _ hN16
        show W _ _ _ _ _ _ _ _ _ _ _ _ _ _ _ (F0 _ _ _ (.ref (ad b16) :: []))
        refine lv_astore (lv' := [(6, .ref (ad b16)), (5, .null), (4, .ref (ad b2)), (0, .ref (ad a0)), (1, .int x1), (2, .int x2), (3, .int x3)]) hx hb dX11_canOn_28 hl (by decide) rfl (fun ls hl => ?_)
        refine lv_aload hx hb dX11_canOn_30 (lv_at hl 2 rfl) ?_
        refine lv_ifnull hx hb dX11_canOn_32 ?_
        refine lv_aloadN hx hb dX11_canOn_35 (lv_at hl 1 rfl) ?_
        refine lv_ifnullN (tgt := 45) hx hb dX11_canOn_37 rfl ?_
        refine lv_aload_n hx hb dX11_canOn_45 rfl (lv_at hl 3 rfl) ?_
        refine lv_iconst (v := 1) hx hb dX11_canOn_46 rfl ?_
        obtain ⟨z18, h18, h⟩ := ob_some h
        refine k_i (va_runV (As := [.int 1]) (rest := []) ⟨hx, hb, hml, hown, hts⟩ (c_X11_refused (l := l) M a0 1 k0 h18) (cwV 1 hts gX11_canOn_X11_refused rfl rfl rfl hdV_X11_refused ⟨Nat.le_of_ble_eq_true rfl, Nat.le_of_ble_eq_true rfl⟩) (pV (T := TX11) hP hK hD hT hG hS k0 (by decide) rfl) rfl rfl hl.1 rfl (lv_room (Nat.le_of_ble_eq_true rfl)) dX11_canOn_47 ⟨Nat.zero_le _, Nat.zero_le _⟩) hS (fun H locs hP hD hT hS => ?_)
        have hZ := Option.some.inj h
        have hZ1 := congrArg Prod.fst hZ
        have hZ2 := congrArg Prod.snd hZ
        exact r_iret hx hb hr hlocks hP hK hD hT hG hS hZ1 hZ2 dX11_canOn_50
    · replace h := oc_s hN14 h
      have kb14 := hq14 _ hN14
      show W _ _ _ _ _ _ _ _ _ _ _ _ _ _ _ (F0 _ _ _ (.ref (ad b14) :: []))
      refine lv_astore (lv' := [(5, .ref (ad b14)), (4, .ref (ad b2)), (0, .ref (ad a0)), (1, .int x1), (2, .int x2), (3, .int x3)]) hx hb dX11_canOn_18 hl (by decide) rfl (fun ls hl => ?_)
      refine lv_aload_n hx hb dX11_canOn_20 rfl (lv_at hl 2 rfl) ?_
      rcases hN19 : gR M a0 5 with _ | b19
      · exact absurd (oc_n hN19 h) (by simp)
      replace h := oc_s hN19 h
      have kb19 := hT.f k0 (k := 5) (t := 0) (n := 0) rfl hN19
      refine r_get (T := TX11) (v := .ref (ad b19)) hx hb hts in11 hown hK hP k0 (by decide) rfl 5 (by decide) (hts (.fieldLink RX11 45 "StoneWalk" "island" "LStoneWalk$Island;") (List.mem_of_getElem? (i := 1) (by decide +kernel))) rfl (t := 2) rfl (by show va_rf _ = _; rw [hN19]; rfl) dX11_canOn_21 ?_
      refine lv_iload_n hx hb dX11_canOn_24 rfl (lv_at hl 5 rfl) ?_
      obtain ⟨z20, h20, h⟩ := ob_some h
      refine k_q (va_runV (As := [.int x3]) (rest := []) ⟨hx, hb, hml, hown, hts⟩ (c_X0_roadAt (l := l) M b19 x3 kb19 h20) (cwV 1 hts gX11_canOn_X0_roadAt rfl rfl rfl hdV_X0_roadAt ⟨Nat.le_of_ble_eq_true rfl, Nat.le_of_ble_eq_true rfl⟩) (pV (T := TX0) hP hK hD hT hG hS kb19 (by decide) rfl) rfl rfl hl.1 rfl (lv_room (Nat.le_of_ble_eq_true rfl)) dX11_canOn_25 ⟨Nat.zero_le _, Nat.zero_le _⟩) hS (fun H locs hq20 hP hD hT hS => ?_)
      rcases hN20 : z20 with _ | b20
      · replace h := oc_n hN20 h
        show W _ _ _ _ _ _ _ _ _ _ _ _ _ _ _ (F0 _ _ _ (.null :: []))
        refine lv_astoreN (lv' := [(6, .null), (5, .ref (ad b14)), (4, .ref (ad b2)), (0, .ref (ad a0)), (1, .int x1), (2, .int x2), (3, .int x3)]) hx hb dX11_canOn_28 hl (by decide) rfl (fun ls hl => ?_)
        refine lv_aload hx hb dX11_canOn_30 (lv_at hl 2 rfl) ?_
        refine lv_ifnull hx hb dX11_canOn_32 ?_
        refine lv_aload hx hb dX11_canOn_35 (lv_at hl 1 rfl) ?_
        refine lv_ifnull hx hb dX11_canOn_37 ?_
        refine lv_aloadN hx hb dX11_canOn_40 (lv_at hl 0 rfl) ?_
        refine lv_ifnonnullN hx hb dX11_canOn_42 ?_
        refine lv_aload_n hx hb dX11_canOn_45 rfl (lv_at hl 3 rfl) ?_
        refine lv_iconst (v := 1) hx hb dX11_canOn_46 rfl ?_
        obtain ⟨z21, h21, h⟩ := ob_some h
        refine k_i (va_runV (As := [.int 1]) (rest := []) ⟨hx, hb, hml, hown, hts⟩ (c_X11_refused (l := l) M a0 1 k0 h21) (cwV 1 hts gX11_canOn_X11_refused rfl rfl rfl hdV_X11_refused ⟨Nat.le_of_ble_eq_true rfl, Nat.le_of_ble_eq_true rfl⟩) (pV (T := TX11) hP hK hD hT hG hS k0 (by decide) rfl) rfl rfl hl.1 rfl (lv_room (Nat.le_of_ble_eq_true rfl)) dX11_canOn_47 ⟨Nat.zero_le _, Nat.zero_le _⟩) hS (fun H locs hP hD hT hS => ?_)
        have hZ := Option.some.inj h
        have hZ1 := congrArg Prod.fst hZ
        have hZ2 := congrArg Prod.snd hZ
        exact r_iret hx hb hr hlocks hP hK hD hT hG hS hZ1 hZ2 dX11_canOn_50
      · replace h := oc_s hN20 h
        have kb20 := hq20 _ hN20
        show W _ _ _ _ _ _ _ _ _ _ _ _ _ _ _ (F0 _ _ _ (.ref (ad b20) :: []))
        refine lv_astore (lv' := [(6, .ref (ad b20)), (5, .ref (ad b14)), (4, .ref (ad b2)), (0, .ref (ad a0)), (1, .int x1), (2, .int x2), (3, .int x3)]) hx hb dX11_canOn_28 hl (by decide) rfl (fun ls hl => ?_)
        refine lv_aload hx hb dX11_canOn_30 (lv_at hl 2 rfl) ?_
        refine lv_ifnull hx hb dX11_canOn_32 ?_
        refine lv_aload hx hb dX11_canOn_35 (lv_at hl 1 rfl) ?_
        refine lv_ifnull hx hb dX11_canOn_37 ?_
        refine lv_aload hx hb dX11_canOn_40 (lv_at hl 0 rfl) ?_
        refine lv_ifnonnull (tgt := 51) hx hb dX11_canOn_42 rfl ?_
        refine lv_aload_n hx hb dX11_canOn_51 rfl (lv_at hl 3 rfl) ?_
        refine lv_aload hx hb dX11_canOn_52 (lv_at hl 2 rfl) ?_
        refine lv_aload hx hb dX11_canOn_54 (lv_at hl 1 rfl) ?_
        refine lv_aload hx hb dX11_canOn_56 (lv_at hl 0 rfl) ?_
        obtain ⟨z22, h22, h⟩ := ob_some h
        refine k_i (va_runV (As := [.ref (ad b14), .ref (ad b20)]) (rest := [.ref (ad a0)]) ⟨hx, hb, hml, hown, hts⟩ (c_X10_passable (l := l) M b2 b14 b20 kb2 kb14 kb20 h22) (cwV 2 hts gX11_canOn_X10_passable rfl rfl rfl hdV_X10_passable ⟨Nat.le_of_ble_eq_true rfl, Nat.le_of_ble_eq_true rfl⟩) (pV (T := TX10) hP hK hD hT hG hS kb2 (by decide) rfl) rfl rfl hl.1 rfl (lv_room (Nat.le_of_ble_eq_true rfl)) dX11_canOn_58 ⟨Nat.zero_le _, Nat.zero_le _⟩) hS (fun H locs hP hD hT hS => ?_)
        obtain ⟨z23, h23, h⟩ := ob_some h
        refine k_i (va_runV (As := [.int z22]) (rest := []) ⟨hx, hb, hml, hown, hts⟩ (c_X11_granted (l := l) M a0 z22 k0 h23) (cwV 1 hts gX11_canOn_X11_granted rfl rfl rfl hdV_X11_granted ⟨Nat.le_of_ble_eq_true rfl, Nat.le_of_ble_eq_true rfl⟩) (pV (T := TX11) hP hK hD hT hG hS k0 (by decide) rfl) rfl rfl hl.1 rfl (lv_room (Nat.le_of_ble_eq_true rfl)) dX11_canOn_61 ⟨Nat.zero_le _, Nat.zero_le _⟩) hS (fun H locs hP hD hT hS => ?_)
        have hZ := Option.some.inj h
        have hZ1 := congrArg Prod.fst hZ
        have hZ2 := congrArg Prod.snd hZ
        exact r_iret hx hb hr hlocks hP hK hD hT hG hS hZ1 hZ2 dX11_canOn_64
set_option maxHeartbeats 4000000 in
set_option maxRecDepth 100000 in
theorem c_X11_unknown {l : Launch} {D : va_G} {ad : Nat → Nat} {cy : Nat → ClassId} {A : Nat → Prop} {g : CG} {q : SE} (M : MM) (a0 : Nat) (x1 : Int32) (k0 : ok g a0 11 0) {Z : (Int32 × MM)} (h : f_X11_unknown M a0 x1 = some Z) : Met l yX11_unknown wsX11_unknown ({ frames := 0, cells := 0, slots := 0, locals := 0 }) (va_Pc [.ref (ad a0), .int x1] (Wd D ad cy A g q M)) (va_Qi (fun r u => r = Z.1 ∧ u = Z.2) (Wd D ad cy A g q) A) 0 0 A := by
  refine Met.ofW (cc := cX11_unknown) (maxL := 2) (ret := (some .int)) (by decide) rfl ?_
  intro p e s m args below meth c s₁ B hml hv
  obtain ⟨rfl, hP, hK, hD, hT, hG⟩ := hv
  have hx := B.exec
  have hb := B.bytes
  have hr := B.returns
  have hts := atoms_spec (ws := wsX11_unknown) B.pre
  have hown : s.vm.findClass RX11 = some m.cls := findClass_of_methodNamed B.named
  have hlocks := B.notSynchronized
  have in11 : ∀ w ∈ u_ws RX11 TX11 8, w ∈ wsX11_unknown := fun w h => List.mem_cons_of_mem _ (List.mem_append_right _ h)
  have hS : va_S A s.heap s.heap [] := va_S.rf
  have hl := lv_entry ([.ref (ad a0), .int x1]) (n := 2) (Nat.le_of_ble_eq_true rfl)
  rw [lg_entry_eq]
  generalize (lg_sl ([.ref (ad a0), .int x1]) ++ List.replicate (2 - (lg_sl ([.ref (ad a0), .int x1])).length) Slot.unset).toArray = ls at hl ⊢
  have hl : lv_has ls 2 [(0, .ref (ad a0)), (1, .int x1)] := hl
  unfold f_X11_unknown at h
  refine lv_aload_n hx hb dX11_unknown_0 rfl (lv_at hl 0 rfl) ?_
  refine lv_iload_n hx hb dX11_unknown_1 rfl (lv_at hl 1 rfl) ?_
  refine r_putI (T := TX11) (ty := .int) (v := x1) hx hb hts in11 tyX11 tyX11_ok nmX11 hown hK hP hD hT hS k0 (by decide) rfl 7 (by decide) (hts (.fieldLink RX11 52 "StoneWalk" "trouble" "I") (List.mem_of_getElem? (i := 1) (by decide +kernel))) rfl rfl (tyX11_ok 7 (by decide)) rfl rfl rfl dX11_unknown_2 (fun H locs hP hD hT hS => ?_)
  refine lv_sipush (v := (-1000)) hx hb dX11_unknown_5 rfl ?_
  have hZ := Option.some.inj h
  have hZ1 := congrArg Prod.fst hZ
  have hZ2 := congrArg Prod.snd hZ
  exact r_iret hx hb hr hlocks hP hK hD hT hG hS hZ1 hZ2 dX11_unknown_8
set_option maxHeartbeats 4000000 in
set_option maxRecDepth 100000 in
theorem c_X11_steepest {l : Launch} {D : va_G} {ad : Nat → Nat} {cy : Nat → ClassId} {A : Nat → Prop} {g : CG} {q : SE} (M : MM) (a0 : Nat) (x1 : Int32) (x2 : Int32) (x3 : Int32) (k0 : ok g a0 11 0) {Z : (Int32 × MM)} (h : f_X11_steepest M a0 x1 x2 x3 = some Z) : Met l yX11_steepest wsX11_steepest ({ frames := 2, cells := 0, slots := 0, locals := 47 }) (va_Pc [.ref (ad a0), .int x1, .int x2, .int x3] (Wd D ad cy A g q M)) (va_Qi (fun r u => r = Z.1 ∧ u = Z.2) (Wd D ad cy A g q) A) 0 0 A := by
  refine Met.ofW (cc := cX11_steepest) (maxL := 6) (ret := (some .int)) (by decide) rfl ?_
  intro p e s m args below meth c s₁ B hml hv
  obtain ⟨rfl, hP, hK, hD, hT, hG⟩ := hv
  have hx := B.exec
  have hb := B.bytes
  have hr := B.returns
  have hts := atoms_spec (ws := wsX11_steepest) B.pre
  have hown : s.vm.findClass RX11 = some m.cls := findClass_of_methodNamed B.named
  have hlocks := B.notSynchronized
  have in11 : ∀ w ∈ u_ws RX11 TX11 8, w ∈ wsX11_steepest := fun w h => List.mem_cons_of_mem _ (List.mem_append_left _ (List.mem_append_left _ (List.mem_append_left _ (List.mem_append_right _ h))))
  have hS : va_S A s.heap s.heap [] := va_S.rf
  have hl := lv_entry ([.ref (ad a0), .int x1, .int x2, .int x3]) (n := 6) (Nat.le_of_ble_eq_true rfl)
  rw [lg_entry_eq]
  generalize (lg_sl ([.ref (ad a0), .int x1, .int x2, .int x3]) ++ List.replicate (6 - (lg_sl ([.ref (ad a0), .int x1, .int x2, .int x3])).length) Slot.unset).toArray = ls at hl ⊢
  have hl : lv_has ls 6 [(0, .ref (ad a0)), (1, .int x1), (2, .int x2), (3, .int x3)] := hl
  unfold f_X11_steepest at h
  refine lv_aload_n hx hb dX11_steepest_0 rfl (lv_at hl 0 rfl) ?_
  rcases hN1 : gR M a0 5 with _ | b1
  · exact absurd (oc_n hN1 h) (by simp)
  replace h := oc_s hN1 h
  have kb1 := hT.f k0 (k := 5) (t := 0) (n := 0) rfl hN1
  refine r_get (T := TX11) (v := .ref (ad b1)) hx hb hts in11 hown hK hP k0 (by decide) rfl 5 (by decide) (hts (.fieldLink RX11 45 "StoneWalk" "island" "LStoneWalk$Island;") (List.mem_of_getElem? (i := 1) (by decide +kernel))) rfl (t := 2) rfl (by show va_rf _ = _; rw [hN1]; rfl) dX11_steepest_1 ?_
  refine lv_iload_n hx hb dX11_steepest_4 rfl (lv_at hl 1 rfl) ?_
  obtain ⟨z2, h2, h⟩ := ob_some h
  refine k_q (va_runV (As := [.int x1]) (rest := []) ⟨hx, hb, hml, hown, hts⟩ (c_X0_wayAt (l := l) M b1 x1 kb1 h2) (cwV 1 hts gX11_steepest_X0_wayAt rfl rfl rfl hdV_X0_wayAt ⟨Nat.le_of_ble_eq_true rfl, Nat.le_of_ble_eq_true rfl⟩) (pV (T := TX0) hP hK hD hT hG hS kb1 (by decide) rfl) rfl rfl hl.1 rfl (lv_room (Nat.le_of_ble_eq_true rfl)) dX11_steepest_5 ⟨Nat.zero_le _, Nat.zero_le _⟩) hS (fun H locs hq2 hP hD hT hS => ?_)
  rcases hN2 : z2 with _ | b2
  · replace h := oc_n hN2 h
    show W _ _ _ _ _ _ _ _ _ _ _ _ _ _ _ (F0 _ _ _ (.null :: []))
    refine lv_astoreN (lv' := [(4, .null), (0, .ref (ad a0)), (1, .int x1), (2, .int x2), (3, .int x3)]) hx hb dX11_steepest_8 hl (by decide) rfl (fun ls hl => ?_)
    refine lv_aload_n hx hb dX11_steepest_10 rfl (lv_at hl 1 rfl) ?_
    rcases hN3 : gR M a0 5 with _ | b3
    · exact absurd (oc_n hN3 h) (by simp)
    replace h := oc_s hN3 h
    have kb3 := hT.f k0 (k := 5) (t := 0) (n := 0) rfl hN3
    refine r_get (T := TX11) (v := .ref (ad b3)) hx hb hts in11 hown hK hP k0 (by decide) rfl 5 (by decide) (hts (.fieldLink RX11 45 "StoneWalk" "island" "LStoneWalk$Island;") (List.mem_of_getElem? (i := 1) (by decide +kernel))) rfl (t := 2) rfl (by show va_rf _ = _; rw [hN3]; rfl) dX11_steepest_11 ?_
    refine lv_iload_n hx hb dX11_steepest_14 rfl (lv_at hl 3 rfl) ?_
    obtain ⟨z4, h4, h⟩ := ob_some h
    refine k_q (va_runV (As := [.int x2]) (rest := []) ⟨hx, hb, hml, hown, hts⟩ (c_X0_statueAt (l := l) M b3 x2 kb3 h4) (cwV 1 hts gX11_steepest_X0_statueAt rfl rfl rfl hdV_X0_statueAt ⟨Nat.le_of_ble_eq_true rfl, Nat.le_of_ble_eq_true rfl⟩) (pV (T := TX0) hP hK hD hT hG hS kb3 (by decide) rfl) rfl rfl hl.1 rfl (lv_room (Nat.le_of_ble_eq_true rfl)) dX11_steepest_15 ⟨Nat.zero_le _, Nat.zero_le _⟩) hS (fun H locs hq4 hP hD hT hS => ?_)
    rcases hN4 : z4 with _ | b4
    · replace h := oc_n hN4 h
      show W _ _ _ _ _ _ _ _ _ _ _ _ _ _ _ (F0 _ _ _ (.null :: []))
      refine lv_astoreN (lv' := [(5, .null), (4, .null), (0, .ref (ad a0)), (1, .int x1), (2, .int x2), (3, .int x3)]) hx hb dX11_steepest_18 hl (by decide) rfl (fun ls hl => ?_)
      refine lv_aloadN hx hb dX11_steepest_20 (lv_at hl 1 rfl) ?_
      refine lv_ifnullN (tgt := 30) hx hb dX11_steepest_22 rfl ?_
      refine lv_aload_n hx hb dX11_steepest_30 rfl (lv_at hl 2 rfl) ?_
      refine lv_iconst (v := 1) hx hb dX11_steepest_31 rfl ?_
      obtain ⟨z5, h5, h⟩ := ob_some h
      refine k_i (va_runV (As := [.int 1]) (rest := []) ⟨hx, hb, hml, hown, hts⟩ (c_X11_unknown (l := l) M a0 1 k0 h5) (cwV 1 hts gX11_steepest_X11_unknown rfl rfl rfl hdV_X11_unknown ⟨Nat.le_of_ble_eq_true rfl, Nat.le_of_ble_eq_true rfl⟩) (pV (T := TX11) hP hK hD hT hG hS k0 (by decide) rfl) rfl rfl hl.1 rfl (lv_room (Nat.le_of_ble_eq_true rfl)) dX11_steepest_32 ⟨Nat.zero_le _, Nat.zero_le _⟩) hS (fun H locs hP hD hT hS => ?_)
      have hZ := Option.some.inj h
      have hZ1 := congrArg Prod.fst hZ
      have hZ2 := congrArg Prod.snd hZ
      exact r_iret hx hb hr hlocks hP hK hD hT hG hS hZ1 hZ2 dX11_steepest_35
    · replace h := oc_s hN4 h
      have kb4 := hq4 _ hN4
      show W _ _ _ _ _ _ _ _ _ _ _ _ _ _ _ (F0 _ _ _ (.ref (ad b4) :: []))
      refine lv_astore (lv' := [(5, .ref (ad b4)), (4, .null), (0, .ref (ad a0)), (1, .int x1), (2, .int x2), (3, .int x3)]) hx hb dX11_steepest_18 hl (by decide) rfl (fun ls hl => ?_)
      refine lv_aloadN hx hb dX11_steepest_20 (lv_at hl 1 rfl) ?_
      refine lv_ifnullN (tgt := 30) hx hb dX11_steepest_22 rfl ?_
      refine lv_aload_n hx hb dX11_steepest_30 rfl (lv_at hl 2 rfl) ?_
      refine lv_iconst (v := 1) hx hb dX11_steepest_31 rfl ?_
      obtain ⟨z6, h6, h⟩ := ob_some h
      refine k_i (va_runV (As := [.int 1]) (rest := []) ⟨hx, hb, hml, hown, hts⟩ (c_X11_unknown (l := l) M a0 1 k0 h6) (cwV 1 hts gX11_steepest_X11_unknown rfl rfl rfl hdV_X11_unknown ⟨Nat.le_of_ble_eq_true rfl, Nat.le_of_ble_eq_true rfl⟩) (pV (T := TX11) hP hK hD hT hG hS k0 (by decide) rfl) rfl rfl hl.1 rfl (lv_room (Nat.le_of_ble_eq_true rfl)) dX11_steepest_32 ⟨Nat.zero_le _, Nat.zero_le _⟩) hS (fun H locs hP hD hT hS => ?_)
      have hZ := Option.some.inj h
      have hZ1 := congrArg Prod.fst hZ
      have hZ2 := congrArg Prod.snd hZ
      exact r_iret hx hb hr hlocks hP hK hD hT hG hS hZ1 hZ2 dX11_steepest_35
  · replace h := oc_s hN2 h
    have kb2 := hq2 _ hN2
    show W _ _ _ _ _ _ _ _ _ _ _ _ _ _ _ (F0 _ _ _ (.ref (ad b2) :: []))
    refine lv_astore (lv' := [(4, .ref (ad b2)), (0, .ref (ad a0)), (1, .int x1), (2, .int x2), (3, .int x3)]) hx hb dX11_steepest_8 hl (by decide) rfl (fun ls hl => ?_)
    refine lv_aload_n hx hb dX11_steepest_10 rfl (lv_at hl 1 rfl) ?_
    rcases hN7 : gR M a0 5 with _ | b7
    · exact absurd (oc_n hN7 h) (by simp)
    replace h := oc_s hN7 h
    have kb7 := hT.f k0 (k := 5) (t := 0) (n := 0) rfl hN7
    refine r_get (T := TX11) (v := .ref (ad b7)) hx hb hts in11 hown hK hP k0 (by decide) rfl 5 (by decide) (hts (.fieldLink RX11 45 "StoneWalk" "island" "LStoneWalk$Island;") (List.mem_of_getElem? (i := 1) (by decide +kernel))) rfl (t := 2) rfl (by show va_rf _ = _; rw [hN7]; rfl) dX11_steepest_11 ?_
    refine lv_iload_n hx hb dX11_steepest_14 rfl (lv_at hl 3 rfl) ?_
    obtain ⟨z8, h8, h⟩ := ob_some h
    refine k_q (va_runV (As := [.int x2]) (rest := []) ⟨hx, hb, hml, hown, hts⟩ (c_X0_statueAt (l := l) M b7 x2 kb7 h8) (cwV 1 hts gX11_steepest_X0_statueAt rfl rfl rfl hdV_X0_statueAt ⟨Nat.le_of_ble_eq_true rfl, Nat.le_of_ble_eq_true rfl⟩) (pV (T := TX0) hP hK hD hT hG hS kb7 (by decide) rfl) rfl rfl hl.1 rfl (lv_room (Nat.le_of_ble_eq_true rfl)) dX11_steepest_15 ⟨Nat.zero_le _, Nat.zero_le _⟩) hS (fun H locs hq8 hP hD hT hS => ?_)
    rcases hN8 : z8 with _ | b8
    · replace h := oc_n hN8 h
      show W _ _ _ _ _ _ _ _ _ _ _ _ _ _ _ (F0 _ _ _ (.null :: []))
      refine lv_astoreN (lv' := [(5, .null), (4, .ref (ad b2)), (0, .ref (ad a0)), (1, .int x1), (2, .int x2), (3, .int x3)]) hx hb dX11_steepest_18 hl (by decide) rfl (fun ls hl => ?_)
      refine lv_aload hx hb dX11_steepest_20 (lv_at hl 1 rfl) ?_
      refine lv_ifnull hx hb dX11_steepest_22 ?_
      refine lv_aloadN hx hb dX11_steepest_25 (lv_at hl 0 rfl) ?_
      refine lv_ifnonnullN hx hb dX11_steepest_27 ?_
      refine lv_aload_n hx hb dX11_steepest_30 rfl (lv_at hl 2 rfl) ?_
      refine lv_iconst (v := 1) hx hb dX11_steepest_31 rfl ?_
      obtain ⟨z9, h9, h⟩ := ob_some h
      refine k_i (va_runV (As := [.int 1]) (rest := []) ⟨hx, hb, hml, hown, hts⟩ (c_X11_unknown (l := l) M a0 1 k0 h9) (cwV 1 hts gX11_steepest_X11_unknown rfl rfl rfl hdV_X11_unknown ⟨Nat.le_of_ble_eq_true rfl, Nat.le_of_ble_eq_true rfl⟩) (pV (T := TX11) hP hK hD hT hG hS k0 (by decide) rfl) rfl rfl hl.1 rfl (lv_room (Nat.le_of_ble_eq_true rfl)) dX11_steepest_32 ⟨Nat.zero_le _, Nat.zero_le _⟩) hS (fun H locs hP hD hT hS => ?_)
      have hZ := Option.some.inj h
      have hZ1 := congrArg Prod.fst hZ
      have hZ2 := congrArg Prod.snd hZ
      exact r_iret hx hb hr hlocks hP hK hD hT hG hS hZ1 hZ2 dX11_steepest_35
    · replace h := oc_s hN8 h
      have kb8 := hq8 _ hN8
      show W _ _ _ _ _ _ _ _ _ _ _ _ _ _ _ (F0 _ _ _ (.ref (ad b8) :: []))
      refine lv_astore (lv' := [(5, .ref (ad b8)), (4, .ref (ad b2)), (0, .ref (ad a0)), (1, .int x1), (2, .int x2), (3, .int x3)]) hx hb dX11_steepest_18 hl (by decide) rfl (fun ls hl => ?_)
      refine lv_aload hx hb dX11_steepest_20 (lv_at hl 1 rfl) ?_
      refine lv_ifnull hx hb dX11_steepest_22 ?_
      refine lv_aload hx hb dX11_steepest_25 (lv_at hl 0 rfl) ?_
      refine lv_ifnonnull (tgt := 36) hx hb dX11_steepest_27 rfl ?_
      refine lv_aload_n hx hb dX11_steepest_36 rfl (lv_at hl 2 rfl) ?_
      refine lv_aload hx hb dX11_steepest_37 (lv_at hl 1 rfl) ?_
      refine lv_aload hx hb dX11_steepest_39 (lv_at hl 0 rfl) ?_
      refine lv_iload_n hx hb dX11_steepest_41 rfl (lv_at hl 5 rfl) ?_
      obtain ⟨z10, h10, h⟩ := ob_some h
      refine k_i (va_runV (As := [.ref (ad b8), .int x3]) (rest := [.ref (ad a0)]) ⟨hx, hb, hml, hown, hts⟩ (c_X10_limit (l := l) M b2 b8 x3 kb2 kb8 h10) (cwV 2 hts gX11_steepest_X10_limit rfl rfl rfl hdV_X10_limit ⟨Nat.le_of_ble_eq_true rfl, Nat.le_of_ble_eq_true rfl⟩) (pV (T := TX10) hP hK hD hT hG hS kb2 (by decide) rfl) rfl rfl hl.1 rfl (lv_room (Nat.le_of_ble_eq_true rfl)) dX11_steepest_42 ⟨Nat.zero_le _, Nat.zero_le _⟩) hS (fun H locs hP hD hT hS => ?_)
      obtain ⟨z11, h11, h⟩ := ob_some h
      refine k_i (va_runV (As := [.int z10]) (rest := []) ⟨hx, hb, hml, hown, hts⟩ (c_X11_granted (l := l) M a0 z10 k0 h11) (cwV 1 hts gX11_steepest_X11_granted rfl rfl rfl hdV_X11_granted ⟨Nat.le_of_ble_eq_true rfl, Nat.le_of_ble_eq_true rfl⟩) (pV (T := TX11) hP hK hD hT hG hS k0 (by decide) rfl) rfl rfl hl.1 rfl (lv_room (Nat.le_of_ble_eq_true rfl)) dX11_steepest_45 ⟨Nat.zero_le _, Nat.zero_le _⟩) hS (fun H locs hP hD hT hS => ?_)
      have hZ := Option.some.inj h
      have hZ1 := congrArg Prod.fst hZ
      have hZ2 := congrArg Prod.snd hZ
      exact r_iret hx hb hr hlocks hP hK hD hT hG hS hZ1 hZ2 dX11_steepest_48
set_option maxHeartbeats 4000000 in
set_option maxRecDepth 100000 in
theorem c_X11_need {l : Launch} {D : va_G} {ad : Nat → Nat} {cy : Nat → ClassId} {A : Nat → Prop} {g : CG} {q : SE} (M : MM) (a0 : Nat) (x1 : Int32) (x2 : Int32) (x3 : Int32) (k0 : ok g a0 11 0) {Z : (Int32 × MM)} (h : f_X11_need M a0 x1 x2 x3 = some Z) : Met l yX11_need wsX11_need ({ frames := 2, cells := 0, slots := 0, locals := 46 }) (va_Pc [.ref (ad a0), .int x1, .int x2, .int x3] (Wd D ad cy A g q M)) (va_Qi (fun r u => r = Z.1 ∧ u = Z.2) (Wd D ad cy A g q) A) 0 0 A := by
  refine Met.ofW (cc := cX11_need) (maxL := 6) (ret := (some .int)) (by decide) rfl ?_
  intro p e s m args below meth c s₁ B hml hv
  obtain ⟨rfl, hP, hK, hD, hT, hG⟩ := hv
  have hx := B.exec
  have hb := B.bytes
  have hr := B.returns
  have hts := atoms_spec (ws := wsX11_need) B.pre
  have hown : s.vm.findClass RX11 = some m.cls := findClass_of_methodNamed B.named
  have hlocks := B.notSynchronized
  have in5 : ∀ w ∈ u_ws RX5 TX5 8, w ∈ wsX11_need := fun w h => List.mem_cons_of_mem _ (List.mem_append_left _ (List.mem_append_left _ (List.mem_append_right _ h)))
  have in11 : ∀ w ∈ u_ws RX11 TX11 8, w ∈ wsX11_need := fun w h => List.mem_cons_of_mem _ (List.mem_append_left _ (List.mem_append_left _ (List.mem_append_left _ (List.mem_append_right _ h))))
  have hS : va_S A s.heap s.heap [] := va_S.rf
  have hl := lv_entry ([.ref (ad a0), .int x1, .int x2, .int x3]) (n := 6) (Nat.le_of_ble_eq_true rfl)
  rw [lg_entry_eq]
  generalize (lg_sl ([.ref (ad a0), .int x1, .int x2, .int x3]) ++ List.replicate (6 - (lg_sl ([.ref (ad a0), .int x1, .int x2, .int x3])).length) Slot.unset).toArray = ls at hl ⊢
  have hl : lv_has ls 6 [(0, .ref (ad a0)), (1, .int x1), (2, .int x2), (3, .int x3)] := hl
  unfold f_X11_need at h
  refine lv_aload_n hx hb dX11_need_0 rfl (lv_at hl 0 rfl) ?_
  rcases hN1 : gR M a0 5 with _ | b1
  · exact absurd (oc_n hN1 h) (by simp)
  replace h := oc_s hN1 h
  have kb1 := hT.f k0 (k := 5) (t := 0) (n := 0) rfl hN1
  refine r_get (T := TX11) (v := .ref (ad b1)) hx hb hts in11 hown hK hP k0 (by decide) rfl 5 (by decide) (hts (.fieldLink RX11 45 "StoneWalk" "island" "LStoneWalk$Island;") (List.mem_of_getElem? (i := 1) (by decide +kernel))) rfl (t := 2) rfl (by show va_rf _ = _; rw [hN1]; rfl) dX11_need_1 ?_
  refine lv_iload_n hx hb dX11_need_4 rfl (lv_at hl 1 rfl) ?_
  obtain ⟨z2, h2, h⟩ := ob_some h
  refine k_q (va_runV (As := [.int x1]) (rest := []) ⟨hx, hb, hml, hown, hts⟩ (c_X0_wayAt (l := l) M b1 x1 kb1 h2) (cwV 1 hts gX11_need_X0_wayAt rfl rfl rfl hdV_X0_wayAt ⟨Nat.le_of_ble_eq_true rfl, Nat.le_of_ble_eq_true rfl⟩) (pV (T := TX0) hP hK hD hT hG hS kb1 (by decide) rfl) rfl rfl hl.1 rfl (lv_room (Nat.le_of_ble_eq_true rfl)) dX11_need_5 ⟨Nat.zero_le _, Nat.zero_le _⟩) hS (fun H locs hq2 hP hD hT hS => ?_)
  rcases hN2 : z2 with _ | b2
  · replace h := oc_n hN2 h
    show W _ _ _ _ _ _ _ _ _ _ _ _ _ _ _ (F0 _ _ _ (.null :: []))
    refine lv_astoreN (lv' := [(4, .null), (0, .ref (ad a0)), (1, .int x1), (2, .int x2), (3, .int x3)]) hx hb dX11_need_8 hl (by decide) rfl (fun ls hl => ?_)
    refine lv_aload_n hx hb dX11_need_10 rfl (lv_at hl 1 rfl) ?_
    rcases hN3 : gR M a0 5 with _ | b3
    · exact absurd (oc_n hN3 h) (by simp)
    replace h := oc_s hN3 h
    have kb3 := hT.f k0 (k := 5) (t := 0) (n := 0) rfl hN3
    refine r_get (T := TX11) (v := .ref (ad b3)) hx hb hts in11 hown hK hP k0 (by decide) rfl 5 (by decide) (hts (.fieldLink RX11 45 "StoneWalk" "island" "LStoneWalk$Island;") (List.mem_of_getElem? (i := 1) (by decide +kernel))) rfl (t := 2) rfl (by show va_rf _ = _; rw [hN3]; rfl) dX11_need_11 ?_
    refine lv_iload_n hx hb dX11_need_14 rfl (lv_at hl 3 rfl) ?_
    obtain ⟨z4, h4, h⟩ := ob_some h
    refine k_q (va_runV (As := [.int x2]) (rest := []) ⟨hx, hb, hml, hown, hts⟩ (c_X0_statueAt (l := l) M b3 x2 kb3 h4) (cwV 1 hts gX11_need_X0_statueAt rfl rfl rfl hdV_X0_statueAt ⟨Nat.le_of_ble_eq_true rfl, Nat.le_of_ble_eq_true rfl⟩) (pV (T := TX0) hP hK hD hT hG hS kb3 (by decide) rfl) rfl rfl hl.1 rfl (lv_room (Nat.le_of_ble_eq_true rfl)) dX11_need_15 ⟨Nat.zero_le _, Nat.zero_le _⟩) hS (fun H locs hq4 hP hD hT hS => ?_)
    rcases hN4 : z4 with _ | b4
    · replace h := oc_n hN4 h
      show W _ _ _ _ _ _ _ _ _ _ _ _ _ _ _ (F0 _ _ _ (.null :: []))
      refine lv_astoreN (lv' := [(5, .null), (4, .null), (0, .ref (ad a0)), (1, .int x1), (2, .int x2), (3, .int x3)]) hx hb dX11_need_18 hl (by decide) rfl (fun ls hl => ?_)
      refine lv_aloadN hx hb dX11_need_20 (lv_at hl 1 rfl) ?_
      refine lv_ifnullN (tgt := 30) hx hb dX11_need_22 rfl ?_
      refine lv_aload_n hx hb dX11_need_30 rfl (lv_at hl 2 rfl) ?_
      refine lv_iconst (v := 1) hx hb dX11_need_31 rfl ?_
      obtain ⟨z5, h5, h⟩ := ob_some h
      refine k_i (va_runV (As := [.int 1]) (rest := []) ⟨hx, hb, hml, hown, hts⟩ (c_X11_refused (l := l) M a0 1 k0 h5) (cwV 1 hts gX11_need_X11_refused rfl rfl rfl hdV_X11_refused ⟨Nat.le_of_ble_eq_true rfl, Nat.le_of_ble_eq_true rfl⟩) (pV (T := TX11) hP hK hD hT hG hS k0 (by decide) rfl) rfl rfl hl.1 rfl (lv_room (Nat.le_of_ble_eq_true rfl)) dX11_need_32 ⟨Nat.zero_le _, Nat.zero_le _⟩) hS (fun H locs hP hD hT hS => ?_)
      have hZ := Option.some.inj h
      have hZ1 := congrArg Prod.fst hZ
      have hZ2 := congrArg Prod.snd hZ
      exact r_iret hx hb hr hlocks hP hK hD hT hG hS hZ1 hZ2 dX11_need_35
    · replace h := oc_s hN4 h
      have kb4 := hq4 _ hN4
      show W _ _ _ _ _ _ _ _ _ _ _ _ _ _ _ (F0 _ _ _ (.ref (ad b4) :: []))
      refine lv_astore (lv' := [(5, .ref (ad b4)), (4, .null), (0, .ref (ad a0)), (1, .int x1), (2, .int x2), (3, .int x3)]) hx hb dX11_need_18 hl (by decide) rfl (fun ls hl => ?_)
      refine lv_aloadN hx hb dX11_need_20 (lv_at hl 1 rfl) ?_
      refine lv_ifnullN (tgt := 30) hx hb dX11_need_22 rfl ?_
      refine lv_aload_n hx hb dX11_need_30 rfl (lv_at hl 2 rfl) ?_
      refine lv_iconst (v := 1) hx hb dX11_need_31 rfl ?_
      obtain ⟨z6, h6, h⟩ := ob_some h
      refine k_i (va_runV (As := [.int 1]) (rest := []) ⟨hx, hb, hml, hown, hts⟩ (c_X11_refused (l := l) M a0 1 k0 h6) (cwV 1 hts gX11_need_X11_refused rfl rfl rfl hdV_X11_refused ⟨Nat.le_of_ble_eq_true rfl, Nat.le_of_ble_eq_true rfl⟩) (pV (T := TX11) hP hK hD hT hG hS k0 (by decide) rfl) rfl rfl hl.1 rfl (lv_room (Nat.le_of_ble_eq_true rfl)) dX11_need_32 ⟨Nat.zero_le _, Nat.zero_le _⟩) hS (fun H locs hP hD hT hS => ?_)
      have hZ := Option.some.inj h
      have hZ1 := congrArg Prod.fst hZ
      have hZ2 := congrArg Prod.snd hZ
      exact r_iret hx hb hr hlocks hP hK hD hT hG hS hZ1 hZ2 dX11_need_35
  · replace h := oc_s hN2 h
    have kb2 := hq2 _ hN2
    show W _ _ _ _ _ _ _ _ _ _ _ _ _ _ _ (F0 _ _ _ (.ref (ad b2) :: []))
    refine lv_astore (lv' := [(4, .ref (ad b2)), (0, .ref (ad a0)), (1, .int x1), (2, .int x2), (3, .int x3)]) hx hb dX11_need_8 hl (by decide) rfl (fun ls hl => ?_)
    refine lv_aload_n hx hb dX11_need_10 rfl (lv_at hl 1 rfl) ?_
    rcases hN7 : gR M a0 5 with _ | b7
    · exact absurd (oc_n hN7 h) (by simp)
    replace h := oc_s hN7 h
    have kb7 := hT.f k0 (k := 5) (t := 0) (n := 0) rfl hN7
    refine r_get (T := TX11) (v := .ref (ad b7)) hx hb hts in11 hown hK hP k0 (by decide) rfl 5 (by decide) (hts (.fieldLink RX11 45 "StoneWalk" "island" "LStoneWalk$Island;") (List.mem_of_getElem? (i := 1) (by decide +kernel))) rfl (t := 2) rfl (by show va_rf _ = _; rw [hN7]; rfl) dX11_need_11 ?_
    refine lv_iload_n hx hb dX11_need_14 rfl (lv_at hl 3 rfl) ?_
    obtain ⟨z8, h8, h⟩ := ob_some h
    refine k_q (va_runV (As := [.int x2]) (rest := []) ⟨hx, hb, hml, hown, hts⟩ (c_X0_statueAt (l := l) M b7 x2 kb7 h8) (cwV 1 hts gX11_need_X0_statueAt rfl rfl rfl hdV_X0_statueAt ⟨Nat.le_of_ble_eq_true rfl, Nat.le_of_ble_eq_true rfl⟩) (pV (T := TX0) hP hK hD hT hG hS kb7 (by decide) rfl) rfl rfl hl.1 rfl (lv_room (Nat.le_of_ble_eq_true rfl)) dX11_need_15 ⟨Nat.zero_le _, Nat.zero_le _⟩) hS (fun H locs hq8 hP hD hT hS => ?_)
    rcases hN8 : z8 with _ | b8
    · replace h := oc_n hN8 h
      show W _ _ _ _ _ _ _ _ _ _ _ _ _ _ _ (F0 _ _ _ (.null :: []))
      refine lv_astoreN (lv' := [(5, .null), (4, .ref (ad b2)), (0, .ref (ad a0)), (1, .int x1), (2, .int x2), (3, .int x3)]) hx hb dX11_need_18 hl (by decide) rfl (fun ls hl => ?_)
      refine lv_aload hx hb dX11_need_20 (lv_at hl 1 rfl) ?_
      refine lv_ifnull hx hb dX11_need_22 ?_
      refine lv_aloadN hx hb dX11_need_25 (lv_at hl 0 rfl) ?_
      refine lv_ifnonnullN hx hb dX11_need_27 ?_
      refine lv_aload_n hx hb dX11_need_30 rfl (lv_at hl 2 rfl) ?_
      refine lv_iconst (v := 1) hx hb dX11_need_31 rfl ?_
      obtain ⟨z9, h9, h⟩ := ob_some h
      refine k_i (va_runV (As := [.int 1]) (rest := []) ⟨hx, hb, hml, hown, hts⟩ (c_X11_refused (l := l) M a0 1 k0 h9) (cwV 1 hts gX11_need_X11_refused rfl rfl rfl hdV_X11_refused ⟨Nat.le_of_ble_eq_true rfl, Nat.le_of_ble_eq_true rfl⟩) (pV (T := TX11) hP hK hD hT hG hS k0 (by decide) rfl) rfl rfl hl.1 rfl (lv_room (Nat.le_of_ble_eq_true rfl)) dX11_need_32 ⟨Nat.zero_le _, Nat.zero_le _⟩) hS (fun H locs hP hD hT hS => ?_)
      have hZ := Option.some.inj h
      have hZ1 := congrArg Prod.fst hZ
      have hZ2 := congrArg Prod.snd hZ
      exact r_iret hx hb hr hlocks hP hK hD hT hG hS hZ1 hZ2 dX11_need_35
    · replace h := oc_s hN8 h
      have kb8 := hq8 _ hN8
      show W _ _ _ _ _ _ _ _ _ _ _ _ _ _ _ (F0 _ _ _ (.ref (ad b8) :: []))
      refine lv_astore (lv' := [(5, .ref (ad b8)), (4, .ref (ad b2)), (0, .ref (ad a0)), (1, .int x1), (2, .int x2), (3, .int x3)]) hx hb dX11_need_18 hl (by decide) rfl (fun ls hl => ?_)
      refine lv_aload hx hb dX11_need_20 (lv_at hl 1 rfl) ?_
      refine lv_ifnull hx hb dX11_need_22 ?_
      refine lv_aload hx hb dX11_need_25 (lv_at hl 0 rfl) ?_
      refine lv_ifnonnull (tgt := 36) hx hb dX11_need_27 rfl ?_
      refine lv_iload_n hx hb dX11_need_36 rfl (lv_at hl 5 rfl) ?_
      obtain ⟨z10, h10, h⟩ := ob_some h
      refine k_z (va_runS (As := [.int x3]) (rest := []) ⟨hx, hb, hml, hown, hts⟩ (c_X11_isSlope (l := l) M x3 h10) (va_cwS 1 hts gX11_need_X11_isSlope rfl rfl rfl hdS_X11_isSlope ⟨Nat.le_of_ble_eq_true rfl, Nat.le_of_ble_eq_true rfl⟩) (pS hP hK hD hT hG hS) rfl rfl hl.1 rfl (lv_room (Nat.le_of_ble_eq_true rfl)) dX11_need_37 ⟨Nat.zero_le _, Nat.zero_le _⟩) hS (fun H locs hz10 hP hD hT hS => ?_)
      refine lv_if_ne (tgt := 49) hx hb dX11_need_40 rfl (fun c11 => ?_) (fun c11 => ?_)
      · replace h := ite_f c11 h
        refine lv_aload_n hx hb dX11_need_49 rfl (lv_at hl 2 rfl) ?_
        refine lv_aload hx hb dX11_need_50 (lv_at hl 1 rfl) ?_
        refine lv_aload hx hb dX11_need_52 (lv_at hl 0 rfl) ?_
        refine r_get (T := TX5) (v := .int (gI M b8 0)) hx hb hts in5 hown hK hP kb8 (by decide) rfl 0 (by decide) (hts (.fieldLink RX11 129 "StoneWalk$Stone" "tons" "I") (List.mem_of_getElem? (i := 2) (by decide +kernel))) rfl (t := 0) rfl rfl dX11_need_54 ?_
        refine lv_iload_n hx hb dX11_need_57 rfl (lv_at hl 5 rfl) ?_
        obtain ⟨z12, h12, h⟩ := ob_some h
        refine k_i (va_runV (As := [.int (gI M b8 0), .int x3]) (rest := [.ref (ad a0)]) ⟨hx, hb, hml, hown, hts⟩ (c_X10_hands (l := l) M b2 (gI M b8 0) x3 kb2 h12) (cwV 2 hts gX11_need_X10_hands rfl rfl rfl hdV_X10_hands ⟨Nat.le_of_ble_eq_true rfl, Nat.le_of_ble_eq_true rfl⟩) (pV (T := TX10) hP hK hD hT hG hS kb2 (by decide) rfl) rfl rfl hl.1 rfl (lv_room (Nat.le_of_ble_eq_true rfl)) dX11_need_58 ⟨Nat.zero_le _, Nat.zero_le _⟩) hS (fun H locs hP hD hT hS => ?_)
        obtain ⟨z13, h13, h⟩ := ob_some h
        refine k_i (va_runV (As := [.int z12]) (rest := []) ⟨hx, hb, hml, hown, hts⟩ (c_X11_granted (l := l) M a0 z12 k0 h13) (cwV 1 hts gX11_need_X11_granted rfl rfl rfl hdV_X11_granted ⟨Nat.le_of_ble_eq_true rfl, Nat.le_of_ble_eq_true rfl⟩) (pV (T := TX11) hP hK hD hT hG hS k0 (by decide) rfl) rfl rfl hl.1 rfl (lv_room (Nat.le_of_ble_eq_true rfl)) dX11_need_61 ⟨Nat.zero_le _, Nat.zero_le _⟩) hS (fun H locs hP hD hT hS => ?_)
        have hZ := Option.some.inj h
        have hZ1 := congrArg Prod.fst hZ
        have hZ2 := congrArg Prod.snd hZ
        exact r_iret hx hb hr hlocks hP hK hD hT hG hS hZ1 hZ2 dX11_need_64
      · replace h := ite_t c11 h
        refine lv_aload_n hx hb dX11_need_43 rfl (lv_at hl 2 rfl) ?_
        refine lv_iconst (v := 2) hx hb dX11_need_44 rfl ?_
        obtain ⟨z14, h14, h⟩ := ob_some h
        refine k_i (va_runV (As := [.int 2]) (rest := []) ⟨hx, hb, hml, hown, hts⟩ (c_X11_refused (l := l) M a0 2 k0 h14) (cwV 1 hts gX11_need_X11_refused rfl rfl rfl hdV_X11_refused ⟨Nat.le_of_ble_eq_true rfl, Nat.le_of_ble_eq_true rfl⟩) (pV (T := TX11) hP hK hD hT hG hS k0 (by decide) rfl) rfl rfl hl.1 rfl (lv_room (Nat.le_of_ble_eq_true rfl)) dX11_need_45 ⟨Nat.zero_le _, Nat.zero_le _⟩) hS (fun H locs hP hD hT hS => ?_)
        have hZ := Option.some.inj h
        have hZ1 := congrArg Prod.fst hZ
        have hZ2 := congrArg Prod.snd hZ
        exact r_iret hx hb hr hlocks hP hK hD hT hG hS hZ1 hZ2 dX11_need_48
set_option maxHeartbeats 4000000 in
set_option maxRecDepth 100000 in
theorem c_X11_minutes {l : Launch} {D : va_G} {ad : Nat → Nat} {cy : Nat → ClassId} {A : Nat → Prop} {g : CG} {q : SE} (M : MM) (a0 : Nat) (x1 : Int32) (x2 : Int32) (x3 : Int32) (x4 : Int32) (k0 : ok g a0 11 0) {Z : (Int32 × MM)} (h : f_X11_minutes M a0 x1 x2 x3 x4 = some Z) : Met l yX11_minutes wsX11_minutes ({ frames := 3, cells := 0, slots := 0, locals := 70 }) (va_Pc [.ref (ad a0), .int x1, .int x2, .int x3, .int x4] (Wd D ad cy A g q M)) (va_Qi (fun r u => r = Z.1 ∧ u = Z.2) (Wd D ad cy A g q) A) 0 0 A := by
  refine Met.ofW (cc := cX11_minutes) (maxL := 7) (ret := (some .int)) (by decide) rfl ?_
  intro p e s m args below meth c s₁ B hml hv
  obtain ⟨rfl, hP, hK, hD, hT, hG⟩ := hv
  have hx := B.exec
  have hb := B.bytes
  have hr := B.returns
  have hts := atoms_spec (ws := wsX11_minutes) B.pre
  have hown : s.vm.findClass RX11 = some m.cls := findClass_of_methodNamed B.named
  have hlocks := B.notSynchronized
  have in5 : ∀ w ∈ u_ws RX5 TX5 8, w ∈ wsX11_minutes := fun w h => List.mem_cons_of_mem _ (List.mem_append_left _ (List.mem_append_left _ (List.mem_append_right _ h)))
  have in11 : ∀ w ∈ u_ws RX11 TX11 8, w ∈ wsX11_minutes := fun w h => List.mem_cons_of_mem _ (List.mem_append_left _ (List.mem_append_left _ (List.mem_append_left _ (List.mem_append_right _ h))))
  have hS : va_S A s.heap s.heap [] := va_S.rf
  have hl := lv_entry ([.ref (ad a0), .int x1, .int x2, .int x3, .int x4]) (n := 7) (Nat.le_of_ble_eq_true rfl)
  rw [lg_entry_eq]
  generalize (lg_sl ([.ref (ad a0), .int x1, .int x2, .int x3, .int x4]) ++ List.replicate (7 - (lg_sl ([.ref (ad a0), .int x1, .int x2, .int x3, .int x4])).length) Slot.unset).toArray = ls at hl ⊢
  have hl : lv_has ls 7 [(0, .ref (ad a0)), (1, .int x1), (2, .int x2), (3, .int x3), (4, .int x4)] := hl
  unfold f_X11_minutes at h
  refine lv_aload_n hx hb dX11_minutes_0 rfl (lv_at hl 0 rfl) ?_
  rcases hN1 : gR M a0 5 with _ | b1
  · exact absurd (oc_n hN1 h) (by simp)
  replace h := oc_s hN1 h
  have kb1 := hT.f k0 (k := 5) (t := 0) (n := 0) rfl hN1
  refine r_get (T := TX11) (v := .ref (ad b1)) hx hb hts in11 hown hK hP k0 (by decide) rfl 5 (by decide) (hts (.fieldLink RX11 45 "StoneWalk" "island" "LStoneWalk$Island;") (List.mem_of_getElem? (i := 1) (by decide +kernel))) rfl (t := 2) rfl (by show va_rf _ = _; rw [hN1]; rfl) dX11_minutes_1 ?_
  refine lv_iload_n hx hb dX11_minutes_4 rfl (lv_at hl 1 rfl) ?_
  obtain ⟨z2, h2, h⟩ := ob_some h
  refine k_q (va_runV (As := [.int x1]) (rest := []) ⟨hx, hb, hml, hown, hts⟩ (c_X0_wayAt (l := l) M b1 x1 kb1 h2) (cwV 1 hts gX11_minutes_X0_wayAt rfl rfl rfl hdV_X0_wayAt ⟨Nat.le_of_ble_eq_true rfl, Nat.le_of_ble_eq_true rfl⟩) (pV (T := TX0) hP hK hD hT hG hS kb1 (by decide) rfl) rfl rfl hl.1 rfl (lv_room (Nat.le_of_ble_eq_true rfl)) dX11_minutes_5 ⟨Nat.zero_le _, Nat.zero_le _⟩) hS (fun H locs hq2 hP hD hT hS => ?_)
  rcases hN2 : z2 with _ | b2
  · replace h := oc_n hN2 h
    show W _ _ _ _ _ _ _ _ _ _ _ _ _ _ _ (F0 _ _ _ (.null :: []))
    refine lv_astoreN (lv' := [(5, .null), (0, .ref (ad a0)), (1, .int x1), (2, .int x2), (3, .int x3), (4, .int x4)]) hx hb dX11_minutes_8 hl (by decide) rfl (fun ls hl => ?_)
    refine lv_aload_n hx hb dX11_minutes_10 rfl (lv_at hl 1 rfl) ?_
    rcases hN3 : gR M a0 5 with _ | b3
    · exact absurd (oc_n hN3 h) (by simp)
    replace h := oc_s hN3 h
    have kb3 := hT.f k0 (k := 5) (t := 0) (n := 0) rfl hN3
    refine r_get (T := TX11) (v := .ref (ad b3)) hx hb hts in11 hown hK hP k0 (by decide) rfl 5 (by decide) (hts (.fieldLink RX11 45 "StoneWalk" "island" "LStoneWalk$Island;") (List.mem_of_getElem? (i := 1) (by decide +kernel))) rfl (t := 2) rfl (by show va_rf _ = _; rw [hN3]; rfl) dX11_minutes_11 ?_
    refine lv_iload_n hx hb dX11_minutes_14 rfl (lv_at hl 3 rfl) ?_
    obtain ⟨z4, h4, h⟩ := ob_some h
    refine k_q (va_runV (As := [.int x2]) (rest := []) ⟨hx, hb, hml, hown, hts⟩ (c_X0_statueAt (l := l) M b3 x2 kb3 h4) (cwV 1 hts gX11_minutes_X0_statueAt rfl rfl rfl hdV_X0_statueAt ⟨Nat.le_of_ble_eq_true rfl, Nat.le_of_ble_eq_true rfl⟩) (pV (T := TX0) hP hK hD hT hG hS kb3 (by decide) rfl) rfl rfl hl.1 rfl (lv_room (Nat.le_of_ble_eq_true rfl)) dX11_minutes_15 ⟨Nat.zero_le _, Nat.zero_le _⟩) hS (fun H locs hq4 hP hD hT hS => ?_)
    rcases hN4 : z4 with _ | b4
    · replace h := oc_n hN4 h
      show W _ _ _ _ _ _ _ _ _ _ _ _ _ _ _ (F0 _ _ _ (.null :: []))
      refine lv_astoreN (lv' := [(6, .null), (5, .null), (0, .ref (ad a0)), (1, .int x1), (2, .int x2), (3, .int x3), (4, .int x4)]) hx hb dX11_minutes_18 hl (by decide) rfl (fun ls hl => ?_)
      refine lv_aloadN hx hb dX11_minutes_20 (lv_at hl 1 rfl) ?_
      refine lv_ifnullN (tgt := 30) hx hb dX11_minutes_22 rfl ?_
      refine lv_aload_n hx hb dX11_minutes_30 rfl (lv_at hl 2 rfl) ?_
      refine lv_iconst (v := 1) hx hb dX11_minutes_31 rfl ?_
      obtain ⟨z5, h5, h⟩ := ob_some h
      refine k_i (va_runV (As := [.int 1]) (rest := []) ⟨hx, hb, hml, hown, hts⟩ (c_X11_refused (l := l) M a0 1 k0 h5) (cwV 1 hts gX11_minutes_X11_refused rfl rfl rfl hdV_X11_refused ⟨Nat.le_of_ble_eq_true rfl, Nat.le_of_ble_eq_true rfl⟩) (pV (T := TX11) hP hK hD hT hG hS k0 (by decide) rfl) rfl rfl hl.1 rfl (lv_room (Nat.le_of_ble_eq_true rfl)) dX11_minutes_32 ⟨Nat.zero_le _, Nat.zero_le _⟩) hS (fun H locs hP hD hT hS => ?_)
      have hZ := Option.some.inj h
      have hZ1 := congrArg Prod.fst hZ
      have hZ2 := congrArg Prod.snd hZ
      exact r_iret hx hb hr hlocks hP hK hD hT hG hS hZ1 hZ2 dX11_minutes_35
    · replace h := oc_s hN4 h
      have kb4 := hq4 _ hN4
      show W _ _ _ _ _ _ _ _ _ _ _ _ _ _ _ (F0 _ _ _ (.ref (ad b4) :: []))
      refine lv_astore (lv' := [(6, .ref (ad b4)), (5, .null), (0, .ref (ad a0)), (1, .int x1), (2, .int x2), (3, .int x3), (4, .int x4)]) hx hb dX11_minutes_18 hl (by decide) rfl (fun ls hl => ?_)
      refine lv_aloadN hx hb dX11_minutes_20 (lv_at hl 1 rfl) ?_
      refine lv_ifnullN (tgt := 30) hx hb dX11_minutes_22 rfl ?_
      refine lv_aload_n hx hb dX11_minutes_30 rfl (lv_at hl 2 rfl) ?_
      refine lv_iconst (v := 1) hx hb dX11_minutes_31 rfl ?_
      obtain ⟨z6, h6, h⟩ := ob_some h
      refine k_i (va_runV (As := [.int 1]) (rest := []) ⟨hx, hb, hml, hown, hts⟩ (c_X11_refused (l := l) M a0 1 k0 h6) (cwV 1 hts gX11_minutes_X11_refused rfl rfl rfl hdV_X11_refused ⟨Nat.le_of_ble_eq_true rfl, Nat.le_of_ble_eq_true rfl⟩) (pV (T := TX11) hP hK hD hT hG hS k0 (by decide) rfl) rfl rfl hl.1 rfl (lv_room (Nat.le_of_ble_eq_true rfl)) dX11_minutes_32 ⟨Nat.zero_le _, Nat.zero_le _⟩) hS (fun H locs hP hD hT hS => ?_)
      have hZ := Option.some.inj h
      have hZ1 := congrArg Prod.fst hZ
      have hZ2 := congrArg Prod.snd hZ
      exact r_iret hx hb hr hlocks hP hK hD hT hG hS hZ1 hZ2 dX11_minutes_35
  · replace h := oc_s hN2 h
    have kb2 := hq2 _ hN2
    show W _ _ _ _ _ _ _ _ _ _ _ _ _ _ _ (F0 _ _ _ (.ref (ad b2) :: []))
    refine lv_astore (lv' := [(5, .ref (ad b2)), (0, .ref (ad a0)), (1, .int x1), (2, .int x2), (3, .int x3), (4, .int x4)]) hx hb dX11_minutes_8 hl (by decide) rfl (fun ls hl => ?_)
    refine lv_aload_n hx hb dX11_minutes_10 rfl (lv_at hl 1 rfl) ?_
    rcases hN7 : gR M a0 5 with _ | b7
    · exact absurd (oc_n hN7 h) (by simp)
    replace h := oc_s hN7 h
    have kb7 := hT.f k0 (k := 5) (t := 0) (n := 0) rfl hN7
    refine r_get (T := TX11) (v := .ref (ad b7)) hx hb hts in11 hown hK hP k0 (by decide) rfl 5 (by decide) (hts (.fieldLink RX11 45 "StoneWalk" "island" "LStoneWalk$Island;") (List.mem_of_getElem? (i := 1) (by decide +kernel))) rfl (t := 2) rfl (by show va_rf _ = _; rw [hN7]; rfl) dX11_minutes_11 ?_
    refine lv_iload_n hx hb dX11_minutes_14 rfl (lv_at hl 3 rfl) ?_
    obtain ⟨z8, h8, h⟩ := ob_some h
    refine k_q (va_runV (As := [.int x2]) (rest := []) ⟨hx, hb, hml, hown, hts⟩ (c_X0_statueAt (l := l) M b7 x2 kb7 h8) (cwV 1 hts gX11_minutes_X0_statueAt rfl rfl rfl hdV_X0_statueAt ⟨Nat.le_of_ble_eq_true rfl, Nat.le_of_ble_eq_true rfl⟩) (pV (T := TX0) hP hK hD hT hG hS kb7 (by decide) rfl) rfl rfl hl.1 rfl (lv_room (Nat.le_of_ble_eq_true rfl)) dX11_minutes_15 ⟨Nat.zero_le _, Nat.zero_le _⟩) hS (fun H locs hq8 hP hD hT hS => ?_)
    rcases hN8 : z8 with _ | b8
    · replace h := oc_n hN8 h
      show W _ _ _ _ _ _ _ _ _ _ _ _ _ _ _ (F0 _ _ _ (.null :: []))
      refine lv_astoreN (lv' := [(6, .null), (5, .ref (ad b2)), (0, .ref (ad a0)), (1, .int x1), (2, .int x2), (3, .int x3), (4, .int x4)]) hx hb dX11_minutes_18 hl (by decide) rfl (fun ls hl => ?_)
      refine lv_aload hx hb dX11_minutes_20 (lv_at hl 1 rfl) ?_
      refine lv_ifnull hx hb dX11_minutes_22 ?_
      refine lv_aloadN hx hb dX11_minutes_25 (lv_at hl 0 rfl) ?_
      refine lv_ifnonnullN hx hb dX11_minutes_27 ?_
      refine lv_aload_n hx hb dX11_minutes_30 rfl (lv_at hl 2 rfl) ?_
      refine lv_iconst (v := 1) hx hb dX11_minutes_31 rfl ?_
      obtain ⟨z9, h9, h⟩ := ob_some h
      refine k_i (va_runV (As := [.int 1]) (rest := []) ⟨hx, hb, hml, hown, hts⟩ (c_X11_refused (l := l) M a0 1 k0 h9) (cwV 1 hts gX11_minutes_X11_refused rfl rfl rfl hdV_X11_refused ⟨Nat.le_of_ble_eq_true rfl, Nat.le_of_ble_eq_true rfl⟩) (pV (T := TX11) hP hK hD hT hG hS k0 (by decide) rfl) rfl rfl hl.1 rfl (lv_room (Nat.le_of_ble_eq_true rfl)) dX11_minutes_32 ⟨Nat.zero_le _, Nat.zero_le _⟩) hS (fun H locs hP hD hT hS => ?_)
      have hZ := Option.some.inj h
      have hZ1 := congrArg Prod.fst hZ
      have hZ2 := congrArg Prod.snd hZ
      exact r_iret hx hb hr hlocks hP hK hD hT hG hS hZ1 hZ2 dX11_minutes_35
    · replace h := oc_s hN8 h
      have kb8 := hq8 _ hN8
      show W _ _ _ _ _ _ _ _ _ _ _ _ _ _ _ (F0 _ _ _ (.ref (ad b8) :: []))
      refine lv_astore (lv' := [(6, .ref (ad b8)), (5, .ref (ad b2)), (0, .ref (ad a0)), (1, .int x1), (2, .int x2), (3, .int x3), (4, .int x4)]) hx hb dX11_minutes_18 hl (by decide) rfl (fun ls hl => ?_)
      refine lv_aload hx hb dX11_minutes_20 (lv_at hl 1 rfl) ?_
      refine lv_ifnull hx hb dX11_minutes_22 ?_
      refine lv_aload hx hb dX11_minutes_25 (lv_at hl 0 rfl) ?_
      refine lv_ifnonnull (tgt := 36) hx hb dX11_minutes_27 rfl ?_
      refine lv_iload_n hx hb dX11_minutes_36 rfl (lv_at hl 5 rfl) ?_
      obtain ⟨z10, h10, h⟩ := ob_some h
      refine k_z (va_runS (As := [.int x3]) (rest := []) ⟨hx, hb, hml, hown, hts⟩ (c_X11_isSlope (l := l) M x3 h10) (va_cwS 1 hts gX11_minutes_X11_isSlope rfl rfl rfl hdS_X11_isSlope ⟨Nat.le_of_ble_eq_true rfl, Nat.le_of_ble_eq_true rfl⟩) (pS hP hK hD hT hG hS) rfl rfl hl.1 rfl (lv_room (Nat.le_of_ble_eq_true rfl)) dX11_minutes_37 ⟨Nat.zero_le _, Nat.zero_le _⟩) hS (fun H locs hz10 hP hD hT hS => ?_)
      refine lv_if_eq (tgt := 51) hx hb dX11_minutes_40 rfl (fun c11 => ?_) (fun c11 => ?_)
      · replace h := ite_t c11 h
        refine lv_aload_n hx hb dX11_minutes_51 rfl (lv_at hl 2 rfl) ?_
        refine lv_iconst (v := 2) hx hb dX11_minutes_52 rfl ?_
        obtain ⟨z12, h12, h⟩ := ob_some h
        refine k_i (va_runV (As := [.int 2]) (rest := []) ⟨hx, hb, hml, hown, hts⟩ (c_X11_refused (l := l) M a0 2 k0 h12) (cwV 1 hts gX11_minutes_X11_refused rfl rfl rfl hdV_X11_refused ⟨Nat.le_of_ble_eq_true rfl, Nat.le_of_ble_eq_true rfl⟩) (pV (T := TX11) hP hK hD hT hG hS k0 (by decide) rfl) rfl rfl hl.1 rfl (lv_room (Nat.le_of_ble_eq_true rfl)) dX11_minutes_53 ⟨Nat.zero_le _, Nat.zero_le _⟩) hS (fun H locs hP hD hT hS => ?_)
        have hZ := Option.some.inj h
        have hZ1 := congrArg Prod.fst hZ
        have hZ2 := congrArg Prod.snd hZ
        exact r_iret hx hb hr hlocks hP hK hD hT hG hS hZ1 hZ2 dX11_minutes_56
      · replace h := ite_f c11 h
        refine lv_iload hx hb dX11_minutes_43 (lv_at hl 6 rfl) ?_
        obtain ⟨z13, h13, h⟩ := ob_some h
        refine k_z (va_runS (As := [.int x4]) (rest := []) ⟨hx, hb, hml, hown, hts⟩ (c_X11_isCrowd (l := l) M x4 h13) (va_cwS 1 hts gX11_minutes_X11_isCrowd rfl rfl rfl hdS_X11_isCrowd ⟨Nat.le_of_ble_eq_true rfl, Nat.le_of_ble_eq_true rfl⟩) (pS hP hK hD hT hG hS) rfl rfl hl.1 rfl (lv_room (Nat.le_of_ble_eq_true rfl)) dX11_minutes_45 ⟨Nat.zero_le _, Nat.zero_le _⟩) hS (fun H locs hz13 hP hD hT hS => ?_)
        refine lv_if_ne (tgt := 57) hx hb dX11_minutes_48 rfl (fun c14 => ?_) (fun c14 => ?_)
        · replace h := ite_f c14 h
          refine lv_aload_n hx hb dX11_minutes_57 rfl (lv_at hl 2 rfl) ?_
          refine lv_aload hx hb dX11_minutes_58 (lv_at hl 1 rfl) ?_
          refine lv_aload hx hb dX11_minutes_60 (lv_at hl 0 rfl) ?_
          refine r_get (T := TX5) (v := .int (gI M b8 0)) hx hb hts in5 hown hK hP kb8 (by decide) rfl 0 (by decide) (hts (.fieldLink RX11 129 "StoneWalk$Stone" "tons" "I") (List.mem_of_getElem? (i := 2) (by decide +kernel))) rfl (t := 0) rfl rfl dX11_minutes_62 ?_
          refine lv_iload_n hx hb dX11_minutes_65 rfl (lv_at hl 5 rfl) ?_
          refine lv_iload hx hb dX11_minutes_66 (lv_at hl 6 rfl) ?_
          obtain ⟨z15, h15, h⟩ := ob_some h
          refine k_i (va_runV (As := [.int (gI M b8 0), .int x3, .int x4]) (rest := [.ref (ad a0)]) ⟨hx, hb, hml, hown, hts⟩ (c_X10_duration (l := l) M b2 (gI M b8 0) x3 x4 kb2 h15) (cwV 3 hts gX11_minutes_X10_duration rfl rfl rfl hdV_X10_duration ⟨Nat.le_of_ble_eq_true rfl, Nat.le_of_ble_eq_true rfl⟩) (pV (T := TX10) hP hK hD hT hG hS kb2 (by decide) rfl) rfl rfl hl.1 rfl (lv_room (Nat.le_of_ble_eq_true rfl)) dX11_minutes_68 ⟨Nat.zero_le _, Nat.zero_le _⟩) hS (fun H locs hP hD hT hS => ?_)
          obtain ⟨z16, h16, h⟩ := ob_some h
          refine k_i (va_runV (As := [.int z15]) (rest := []) ⟨hx, hb, hml, hown, hts⟩ (c_X11_granted (l := l) M a0 z15 k0 h16) (cwV 1 hts gX11_minutes_X11_granted rfl rfl rfl hdV_X11_granted ⟨Nat.le_of_ble_eq_true rfl, Nat.le_of_ble_eq_true rfl⟩) (pV (T := TX11) hP hK hD hT hG hS k0 (by decide) rfl) rfl rfl hl.1 rfl (lv_room (Nat.le_of_ble_eq_true rfl)) dX11_minutes_71 ⟨Nat.zero_le _, Nat.zero_le _⟩) hS (fun H locs hP hD hT hS => ?_)
          have hZ := Option.some.inj h
          have hZ1 := congrArg Prod.fst hZ
          have hZ2 := congrArg Prod.snd hZ
          exact r_iret hx hb hr hlocks hP hK hD hT hG hS hZ1 hZ2 dX11_minutes_74
        · replace h := ite_t c14 h
          refine lv_aload_n hx hb dX11_minutes_51 rfl (lv_at hl 2 rfl) ?_
          refine lv_iconst (v := 2) hx hb dX11_minutes_52 rfl ?_
          obtain ⟨z17, h17, h⟩ := ob_some h
          refine k_i (va_runV (As := [.int 2]) (rest := []) ⟨hx, hb, hml, hown, hts⟩ (c_X11_refused (l := l) M a0 2 k0 h17) (cwV 1 hts gX11_minutes_X11_refused rfl rfl rfl hdV_X11_refused ⟨Nat.le_of_ble_eq_true rfl, Nat.le_of_ble_eq_true rfl⟩) (pV (T := TX11) hP hK hD hT hG hS k0 (by decide) rfl) rfl rfl hl.1 rfl (lv_room (Nat.le_of_ble_eq_true rfl)) dX11_minutes_53 ⟨Nat.zero_le _, Nat.zero_le _⟩) hS (fun H locs hP hD hT hS => ?_)
          have hZ := Option.some.inj h
          have hZ1 := congrArg Prod.fst hZ
          have hZ2 := congrArg Prod.snd hZ
          exact r_iret hx hb hr hlocks hP hK hD hT hG hS hZ1 hZ2 dX11_minutes_56
set_option maxHeartbeats 4000000 in
set_option maxRecDepth 100000 in
theorem c_X11_chance {l : Launch} {D : va_G} {ad : Nat → Nat} {cy : Nat → ClassId} {A : Nat → Prop} {g : CG} {q : SE} (M : MM) (a0 : Nat) (x1 : Int32) (x2 : Int32) (x3 : Int32) (k0 : ok g a0 11 0) {Z : (Int32 × MM)} (h : f_X11_chance M a0 x1 x2 x3 = some Z) : Met l yX11_chance wsX11_chance ({ frames := 2, cells := 0, slots := 0, locals := 46 }) (va_Pc [.ref (ad a0), .int x1, .int x2, .int x3] (Wd D ad cy A g q M)) (va_Qi (fun r u => r = Z.1 ∧ u = Z.2) (Wd D ad cy A g q) A) 0 0 A := by
  refine Met.ofW (cc := cX11_chance) (maxL := 6) (ret := (some .int)) (by decide) rfl ?_
  intro p e s m args below meth c s₁ B hml hv
  obtain ⟨rfl, hP, hK, hD, hT, hG⟩ := hv
  have hx := B.exec
  have hb := B.bytes
  have hr := B.returns
  have hts := atoms_spec (ws := wsX11_chance) B.pre
  have hown : s.vm.findClass RX11 = some m.cls := findClass_of_methodNamed B.named
  have hlocks := B.notSynchronized
  have in5 : ∀ w ∈ u_ws RX5 TX5 8, w ∈ wsX11_chance := fun w h => List.mem_cons_of_mem _ (List.mem_append_left _ (List.mem_append_left _ (List.mem_append_right _ h)))
  have in11 : ∀ w ∈ u_ws RX11 TX11 8, w ∈ wsX11_chance := fun w h => List.mem_cons_of_mem _ (List.mem_append_left _ (List.mem_append_left _ (List.mem_append_left _ (List.mem_append_right _ h))))
  have hS : va_S A s.heap s.heap [] := va_S.rf
  have hl := lv_entry ([.ref (ad a0), .int x1, .int x2, .int x3]) (n := 6) (Nat.le_of_ble_eq_true rfl)
  rw [lg_entry_eq]
  generalize (lg_sl ([.ref (ad a0), .int x1, .int x2, .int x3]) ++ List.replicate (6 - (lg_sl ([.ref (ad a0), .int x1, .int x2, .int x3])).length) Slot.unset).toArray = ls at hl ⊢
  have hl : lv_has ls 6 [(0, .ref (ad a0)), (1, .int x1), (2, .int x2), (3, .int x3)] := hl
  unfold f_X11_chance at h
  refine lv_aload_n hx hb dX11_chance_0 rfl (lv_at hl 0 rfl) ?_
  rcases hN1 : gR M a0 5 with _ | b1
  · exact absurd (oc_n hN1 h) (by simp)
  replace h := oc_s hN1 h
  have kb1 := hT.f k0 (k := 5) (t := 0) (n := 0) rfl hN1
  refine r_get (T := TX11) (v := .ref (ad b1)) hx hb hts in11 hown hK hP k0 (by decide) rfl 5 (by decide) (hts (.fieldLink RX11 45 "StoneWalk" "island" "LStoneWalk$Island;") (List.mem_of_getElem? (i := 1) (by decide +kernel))) rfl (t := 2) rfl (by show va_rf _ = _; rw [hN1]; rfl) dX11_chance_1 ?_
  refine lv_iload_n hx hb dX11_chance_4 rfl (lv_at hl 1 rfl) ?_
  obtain ⟨z2, h2, h⟩ := ob_some h
  refine k_q (va_runV (As := [.int x1]) (rest := []) ⟨hx, hb, hml, hown, hts⟩ (c_X0_wayAt (l := l) M b1 x1 kb1 h2) (cwV 1 hts gX11_chance_X0_wayAt rfl rfl rfl hdV_X0_wayAt ⟨Nat.le_of_ble_eq_true rfl, Nat.le_of_ble_eq_true rfl⟩) (pV (T := TX0) hP hK hD hT hG hS kb1 (by decide) rfl) rfl rfl hl.1 rfl (lv_room (Nat.le_of_ble_eq_true rfl)) dX11_chance_5 ⟨Nat.zero_le _, Nat.zero_le _⟩) hS (fun H locs hq2 hP hD hT hS => ?_)
  rcases hN2 : z2 with _ | b2
  · replace h := oc_n hN2 h
    show W _ _ _ _ _ _ _ _ _ _ _ _ _ _ _ (F0 _ _ _ (.null :: []))
    refine lv_astoreN (lv' := [(4, .null), (0, .ref (ad a0)), (1, .int x1), (2, .int x2), (3, .int x3)]) hx hb dX11_chance_8 hl (by decide) rfl (fun ls hl => ?_)
    refine lv_aload_n hx hb dX11_chance_10 rfl (lv_at hl 1 rfl) ?_
    rcases hN3 : gR M a0 5 with _ | b3
    · exact absurd (oc_n hN3 h) (by simp)
    replace h := oc_s hN3 h
    have kb3 := hT.f k0 (k := 5) (t := 0) (n := 0) rfl hN3
    refine r_get (T := TX11) (v := .ref (ad b3)) hx hb hts in11 hown hK hP k0 (by decide) rfl 5 (by decide) (hts (.fieldLink RX11 45 "StoneWalk" "island" "LStoneWalk$Island;") (List.mem_of_getElem? (i := 1) (by decide +kernel))) rfl (t := 2) rfl (by show va_rf _ = _; rw [hN3]; rfl) dX11_chance_11 ?_
    refine lv_iload_n hx hb dX11_chance_14 rfl (lv_at hl 3 rfl) ?_
    obtain ⟨z4, h4, h⟩ := ob_some h
    refine k_q (va_runV (As := [.int x2]) (rest := []) ⟨hx, hb, hml, hown, hts⟩ (c_X0_statueAt (l := l) M b3 x2 kb3 h4) (cwV 1 hts gX11_chance_X0_statueAt rfl rfl rfl hdV_X0_statueAt ⟨Nat.le_of_ble_eq_true rfl, Nat.le_of_ble_eq_true rfl⟩) (pV (T := TX0) hP hK hD hT hG hS kb3 (by decide) rfl) rfl rfl hl.1 rfl (lv_room (Nat.le_of_ble_eq_true rfl)) dX11_chance_15 ⟨Nat.zero_le _, Nat.zero_le _⟩) hS (fun H locs hq4 hP hD hT hS => ?_)
    rcases hN4 : z4 with _ | b4
    · replace h := oc_n hN4 h
      show W _ _ _ _ _ _ _ _ _ _ _ _ _ _ _ (F0 _ _ _ (.null :: []))
      refine lv_astoreN (lv' := [(5, .null), (4, .null), (0, .ref (ad a0)), (1, .int x1), (2, .int x2), (3, .int x3)]) hx hb dX11_chance_18 hl (by decide) rfl (fun ls hl => ?_)
      refine lv_aloadN hx hb dX11_chance_20 (lv_at hl 1 rfl) ?_
      refine lv_ifnullN (tgt := 30) hx hb dX11_chance_22 rfl ?_
      refine lv_aload_n hx hb dX11_chance_30 rfl (lv_at hl 2 rfl) ?_
      refine lv_iconst (v := 1) hx hb dX11_chance_31 rfl ?_
      obtain ⟨z5, h5, h⟩ := ob_some h
      refine k_i (va_runV (As := [.int 1]) (rest := []) ⟨hx, hb, hml, hown, hts⟩ (c_X11_refused (l := l) M a0 1 k0 h5) (cwV 1 hts gX11_chance_X11_refused rfl rfl rfl hdV_X11_refused ⟨Nat.le_of_ble_eq_true rfl, Nat.le_of_ble_eq_true rfl⟩) (pV (T := TX11) hP hK hD hT hG hS k0 (by decide) rfl) rfl rfl hl.1 rfl (lv_room (Nat.le_of_ble_eq_true rfl)) dX11_chance_32 ⟨Nat.zero_le _, Nat.zero_le _⟩) hS (fun H locs hP hD hT hS => ?_)
      have hZ := Option.some.inj h
      have hZ1 := congrArg Prod.fst hZ
      have hZ2 := congrArg Prod.snd hZ
      exact r_iret hx hb hr hlocks hP hK hD hT hG hS hZ1 hZ2 dX11_chance_35
    · replace h := oc_s hN4 h
      have kb4 := hq4 _ hN4
      show W _ _ _ _ _ _ _ _ _ _ _ _ _ _ _ (F0 _ _ _ (.ref (ad b4) :: []))
      refine lv_astore (lv' := [(5, .ref (ad b4)), (4, .null), (0, .ref (ad a0)), (1, .int x1), (2, .int x2), (3, .int x3)]) hx hb dX11_chance_18 hl (by decide) rfl (fun ls hl => ?_)
      refine lv_aloadN hx hb dX11_chance_20 (lv_at hl 1 rfl) ?_
      refine lv_ifnullN (tgt := 30) hx hb dX11_chance_22 rfl ?_
      refine lv_aload_n hx hb dX11_chance_30 rfl (lv_at hl 2 rfl) ?_
      refine lv_iconst (v := 1) hx hb dX11_chance_31 rfl ?_
      obtain ⟨z6, h6, h⟩ := ob_some h
      refine k_i (va_runV (As := [.int 1]) (rest := []) ⟨hx, hb, hml, hown, hts⟩ (c_X11_refused (l := l) M a0 1 k0 h6) (cwV 1 hts gX11_chance_X11_refused rfl rfl rfl hdV_X11_refused ⟨Nat.le_of_ble_eq_true rfl, Nat.le_of_ble_eq_true rfl⟩) (pV (T := TX11) hP hK hD hT hG hS k0 (by decide) rfl) rfl rfl hl.1 rfl (lv_room (Nat.le_of_ble_eq_true rfl)) dX11_chance_32 ⟨Nat.zero_le _, Nat.zero_le _⟩) hS (fun H locs hP hD hT hS => ?_)
      have hZ := Option.some.inj h
      have hZ1 := congrArg Prod.fst hZ
      have hZ2 := congrArg Prod.snd hZ
      exact r_iret hx hb hr hlocks hP hK hD hT hG hS hZ1 hZ2 dX11_chance_35
  · replace h := oc_s hN2 h
    have kb2 := hq2 _ hN2
    show W _ _ _ _ _ _ _ _ _ _ _ _ _ _ _ (F0 _ _ _ (.ref (ad b2) :: []))
    refine lv_astore (lv' := [(4, .ref (ad b2)), (0, .ref (ad a0)), (1, .int x1), (2, .int x2), (3, .int x3)]) hx hb dX11_chance_8 hl (by decide) rfl (fun ls hl => ?_)
    refine lv_aload_n hx hb dX11_chance_10 rfl (lv_at hl 1 rfl) ?_
    rcases hN7 : gR M a0 5 with _ | b7
    · exact absurd (oc_n hN7 h) (by simp)
    replace h := oc_s hN7 h
    have kb7 := hT.f k0 (k := 5) (t := 0) (n := 0) rfl hN7
    refine r_get (T := TX11) (v := .ref (ad b7)) hx hb hts in11 hown hK hP k0 (by decide) rfl 5 (by decide) (hts (.fieldLink RX11 45 "StoneWalk" "island" "LStoneWalk$Island;") (List.mem_of_getElem? (i := 1) (by decide +kernel))) rfl (t := 2) rfl (by show va_rf _ = _; rw [hN7]; rfl) dX11_chance_11 ?_
    refine lv_iload_n hx hb dX11_chance_14 rfl (lv_at hl 3 rfl) ?_
    obtain ⟨z8, h8, h⟩ := ob_some h
    refine k_q (va_runV (As := [.int x2]) (rest := []) ⟨hx, hb, hml, hown, hts⟩ (c_X0_statueAt (l := l) M b7 x2 kb7 h8) (cwV 1 hts gX11_chance_X0_statueAt rfl rfl rfl hdV_X0_statueAt ⟨Nat.le_of_ble_eq_true rfl, Nat.le_of_ble_eq_true rfl⟩) (pV (T := TX0) hP hK hD hT hG hS kb7 (by decide) rfl) rfl rfl hl.1 rfl (lv_room (Nat.le_of_ble_eq_true rfl)) dX11_chance_15 ⟨Nat.zero_le _, Nat.zero_le _⟩) hS (fun H locs hq8 hP hD hT hS => ?_)
    rcases hN8 : z8 with _ | b8
    · replace h := oc_n hN8 h
      show W _ _ _ _ _ _ _ _ _ _ _ _ _ _ _ (F0 _ _ _ (.null :: []))
      refine lv_astoreN (lv' := [(5, .null), (4, .ref (ad b2)), (0, .ref (ad a0)), (1, .int x1), (2, .int x2), (3, .int x3)]) hx hb dX11_chance_18 hl (by decide) rfl (fun ls hl => ?_)
      refine lv_aload hx hb dX11_chance_20 (lv_at hl 1 rfl) ?_
      refine lv_ifnull hx hb dX11_chance_22 ?_
      refine lv_aloadN hx hb dX11_chance_25 (lv_at hl 0 rfl) ?_
      refine lv_ifnonnullN hx hb dX11_chance_27 ?_
      refine lv_aload_n hx hb dX11_chance_30 rfl (lv_at hl 2 rfl) ?_
      refine lv_iconst (v := 1) hx hb dX11_chance_31 rfl ?_
      obtain ⟨z9, h9, h⟩ := ob_some h
      refine k_i (va_runV (As := [.int 1]) (rest := []) ⟨hx, hb, hml, hown, hts⟩ (c_X11_refused (l := l) M a0 1 k0 h9) (cwV 1 hts gX11_chance_X11_refused rfl rfl rfl hdV_X11_refused ⟨Nat.le_of_ble_eq_true rfl, Nat.le_of_ble_eq_true rfl⟩) (pV (T := TX11) hP hK hD hT hG hS k0 (by decide) rfl) rfl rfl hl.1 rfl (lv_room (Nat.le_of_ble_eq_true rfl)) dX11_chance_32 ⟨Nat.zero_le _, Nat.zero_le _⟩) hS (fun H locs hP hD hT hS => ?_)
      have hZ := Option.some.inj h
      have hZ1 := congrArg Prod.fst hZ
      have hZ2 := congrArg Prod.snd hZ
      exact r_iret hx hb hr hlocks hP hK hD hT hG hS hZ1 hZ2 dX11_chance_35
    · replace h := oc_s hN8 h
      have kb8 := hq8 _ hN8
      show W _ _ _ _ _ _ _ _ _ _ _ _ _ _ _ (F0 _ _ _ (.ref (ad b8) :: []))
      refine lv_astore (lv' := [(5, .ref (ad b8)), (4, .ref (ad b2)), (0, .ref (ad a0)), (1, .int x1), (2, .int x2), (3, .int x3)]) hx hb dX11_chance_18 hl (by decide) rfl (fun ls hl => ?_)
      refine lv_aload hx hb dX11_chance_20 (lv_at hl 1 rfl) ?_
      refine lv_ifnull hx hb dX11_chance_22 ?_
      refine lv_aload hx hb dX11_chance_25 (lv_at hl 0 rfl) ?_
      refine lv_ifnonnull (tgt := 36) hx hb dX11_chance_27 rfl ?_
      refine lv_iload_n hx hb dX11_chance_36 rfl (lv_at hl 5 rfl) ?_
      obtain ⟨z10, h10, h⟩ := ob_some h
      refine k_z (va_runS (As := [.int x3]) (rest := []) ⟨hx, hb, hml, hown, hts⟩ (c_X11_isSlope (l := l) M x3 h10) (va_cwS 1 hts gX11_chance_X11_isSlope rfl rfl rfl hdS_X11_isSlope ⟨Nat.le_of_ble_eq_true rfl, Nat.le_of_ble_eq_true rfl⟩) (pS hP hK hD hT hG hS) rfl rfl hl.1 rfl (lv_room (Nat.le_of_ble_eq_true rfl)) dX11_chance_37 ⟨Nat.zero_le _, Nat.zero_le _⟩) hS (fun H locs hz10 hP hD hT hS => ?_)
      refine lv_if_ne (tgt := 49) hx hb dX11_chance_40 rfl (fun c11 => ?_) (fun c11 => ?_)
      · replace h := ite_f c11 h
        refine lv_aload_n hx hb dX11_chance_49 rfl (lv_at hl 2 rfl) ?_
        refine lv_aload hx hb dX11_chance_50 (lv_at hl 1 rfl) ?_
        refine lv_aload hx hb dX11_chance_52 (lv_at hl 0 rfl) ?_
        refine r_get (T := TX5) (v := .int (gI M b8 2)) hx hb hts in5 hown hK hP kb8 (by decide) rfl 2 (by decide) (hts (.fieldLink RX11 145 "StoneWalk$Stone" "edge" "I") (List.mem_of_getElem? (i := 2) (by decide +kernel))) rfl (t := 0) rfl rfl dX11_chance_54 ?_
        refine lv_iload_n hx hb dX11_chance_57 rfl (lv_at hl 5 rfl) ?_
        obtain ⟨z12, h12, h⟩ := ob_some h
        refine k_i (va_runV (As := [.int (gI M b8 2), .int x3]) (rest := [.ref (ad a0)]) ⟨hx, hb, hml, hown, hts⟩ (c_X10_risk (l := l) M b2 (gI M b8 2) x3 kb2 h12) (cwV 2 hts gX11_chance_X10_risk rfl rfl rfl hdV_X10_risk ⟨Nat.le_of_ble_eq_true rfl, Nat.le_of_ble_eq_true rfl⟩) (pV (T := TX10) hP hK hD hT hG hS kb2 (by decide) rfl) rfl rfl hl.1 rfl (lv_room (Nat.le_of_ble_eq_true rfl)) dX11_chance_58 ⟨Nat.zero_le _, Nat.zero_le _⟩) hS (fun H locs hP hD hT hS => ?_)
        obtain ⟨z13, h13, h⟩ := ob_some h
        refine k_i (va_runV (As := [.int z12]) (rest := []) ⟨hx, hb, hml, hown, hts⟩ (c_X11_granted (l := l) M a0 z12 k0 h13) (cwV 1 hts gX11_chance_X11_granted rfl rfl rfl hdV_X11_granted ⟨Nat.le_of_ble_eq_true rfl, Nat.le_of_ble_eq_true rfl⟩) (pV (T := TX11) hP hK hD hT hG hS k0 (by decide) rfl) rfl rfl hl.1 rfl (lv_room (Nat.le_of_ble_eq_true rfl)) dX11_chance_61 ⟨Nat.zero_le _, Nat.zero_le _⟩) hS (fun H locs hP hD hT hS => ?_)
        have hZ := Option.some.inj h
        have hZ1 := congrArg Prod.fst hZ
        have hZ2 := congrArg Prod.snd hZ
        exact r_iret hx hb hr hlocks hP hK hD hT hG hS hZ1 hZ2 dX11_chance_64
      · replace h := ite_t c11 h
        refine lv_aload_n hx hb dX11_chance_43 rfl (lv_at hl 2 rfl) ?_
        refine lv_iconst (v := 2) hx hb dX11_chance_44 rfl ?_
        obtain ⟨z14, h14, h⟩ := ob_some h
        refine k_i (va_runV (As := [.int 2]) (rest := []) ⟨hx, hb, hml, hown, hts⟩ (c_X11_refused (l := l) M a0 2 k0 h14) (cwV 1 hts gX11_chance_X11_refused rfl rfl rfl hdV_X11_refused ⟨Nat.le_of_ble_eq_true rfl, Nat.le_of_ble_eq_true rfl⟩) (pV (T := TX11) hP hK hD hT hG hS k0 (by decide) rfl) rfl rfl hl.1 rfl (lv_room (Nat.le_of_ble_eq_true rfl)) dX11_chance_45 ⟨Nat.zero_le _, Nat.zero_le _⟩) hS (fun H locs hP hD hT hS => ?_)
        have hZ := Option.some.inj h
        have hZ1 := congrArg Prod.fst hZ
        have hZ2 := congrArg Prod.snd hZ
        exact r_iret hx hb hr hlocks hP hK hD hT hG hS hZ1 hZ2 dX11_chance_48
set_option maxHeartbeats 4000000 in
set_option maxRecDepth 100000 in
theorem c_X11_isLie {l : Launch} {D : va_G} {ad : Nat → Nat} {cy : Nat → ClassId} {A : Nat → Prop} {g : CG} {q : SE} (M : MM) (x0 : Int32) {Z : Int32} (h : f_X11_isLie M x0 = some Z) : Met l yX11_isLie wsX11_isLie ({ frames := 0, cells := 0, slots := 0, locals := 0 }) (va_Pc [.int x0] (Wd D ad cy A g q M)) (va_Qi (fun r u => r = Z ∧ u = M ∧ zb r) (Wd D ad cy A g q) A) 0 0 A := by
  refine Met.ofW (cc := cX11_isLie) (maxL := 1) (ret := (some .boolean)) (by decide) rfl ?_
  intro p e s m args below meth c s₁ B hml hv
  obtain ⟨rfl, hP, hK, hD, hT, hG⟩ := hv
  have hx := B.exec
  have hb := B.bytes
  have hr := B.returns
  have hts := atoms_spec (ws := wsX11_isLie) B.pre
  have hown : s.vm.findClass RX11 = some m.cls := findClass_of_methodNamed B.named
  have hlocks := B.notSynchronized
  have hS : va_S A s.heap s.heap [] := va_S.rf
  have hl := lv_entry ([.int x0]) (n := 1) (Nat.le_of_ble_eq_true rfl)
  rw [lg_entry_eq]
  generalize (lg_sl ([.int x0]) ++ List.replicate (1 - (lg_sl ([.int x0])).length) Slot.unset).toArray = ls at hl ⊢
  have hl : lv_has ls 1 [(0, .int x0)] := hl
  unfold f_X11_isLie at h
  refine lv_iload_n hx hb dX11_isLie_0 rfl (lv_at hl 0 rfl) ?_
  refine lv_if_lt (tgt := 13) hx hb dX11_isLie_1 rfl (fun c1 => ?_) (fun c1 => ?_)
  · replace h := ite_t c1 h
    refine lv_iconst (v := 0) hx hb dX11_isLie_13 rfl ?_
    exact r_zret hx hb hr hlocks hP hK hD hT hG hS zb_0 (Option.some.inj h) rfl dX11_isLie_14
  · replace h := ite_f c1 h
    refine lv_iload_n hx hb dX11_isLie_4 rfl (lv_at hl 0 rfl) ?_
    refine lv_iconst (v := 2) hx hb dX11_isLie_5 rfl ?_
    refine lv_icmp_gt (tgt := 13) hx hb dX11_isLie_6 rfl (fun c2 => ?_) (fun c2 => ?_)
    · replace h := ite_t c2 h
      refine lv_iconst (v := 0) hx hb dX11_isLie_13 rfl ?_
      exact r_zret hx hb hr hlocks hP hK hD hT hG hS zb_0 (Option.some.inj h) rfl dX11_isLie_14
    · replace h := ite_f c2 h
      refine lv_iconst (v := 1) hx hb dX11_isLie_9 rfl ?_
      refine lv_goto (tgt := 14) hx hb dX11_isLie_10 rfl ?_
      exact r_zret hx hb hr hlocks hP hK hD hT hG hS zb_1 (Option.some.inj h) rfl dX11_isLie_14
set_option maxHeartbeats 4000000 in
set_option maxRecDepth 100000 in
theorem c_X11_lying {l : Launch} {D : va_G} {ad : Nat → Nat} {cy : Nat → ClassId} {A : Nat → Prop} {g : CG} {q : SE} (M : MM) (a0 : Nat) (x1 : Int32) (x2 : Int32) (x3 : Int32) (k0 : ok g a0 11 0) {Z : (Int32 × MM)} (h : f_X11_lying M a0 x1 x2 x3 = some Z) : Met l yX11_lying wsX11_lying ({ frames := 2, cells := 0, slots := 0, locals := 44 }) (va_Pc [.ref (ad a0), .int x1, .int x2, .int x3] (Wd D ad cy A g q M)) (va_Qi (fun r u => r = Z.1 ∧ u = Z.2) (Wd D ad cy A g q) A) 0 0 A := by
  refine Met.ofW (cc := cX11_lying) (maxL := 5) (ret := (some .int)) (by decide) rfl ?_
  intro p e s m args below meth c s₁ B hml hv
  obtain ⟨rfl, hP, hK, hD, hT, hG⟩ := hv
  have hx := B.exec
  have hb := B.bytes
  have hr := B.returns
  have hts := atoms_spec (ws := wsX11_lying) B.pre
  have hown : s.vm.findClass RX11 = some m.cls := findClass_of_methodNamed B.named
  have hlocks := B.notSynchronized
  have in11 : ∀ w ∈ u_ws RX11 TX11 8, w ∈ wsX11_lying := fun w h => List.mem_cons_of_mem _ (List.mem_append_left _ (List.mem_append_left _ (List.mem_append_right _ h)))
  have hS : va_S A s.heap s.heap [] := va_S.rf
  have hl := lv_entry ([.ref (ad a0), .int x1, .int x2, .int x3]) (n := 5) (Nat.le_of_ble_eq_true rfl)
  rw [lg_entry_eq]
  generalize (lg_sl ([.ref (ad a0), .int x1, .int x2, .int x3]) ++ List.replicate (5 - (lg_sl ([.ref (ad a0), .int x1, .int x2, .int x3])).length) Slot.unset).toArray = ls at hl ⊢
  have hl : lv_has ls 5 [(0, .ref (ad a0)), (1, .int x1), (2, .int x2), (3, .int x3)] := hl
  unfold f_X11_lying at h
  refine lv_aload_n hx hb dX11_lying_0 rfl (lv_at hl 0 rfl) ?_
  rcases hN1 : gR M a0 5 with _ | b1
  · exact absurd (oc_n hN1 h) (by simp)
  replace h := oc_s hN1 h
  have kb1 := hT.f k0 (k := 5) (t := 0) (n := 0) rfl hN1
  refine r_get (T := TX11) (v := .ref (ad b1)) hx hb hts in11 hown hK hP k0 (by decide) rfl 5 (by decide) (hts (.fieldLink RX11 45 "StoneWalk" "island" "LStoneWalk$Island;") (List.mem_of_getElem? (i := 1) (by decide +kernel))) rfl (t := 2) rfl (by show va_rf _ = _; rw [hN1]; rfl) dX11_lying_1 ?_
  refine lv_iload_n hx hb dX11_lying_4 rfl (lv_at hl 1 rfl) ?_
  obtain ⟨z2, h2, h⟩ := ob_some h
  refine k_q (va_runV (As := [.int x1]) (rest := []) ⟨hx, hb, hml, hown, hts⟩ (c_X0_wayAt (l := l) M b1 x1 kb1 h2) (cwV 1 hts gX11_lying_X0_wayAt rfl rfl rfl hdV_X0_wayAt ⟨Nat.le_of_ble_eq_true rfl, Nat.le_of_ble_eq_true rfl⟩) (pV (T := TX0) hP hK hD hT hG hS kb1 (by decide) rfl) rfl rfl hl.1 rfl (lv_room (Nat.le_of_ble_eq_true rfl)) dX11_lying_5 ⟨Nat.zero_le _, Nat.zero_le _⟩) hS (fun H locs hq2 hP hD hT hS => ?_)
  rcases hN2 : z2 with _ | b2
  · replace h := oc_n hN2 h
    show W _ _ _ _ _ _ _ _ _ _ _ _ _ _ _ (F0 _ _ _ (.null :: []))
    refine lv_astoreN (lv' := [(4, .null), (0, .ref (ad a0)), (1, .int x1), (2, .int x2), (3, .int x3)]) hx hb dX11_lying_8 hl (by decide) rfl (fun ls hl => ?_)
    refine lv_aloadN hx hb dX11_lying_10 (lv_at hl 0 rfl) ?_
    refine lv_ifnullN (tgt := 22) hx hb dX11_lying_12 rfl ?_
    refine lv_aload_n hx hb dX11_lying_22 rfl (lv_at hl 1 rfl) ?_
    refine lv_iconst (v := 1) hx hb dX11_lying_23 rfl ?_
    obtain ⟨z3, h3, h⟩ := ob_some h
    refine k_i (va_runV (As := [.int 1]) (rest := []) ⟨hx, hb, hml, hown, hts⟩ (c_X11_refused (l := l) M a0 1 k0 h3) (cwV 1 hts gX11_lying_X11_refused rfl rfl rfl hdV_X11_refused ⟨Nat.le_of_ble_eq_true rfl, Nat.le_of_ble_eq_true rfl⟩) (pV (T := TX11) hP hK hD hT hG hS k0 (by decide) rfl) rfl rfl hl.1 rfl (lv_room (Nat.le_of_ble_eq_true rfl)) dX11_lying_24 ⟨Nat.zero_le _, Nat.zero_le _⟩) hS (fun H locs hP hD hT hS => ?_)
    have hZ := Option.some.inj h
    have hZ1 := congrArg Prod.fst hZ
    have hZ2 := congrArg Prod.snd hZ
    exact r_iret hx hb hr hlocks hP hK hD hT hG hS hZ1 hZ2 dX11_lying_27
  · replace h := oc_s hN2 h
    have kb2 := hq2 _ hN2
    show W _ _ _ _ _ _ _ _ _ _ _ _ _ _ _ (F0 _ _ _ (.ref (ad b2) :: []))
    refine lv_astore (lv' := [(4, .ref (ad b2)), (0, .ref (ad a0)), (1, .int x1), (2, .int x2), (3, .int x3)]) hx hb dX11_lying_8 hl (by decide) rfl (fun ls hl => ?_)
    refine lv_aload hx hb dX11_lying_10 (lv_at hl 0 rfl) ?_
    refine lv_ifnull hx hb dX11_lying_12 ?_
    refine lv_iload_n hx hb dX11_lying_15 rfl (lv_at hl 4 rfl) ?_
    obtain ⟨z4, h4, h⟩ := ob_some h
    refine k_z (va_runS (As := [.int x3]) (rest := []) ⟨hx, hb, hml, hown, hts⟩ (c_X11_isLie (l := l) M x3 h4) (va_cwS 1 hts gX11_lying_X11_isLie rfl rfl rfl hdS_X11_isLie ⟨Nat.le_of_ble_eq_true rfl, Nat.le_of_ble_eq_true rfl⟩) (pS hP hK hD hT hG hS) rfl rfl hl.1 rfl (lv_room (Nat.le_of_ble_eq_true rfl)) dX11_lying_16 ⟨Nat.zero_le _, Nat.zero_le _⟩) hS (fun H locs hz4 hP hD hT hS => ?_)
    refine lv_if_ne (tgt := 28) hx hb dX11_lying_19 rfl (fun c5 => ?_) (fun c5 => ?_)
    · replace h := ite_f c5 h
      refine lv_iload_n hx hb dX11_lying_28 rfl (lv_at hl 3 rfl) ?_
      obtain ⟨z6, h6, h⟩ := ob_some h
      refine k_z (va_runS (As := [.int x2]) (rest := []) ⟨hx, hb, hml, hown, hts⟩ (c_X11_isSlope (l := l) M x2 h6) (va_cwS 1 hts gX11_lying_X11_isSlope rfl rfl rfl hdS_X11_isSlope ⟨Nat.le_of_ble_eq_true rfl, Nat.le_of_ble_eq_true rfl⟩) (pS hP hK hD hT hG hS) rfl rfl hl.1 rfl (lv_room (Nat.le_of_ble_eq_true rfl)) dX11_lying_29 ⟨Nat.zero_le _, Nat.zero_le _⟩) hS (fun H locs hz6 hP hD hT hS => ?_)
      refine lv_if_ne (tgt := 41) hx hb dX11_lying_32 rfl (fun c7 => ?_) (fun c7 => ?_)
      · replace h := ite_f c7 h
        refine lv_aload_n hx hb dX11_lying_41 rfl (lv_at hl 1 rfl) ?_
        refine lv_aload hx hb dX11_lying_42 (lv_at hl 0 rfl) ?_
        refine lv_iload_n hx hb dX11_lying_44 rfl (lv_at hl 3 rfl) ?_
        refine lv_iload_n hx hb dX11_lying_45 rfl (lv_at hl 4 rfl) ?_
        obtain ⟨z8, h8, h⟩ := ob_some h
        refine k_i (va_runV (As := [.int x2, .int x3]) (rest := [.ref (ad a0)]) ⟨hx, hb, hml, hown, hts⟩ (c_X10_tenths (l := l) M b2 x2 x3 kb2 h8) (cwV 2 hts gX11_lying_X10_tenths rfl rfl rfl hdV_X10_tenths ⟨Nat.le_of_ble_eq_true rfl, Nat.le_of_ble_eq_true rfl⟩) (pV (T := TX10) hP hK hD hT hG hS kb2 (by decide) rfl) rfl rfl hl.1 rfl (lv_room (Nat.le_of_ble_eq_true rfl)) dX11_lying_46 ⟨Nat.zero_le _, Nat.zero_le _⟩) hS (fun H locs hP hD hT hS => ?_)
        obtain ⟨z9, h9, h⟩ := ob_some h
        refine k_i (va_runV (As := [.int z8]) (rest := []) ⟨hx, hb, hml, hown, hts⟩ (c_X11_granted (l := l) M a0 z8 k0 h9) (cwV 1 hts gX11_lying_X11_granted rfl rfl rfl hdV_X11_granted ⟨Nat.le_of_ble_eq_true rfl, Nat.le_of_ble_eq_true rfl⟩) (pV (T := TX11) hP hK hD hT hG hS k0 (by decide) rfl) rfl rfl hl.1 rfl (lv_room (Nat.le_of_ble_eq_true rfl)) dX11_lying_49 ⟨Nat.zero_le _, Nat.zero_le _⟩) hS (fun H locs hP hD hT hS => ?_)
        have hZ := Option.some.inj h
        have hZ1 := congrArg Prod.fst hZ
        have hZ2 := congrArg Prod.snd hZ
        exact r_iret hx hb hr hlocks hP hK hD hT hG hS hZ1 hZ2 dX11_lying_52
      · replace h := ite_t c7 h
        refine lv_aload_n hx hb dX11_lying_35 rfl (lv_at hl 1 rfl) ?_
        refine lv_iconst (v := 2) hx hb dX11_lying_36 rfl ?_
        obtain ⟨z10, h10, h⟩ := ob_some h
        refine k_i (va_runV (As := [.int 2]) (rest := []) ⟨hx, hb, hml, hown, hts⟩ (c_X11_refused (l := l) M a0 2 k0 h10) (cwV 1 hts gX11_lying_X11_refused rfl rfl rfl hdV_X11_refused ⟨Nat.le_of_ble_eq_true rfl, Nat.le_of_ble_eq_true rfl⟩) (pV (T := TX11) hP hK hD hT hG hS k0 (by decide) rfl) rfl rfl hl.1 rfl (lv_room (Nat.le_of_ble_eq_true rfl)) dX11_lying_37 ⟨Nat.zero_le _, Nat.zero_le _⟩) hS (fun H locs hP hD hT hS => ?_)
        have hZ := Option.some.inj h
        have hZ1 := congrArg Prod.fst hZ
        have hZ2 := congrArg Prod.snd hZ
        exact r_iret hx hb hr hlocks hP hK hD hT hG hS hZ1 hZ2 dX11_lying_40
    · replace h := ite_t c5 h
      refine lv_aload_n hx hb dX11_lying_22 rfl (lv_at hl 1 rfl) ?_
      refine lv_iconst (v := 1) hx hb dX11_lying_23 rfl ?_
      obtain ⟨z11, h11, h⟩ := ob_some h
      refine k_i (va_runV (As := [.int 1]) (rest := []) ⟨hx, hb, hml, hown, hts⟩ (c_X11_refused (l := l) M a0 1 k0 h11) (cwV 1 hts gX11_lying_X11_refused rfl rfl rfl hdV_X11_refused ⟨Nat.le_of_ble_eq_true rfl, Nat.le_of_ble_eq_true rfl⟩) (pV (T := TX11) hP hK hD hT hG hS k0 (by decide) rfl) rfl rfl hl.1 rfl (lv_room (Nat.le_of_ble_eq_true rfl)) dX11_lying_24 ⟨Nat.zero_le _, Nat.zero_le _⟩) hS (fun H locs hP hD hT hS => ?_)
      have hZ := Option.some.inj h
      have hZ1 := congrArg Prod.fst hZ
      have hZ2 := congrArg Prod.snd hZ
      exact r_iret hx hb hr hlocks hP hK hD hT hG hS hZ1 hZ2 dX11_lying_27
set_option maxHeartbeats 4000000 in
set_option maxRecDepth 100000 in
theorem c_X11_easiest {l : Launch} {D : va_G} {ad : Nat → Nat} {cy : Nat → ClassId} {A : Nat → Prop} {g : CG} {q : SE} (M : MM) (a0 : Nat) (x1 : Int32) (x2 : Int32) (k0 : ok g a0 11 0) {Z : (Int32 × MM)} (h : f_X11_easiest M a0 x1 x2 = some Z) : Met l yX11_easiest wsX11_easiest ({ frames := 4, cells := 0, slots := 0, locals := 98 }) (va_Pc [.ref (ad a0), .int x1, .int x2] (Wd D ad cy A g q M)) (va_Qi (fun r u => r = Z.1 ∧ u = Z.2) (Wd D ad cy A g q) A) 0 0 A := by
  refine Met.ofW (cc := cX11_easiest) (maxL := 5) (ret := (some .int)) (by decide) rfl ?_
  intro p e s m args below meth c s₁ B hml hv
  obtain ⟨rfl, hP, hK, hD, hT, hG⟩ := hv
  have hx := B.exec
  have hb := B.bytes
  have hr := B.returns
  have hts := atoms_spec (ws := wsX11_easiest) B.pre
  have hown : s.vm.findClass RX11 = some m.cls := findClass_of_methodNamed B.named
  have hlocks := B.notSynchronized
  have in11 : ∀ w ∈ u_ws RX11 TX11 8, w ∈ wsX11_easiest := fun w h => List.mem_cons_of_mem _ (List.mem_append_left _ (List.mem_append_left _ (List.mem_append_left _ (List.mem_append_left _ (List.mem_append_right _ h)))))
  have hS : va_S A s.heap s.heap [] := va_S.rf
  have hl := lv_entry ([.ref (ad a0), .int x1, .int x2]) (n := 5) (Nat.le_of_ble_eq_true rfl)
  rw [lg_entry_eq]
  generalize (lg_sl ([.ref (ad a0), .int x1, .int x2]) ++ List.replicate (5 - (lg_sl ([.ref (ad a0), .int x1, .int x2])).length) Slot.unset).toArray = ls at hl ⊢
  have hl : lv_has ls 5 [(0, .ref (ad a0)), (1, .int x1), (2, .int x2)] := hl
  unfold f_X11_easiest at h
  refine lv_aload_n hx hb dX11_easiest_0 rfl (lv_at hl 0 rfl) ?_
  rcases hN1 : gR M a0 5 with _ | b1
  · exact absurd (oc_n hN1 h) (by simp)
  replace h := oc_s hN1 h
  have kb1 := hT.f k0 (k := 5) (t := 0) (n := 0) rfl hN1
  refine r_get (T := TX11) (v := .ref (ad b1)) hx hb hts in11 hown hK hP k0 (by decide) rfl 5 (by decide) (hts (.fieldLink RX11 45 "StoneWalk" "island" "LStoneWalk$Island;") (List.mem_of_getElem? (i := 1) (by decide +kernel))) rfl (t := 2) rfl (by show va_rf _ = _; rw [hN1]; rfl) dX11_easiest_1 ?_
  refine lv_iload_n hx hb dX11_easiest_4 rfl (lv_at hl 1 rfl) ?_
  obtain ⟨z2, h2, h⟩ := ob_some h
  refine k_q (va_runV (As := [.int x1]) (rest := []) ⟨hx, hb, hml, hown, hts⟩ (c_X0_statueAt (l := l) M b1 x1 kb1 h2) (cwV 1 hts gX11_easiest_X0_statueAt rfl rfl rfl hdV_X0_statueAt ⟨Nat.le_of_ble_eq_true rfl, Nat.le_of_ble_eq_true rfl⟩) (pV (T := TX0) hP hK hD hT hG hS kb1 (by decide) rfl) rfl rfl hl.1 rfl (lv_room (Nat.le_of_ble_eq_true rfl)) dX11_easiest_5 ⟨Nat.zero_le _, Nat.zero_le _⟩) hS (fun H locs hq2 hP hD hT hS => ?_)
  rcases hN2 : z2 with _ | b2
  · replace h := oc_n hN2 h
    show W _ _ _ _ _ _ _ _ _ _ _ _ _ _ _ (F0 _ _ _ (.null :: []))
    refine lv_astore_nN (lv' := [(3, .null), (0, .ref (ad a0)), (1, .int x1), (2, .int x2)]) hx hb dX11_easiest_8 rfl hl (by decide) rfl (fun ls hl => ?_)
    refine lv_aload_n hx hb dX11_easiest_9 rfl (lv_at hl 1 rfl) ?_
    rcases hN3 : gR M a0 5 with _ | b3
    · exact absurd (oc_n hN3 h) (by simp)
    replace h := oc_s hN3 h
    have kb3 := hT.f k0 (k := 5) (t := 0) (n := 0) rfl hN3
    refine r_get (T := TX11) (v := .ref (ad b3)) hx hb hts in11 hown hK hP k0 (by decide) rfl 5 (by decide) (hts (.fieldLink RX11 45 "StoneWalk" "island" "LStoneWalk$Island;") (List.mem_of_getElem? (i := 1) (by decide +kernel))) rfl (t := 2) rfl (by show va_rf _ = _; rw [hN3]; rfl) dX11_easiest_10 ?_
    refine lv_iload_n hx hb dX11_easiest_13 rfl (lv_at hl 3 rfl) ?_
    obtain ⟨z4, h4, h⟩ := ob_some h
    refine k_q (va_runV (As := [.int x2]) (rest := []) ⟨hx, hb, hml, hown, hts⟩ (c_X0_roadAt (l := l) M b3 x2 kb3 h4) (cwV 1 hts gX11_easiest_X0_roadAt rfl rfl rfl hdV_X0_roadAt ⟨Nat.le_of_ble_eq_true rfl, Nat.le_of_ble_eq_true rfl⟩) (pV (T := TX0) hP hK hD hT hG hS kb3 (by decide) rfl) rfl rfl hl.1 rfl (lv_room (Nat.le_of_ble_eq_true rfl)) dX11_easiest_14 ⟨Nat.zero_le _, Nat.zero_le _⟩) hS (fun H locs hq4 hP hD hT hS => ?_)
    rcases hN4 : z4 with _ | b4
    · replace h := oc_n hN4 h
      show W _ _ _ _ _ _ _ _ _ _ _ _ _ _ _ (F0 _ _ _ (.null :: []))
      refine lv_astoreN (lv' := [(4, .null), (3, .null), (0, .ref (ad a0)), (1, .int x1), (2, .int x2)]) hx hb dX11_easiest_17 hl (by decide) rfl (fun ls hl => ?_)
      refine lv_aload_nN hx hb dX11_easiest_19 rfl (lv_at hl 1 rfl) ?_
      refine lv_ifnullN (tgt := 28) hx hb dX11_easiest_20 rfl ?_
      refine lv_aload_n hx hb dX11_easiest_28 rfl (lv_at hl 2 rfl) ?_
      refine lv_iconst (v := 1) hx hb dX11_easiest_29 rfl ?_
      obtain ⟨z5, h5, h⟩ := ob_some h
      refine k_i (va_runV (As := [.int 1]) (rest := []) ⟨hx, hb, hml, hown, hts⟩ (c_X11_refused (l := l) M a0 1 k0 h5) (cwV 1 hts gX11_easiest_X11_refused rfl rfl rfl hdV_X11_refused ⟨Nat.le_of_ble_eq_true rfl, Nat.le_of_ble_eq_true rfl⟩) (pV (T := TX11) hP hK hD hT hG hS k0 (by decide) rfl) rfl rfl hl.1 rfl (lv_room (Nat.le_of_ble_eq_true rfl)) dX11_easiest_30 ⟨Nat.zero_le _, Nat.zero_le _⟩) hS (fun H locs hP hD hT hS => ?_)
      have hZ := Option.some.inj h
      have hZ1 := congrArg Prod.fst hZ
      have hZ2 := congrArg Prod.snd hZ
      exact r_iret hx hb hr hlocks hP hK hD hT hG hS hZ1 hZ2 dX11_easiest_33
    · replace h := oc_s hN4 h
      have kb4 := hq4 _ hN4
      show W _ _ _ _ _ _ _ _ _ _ _ _ _ _ _ (F0 _ _ _ (.ref (ad b4) :: []))
      refine lv_astore (lv' := [(4, .ref (ad b4)), (3, .null), (0, .ref (ad a0)), (1, .int x1), (2, .int x2)]) hx hb dX11_easiest_17 hl (by decide) rfl (fun ls hl => ?_)
      refine lv_aload_nN hx hb dX11_easiest_19 rfl (lv_at hl 1 rfl) ?_
      refine lv_ifnullN (tgt := 28) hx hb dX11_easiest_20 rfl ?_
      refine lv_aload_n hx hb dX11_easiest_28 rfl (lv_at hl 2 rfl) ?_
      refine lv_iconst (v := 1) hx hb dX11_easiest_29 rfl ?_
      obtain ⟨z6, h6, h⟩ := ob_some h
      refine k_i (va_runV (As := [.int 1]) (rest := []) ⟨hx, hb, hml, hown, hts⟩ (c_X11_refused (l := l) M a0 1 k0 h6) (cwV 1 hts gX11_easiest_X11_refused rfl rfl rfl hdV_X11_refused ⟨Nat.le_of_ble_eq_true rfl, Nat.le_of_ble_eq_true rfl⟩) (pV (T := TX11) hP hK hD hT hG hS k0 (by decide) rfl) rfl rfl hl.1 rfl (lv_room (Nat.le_of_ble_eq_true rfl)) dX11_easiest_30 ⟨Nat.zero_le _, Nat.zero_le _⟩) hS (fun H locs hP hD hT hS => ?_)
      have hZ := Option.some.inj h
      have hZ1 := congrArg Prod.fst hZ
      have hZ2 := congrArg Prod.snd hZ
      exact r_iret hx hb hr hlocks hP hK hD hT hG hS hZ1 hZ2 dX11_easiest_33
  · replace h := oc_s hN2 h
    have kb2 := hq2 _ hN2
    show W _ _ _ _ _ _ _ _ _ _ _ _ _ _ _ (F0 _ _ _ (.ref (ad b2) :: []))
    refine lv_astore_n (lv' := [(3, .ref (ad b2)), (0, .ref (ad a0)), (1, .int x1), (2, .int x2)]) hx hb dX11_easiest_8 rfl hl (by decide) rfl (fun ls hl => ?_)
    refine lv_aload_n hx hb dX11_easiest_9 rfl (lv_at hl 1 rfl) ?_
    rcases hN7 : gR M a0 5 with _ | b7
    · exact absurd (oc_n hN7 h) (by simp)
    replace h := oc_s hN7 h
    have kb7 := hT.f k0 (k := 5) (t := 0) (n := 0) rfl hN7
    refine r_get (T := TX11) (v := .ref (ad b7)) hx hb hts in11 hown hK hP k0 (by decide) rfl 5 (by decide) (hts (.fieldLink RX11 45 "StoneWalk" "island" "LStoneWalk$Island;") (List.mem_of_getElem? (i := 1) (by decide +kernel))) rfl (t := 2) rfl (by show va_rf _ = _; rw [hN7]; rfl) dX11_easiest_10 ?_
    refine lv_iload_n hx hb dX11_easiest_13 rfl (lv_at hl 3 rfl) ?_
    obtain ⟨z8, h8, h⟩ := ob_some h
    refine k_q (va_runV (As := [.int x2]) (rest := []) ⟨hx, hb, hml, hown, hts⟩ (c_X0_roadAt (l := l) M b7 x2 kb7 h8) (cwV 1 hts gX11_easiest_X0_roadAt rfl rfl rfl hdV_X0_roadAt ⟨Nat.le_of_ble_eq_true rfl, Nat.le_of_ble_eq_true rfl⟩) (pV (T := TX0) hP hK hD hT hG hS kb7 (by decide) rfl) rfl rfl hl.1 rfl (lv_room (Nat.le_of_ble_eq_true rfl)) dX11_easiest_14 ⟨Nat.zero_le _, Nat.zero_le _⟩) hS (fun H locs hq8 hP hD hT hS => ?_)
    rcases hN8 : z8 with _ | b8
    · replace h := oc_n hN8 h
      show W _ _ _ _ _ _ _ _ _ _ _ _ _ _ _ (F0 _ _ _ (.null :: []))
      refine lv_astoreN (lv' := [(4, .null), (3, .ref (ad b2)), (0, .ref (ad a0)), (1, .int x1), (2, .int x2)]) hx hb dX11_easiest_17 hl (by decide) rfl (fun ls hl => ?_)
      refine lv_aload_n hx hb dX11_easiest_19 rfl (lv_at hl 1 rfl) ?_
      refine lv_ifnull hx hb dX11_easiest_20 ?_
      refine lv_aloadN hx hb dX11_easiest_23 (lv_at hl 0 rfl) ?_
      refine lv_ifnonnullN hx hb dX11_easiest_25 ?_
      refine lv_aload_n hx hb dX11_easiest_28 rfl (lv_at hl 2 rfl) ?_
      refine lv_iconst (v := 1) hx hb dX11_easiest_29 rfl ?_
      obtain ⟨z9, h9, h⟩ := ob_some h
      refine k_i (va_runV (As := [.int 1]) (rest := []) ⟨hx, hb, hml, hown, hts⟩ (c_X11_refused (l := l) M a0 1 k0 h9) (cwV 1 hts gX11_easiest_X11_refused rfl rfl rfl hdV_X11_refused ⟨Nat.le_of_ble_eq_true rfl, Nat.le_of_ble_eq_true rfl⟩) (pV (T := TX11) hP hK hD hT hG hS k0 (by decide) rfl) rfl rfl hl.1 rfl (lv_room (Nat.le_of_ble_eq_true rfl)) dX11_easiest_30 ⟨Nat.zero_le _, Nat.zero_le _⟩) hS (fun H locs hP hD hT hS => ?_)
      have hZ := Option.some.inj h
      have hZ1 := congrArg Prod.fst hZ
      have hZ2 := congrArg Prod.snd hZ
      exact r_iret hx hb hr hlocks hP hK hD hT hG hS hZ1 hZ2 dX11_easiest_33
    · replace h := oc_s hN8 h
      have kb8 := hq8 _ hN8
      show W _ _ _ _ _ _ _ _ _ _ _ _ _ _ _ (F0 _ _ _ (.ref (ad b8) :: []))
      refine lv_astore (lv' := [(4, .ref (ad b8)), (3, .ref (ad b2)), (0, .ref (ad a0)), (1, .int x1), (2, .int x2)]) hx hb dX11_easiest_17 hl (by decide) rfl (fun ls hl => ?_)
      refine lv_aload_n hx hb dX11_easiest_19 rfl (lv_at hl 1 rfl) ?_
      refine lv_ifnull hx hb dX11_easiest_20 ?_
      refine lv_aload hx hb dX11_easiest_23 (lv_at hl 0 rfl) ?_
      refine lv_ifnonnull (tgt := 34) hx hb dX11_easiest_25 rfl ?_
      refine lv_aload_n hx hb dX11_easiest_34 rfl (lv_at hl 2 rfl) ?_
      refine lv_aload_n hx hb dX11_easiest_35 rfl (lv_at hl 2 rfl) ?_
      rcases hN10 : gR M a0 5 with _ | b10
      · exact absurd (oc_n hN10 h) (by simp)
      replace h := oc_s hN10 h
      have kb10 := hT.f k0 (k := 5) (t := 0) (n := 0) rfl hN10
      refine r_get (T := TX11) (v := .ref (ad b10)) hx hb hts in11 hown hK hP k0 (by decide) rfl 5 (by decide) (hts (.fieldLink RX11 45 "StoneWalk" "island" "LStoneWalk$Island;") (List.mem_of_getElem? (i := 1) (by decide +kernel))) rfl (t := 2) rfl (by show va_rf _ = _; rw [hN10]; rfl) dX11_easiest_36 ?_
      refine lv_aload_n hx hb dX11_easiest_39 rfl (lv_at hl 1 rfl) ?_
      refine lv_aload hx hb dX11_easiest_40 (lv_at hl 0 rfl) ?_
      obtain ⟨z11, h11, h⟩ := ob_some h
      refine k_i (va_runV (As := [.ref (ad b2), .ref (ad b8)]) (rest := [.ref (ad a0)]) ⟨hx, hb, hml, hown, hts⟩ (c_X0_easiestWay (l := l) M b10 b2 b8 kb10 kb2 kb8 h11) (cwV 2 hts gX11_easiest_X0_easiestWay rfl rfl rfl hdV_X0_easiestWay ⟨Nat.le_of_ble_eq_true rfl, Nat.le_of_ble_eq_true rfl⟩) (pV (T := TX0) hP hK hD hT hG hS kb10 (by decide) rfl) rfl rfl hl.1 rfl (lv_room (Nat.le_of_ble_eq_true rfl)) dX11_easiest_42 ⟨Nat.zero_le _, Nat.zero_le _⟩) hS (fun H locs hP hD hT hS => ?_)
      obtain ⟨z12, h12, h⟩ := ob_some h
      refine k_i (va_runV (As := [.int z11]) (rest := []) ⟨hx, hb, hml, hown, hts⟩ (c_X11_granted (l := l) M a0 z11 k0 h12) (cwV 1 hts gX11_easiest_X11_granted rfl rfl rfl hdV_X11_granted ⟨Nat.le_of_ble_eq_true rfl, Nat.le_of_ble_eq_true rfl⟩) (pV (T := TX11) hP hK hD hT hG hS k0 (by decide) rfl) rfl rfl hl.1 rfl (lv_room (Nat.le_of_ble_eq_true rfl)) dX11_easiest_45 ⟨Nat.zero_le _, Nat.zero_le _⟩) hS (fun H locs hP hD hT hS => ?_)
      have hZ := Option.some.inj h
      have hZ1 := congrArg Prod.fst hZ
      have hZ2 := congrArg Prod.snd hZ
      exact r_iret hx hb hr hlocks hP hK hD hT hG hS hZ1 hZ2 dX11_easiest_48
set_option maxHeartbeats 4000000 in
set_option maxRecDepth 100000 in
theorem c_X11_denied {l : Launch} {D : va_G} {ad : Nat → Nat} {cy : Nat → ClassId} {A : Nat → Prop} {g : CG} {q : SE} (M : MM) (a0 : Nat) (x1 : Int32) (k0 : ok g a0 11 0) {Z : (Int32 × MM)} (h : f_X11_denied M a0 x1 = some Z) : Met l yX11_denied wsX11_denied ({ frames := 0, cells := 0, slots := 0, locals := 0 }) (va_Pc [.ref (ad a0), .int x1] (Wd D ad cy A g q M)) (va_Qi (fun r u => r = Z.1 ∧ u = Z.2 ∧ zb r) (Wd D ad cy A g q) A) 0 0 A := by
  refine Met.ofW (cc := cX11_denied) (maxL := 2) (ret := (some .boolean)) (by decide) rfl ?_
  intro p e s m args below meth c s₁ B hml hv
  obtain ⟨rfl, hP, hK, hD, hT, hG⟩ := hv
  have hx := B.exec
  have hb := B.bytes
  have hr := B.returns
  have hts := atoms_spec (ws := wsX11_denied) B.pre
  have hown : s.vm.findClass RX11 = some m.cls := findClass_of_methodNamed B.named
  have hlocks := B.notSynchronized
  have in11 : ∀ w ∈ u_ws RX11 TX11 8, w ∈ wsX11_denied := fun w h => List.mem_cons_of_mem _ (List.mem_append_right _ h)
  have hS : va_S A s.heap s.heap [] := va_S.rf
  have hl := lv_entry ([.ref (ad a0), .int x1]) (n := 2) (Nat.le_of_ble_eq_true rfl)
  rw [lg_entry_eq]
  generalize (lg_sl ([.ref (ad a0), .int x1]) ++ List.replicate (2 - (lg_sl ([.ref (ad a0), .int x1])).length) Slot.unset).toArray = ls at hl ⊢
  have hl : lv_has ls 2 [(0, .ref (ad a0)), (1, .int x1)] := hl
  unfold f_X11_denied at h
  refine lv_aload_n hx hb dX11_denied_0 rfl (lv_at hl 0 rfl) ?_
  refine lv_iload_n hx hb dX11_denied_1 rfl (lv_at hl 1 rfl) ?_
  refine r_putI (T := TX11) (ty := .int) (v := x1) hx hb hts in11 tyX11 tyX11_ok nmX11 hown hK hP hD hT hS k0 (by decide) rfl 7 (by decide) (hts (.fieldLink RX11 52 "StoneWalk" "trouble" "I") (List.mem_of_getElem? (i := 1) (by decide +kernel))) rfl rfl (tyX11_ok 7 (by decide)) rfl rfl rfl dX11_denied_2 (fun H locs hP hD hT hS => ?_)
  refine lv_iconst (v := 0) hx hb dX11_denied_5 rfl ?_
  have hZ := Option.some.inj h
  have hZ1 := congrArg Prod.fst hZ
  have hZ2 := congrArg Prod.snd hZ
  exact r_zret hx hb hr hlocks hP hK hD hT hG hS zb_0 hZ1 hZ2 dX11_denied_6
set_option maxHeartbeats 4000000 in
set_option maxRecDepth 100000 in
theorem c_X11_allowed {l : Launch} {D : va_G} {ad : Nat → Nat} {cy : Nat → ClassId} {A : Nat → Prop} {g : CG} {q : SE} (M : MM) (a0 : Nat) (k0 : ok g a0 11 0) {Z : (Int32 × MM)} (h : f_X11_allowed M a0 = some Z) : Met l yX11_allowed wsX11_allowed ({ frames := 0, cells := 0, slots := 0, locals := 0 }) (va_Pc [.ref (ad a0)] (Wd D ad cy A g q M)) (va_Qi (fun r u => r = Z.1 ∧ u = Z.2 ∧ zb r) (Wd D ad cy A g q) A) 0 0 A := by
  refine Met.ofW (cc := cX11_allowed) (maxL := 1) (ret := (some .boolean)) (by decide) rfl ?_
  intro p e s m args below meth c s₁ B hml hv
  obtain ⟨rfl, hP, hK, hD, hT, hG⟩ := hv
  have hx := B.exec
  have hb := B.bytes
  have hr := B.returns
  have hts := atoms_spec (ws := wsX11_allowed) B.pre
  have hown : s.vm.findClass RX11 = some m.cls := findClass_of_methodNamed B.named
  have hlocks := B.notSynchronized
  have in11 : ∀ w ∈ u_ws RX11 TX11 8, w ∈ wsX11_allowed := fun w h => List.mem_cons_of_mem _ (List.mem_append_right _ h)
  have hS : va_S A s.heap s.heap [] := va_S.rf
  have hl := lv_entry ([.ref (ad a0)]) (n := 1) (Nat.le_of_ble_eq_true rfl)
  rw [lg_entry_eq]
  generalize (lg_sl ([.ref (ad a0)]) ++ List.replicate (1 - (lg_sl ([.ref (ad a0)])).length) Slot.unset).toArray = ls at hl ⊢
  have hl : lv_has ls 1 [(0, .ref (ad a0))] := hl
  unfold f_X11_allowed at h
  refine lv_aload_n hx hb dX11_allowed_0 rfl (lv_at hl 0 rfl) ?_
  refine lv_iconst (v := 0) hx hb dX11_allowed_1 rfl ?_
  refine r_putI (T := TX11) (ty := .int) (v := 0) hx hb hts in11 tyX11 tyX11_ok nmX11 hown hK hP hD hT hS k0 (by decide) rfl 7 (by decide) (hts (.fieldLink RX11 52 "StoneWalk" "trouble" "I") (List.mem_of_getElem? (i := 1) (by decide +kernel))) rfl rfl (tyX11_ok 7 (by decide)) rfl rfl rfl dX11_allowed_2 (fun H locs hP hD hT hS => ?_)
  refine lv_iconst (v := 1) hx hb dX11_allowed_5 rfl ?_
  have hZ := Option.some.inj h
  have hZ1 := congrArg Prod.fst hZ
  have hZ2 := congrArg Prod.snd hZ
  exact r_zret hx hb hr hlocks hP hK hD hT hG hS zb_1 hZ1 hZ2 dX11_allowed_6
set_option maxHeartbeats 4000000 in
set_option maxRecDepth 100000 in
theorem c_X11_seed {l : Launch} {D : va_G} {ad : Nat → Nat} {cy : Nat → ClassId} {A : Nat → Prop} {g : CG} {q : SE} (M : MM) (a0 : Nat) (x1 : Int32) (k0 : ok g a0 11 0) {Z : (Int32 × MM)} (h : f_X11_seed M a0 x1 = some Z) : Met l yX11_seed wsX11_seed ({ frames := 3, cells := 0, slots := 0, locals := 62 }) (va_Pc [.ref (ad a0), .int x1] (Wd D ad cy A g q M)) (va_Qi (fun r u => r = Z.1 ∧ u = Z.2 ∧ zb r) (Wd D ad cy A g q) A) 0 0 A := by
  refine Met.ofW (cc := cX11_seed) (maxL := 2) (ret := (some .boolean)) (by decide) rfl ?_
  intro p e s m args below meth c s₁ B hml hv
  obtain ⟨rfl, hP, hK, hD, hT, hG⟩ := hv
  have hx := B.exec
  have hb := B.bytes
  have hr := B.returns
  have hts := atoms_spec (ws := wsX11_seed) B.pre
  have hown : s.vm.findClass RX11 = some m.cls := findClass_of_methodNamed B.named
  have hlocks := B.notSynchronized
  have in1 : ∀ w ∈ u_ws RX1 TX1 11, w ∈ wsX11_seed := fun w h => List.mem_cons_of_mem _ (List.mem_append_left _ (List.mem_append_right _ h))
  have in11 : ∀ w ∈ u_ws RX11 TX11 8, w ∈ wsX11_seed := fun w h => List.mem_cons_of_mem _ (List.mem_append_left _ (List.mem_append_left _ (List.mem_append_right _ h)))
  have hS : va_S A s.heap s.heap [] := va_S.rf
  have hl := lv_entry ([.ref (ad a0), .int x1]) (n := 2) (Nat.le_of_ble_eq_true rfl)
  rw [lg_entry_eq]
  generalize (lg_sl ([.ref (ad a0), .int x1]) ++ List.replicate (2 - (lg_sl ([.ref (ad a0), .int x1])).length) Slot.unset).toArray = ls at hl ⊢
  have hl : lv_has ls 2 [(0, .ref (ad a0)), (1, .int x1)] := hl
  unfold f_X11_seed at h
  refine lv_aload_n hx hb dX11_seed_0 rfl (lv_at hl 0 rfl) ?_
  rcases hN1 : gR M a0 5 with _ | b1
  · exact absurd (oc_n hN1 h) (by simp)
  replace h := oc_s hN1 h
  have kb1 := hT.f k0 (k := 5) (t := 0) (n := 0) rfl hN1
  refine r_get (T := TX11) (v := .ref (ad b1)) hx hb hts in11 hown hK hP k0 (by decide) rfl 5 (by decide) (hts (.fieldLink RX11 45 "StoneWalk" "island" "LStoneWalk$Island;") (List.mem_of_getElem? (i := 1) (by decide +kernel))) rfl (t := 2) rfl (by show va_rf _ = _; rw [hN1]; rfl) dX11_seed_1 ?_
  obtain ⟨z2, h2, h⟩ := ob_some h
  refine k_z (va_runV (As := []) (rest := []) ⟨hx, hb, hml, hown, hts⟩ (c_X0_isBare (l := l) M b1 kb1 h2) (cwV 0 hts gX11_seed_X0_isBare rfl rfl rfl hdV_X0_isBare ⟨Nat.le_of_ble_eq_true rfl, Nat.le_of_ble_eq_true rfl⟩) (pV (T := TX0) hP hK hD hT hG hS kb1 (by decide) rfl) rfl rfl hl.1 rfl (lv_room (Nat.le_of_ble_eq_true rfl)) dX11_seed_4 ⟨Nat.zero_le _, Nat.zero_le _⟩) hS (fun H locs hz2 hP hD hT hS => ?_)
  refine lv_if_eq (tgt := 16) hx hb dX11_seed_7 rfl (fun c3 => ?_) (fun c3 => ?_)
  · replace h := ite_t c3 h
    refine lv_iload_n hx hb dX11_seed_16 rfl (lv_at hl 1 rfl) ?_
    refine lv_if_lt (tgt := 26) hx hb dX11_seed_17 rfl (fun c4 => ?_) (fun c4 => ?_)
    · replace h := ite_t c4 h
      refine lv_aload_n hx hb dX11_seed_26 rfl (lv_at hl 0 rfl) ?_
      refine lv_iconst (v := 2) hx hb dX11_seed_27 rfl ?_
      obtain ⟨z5, h5, h⟩ := ob_some h
      refine k_z (va_runV (As := [.int 2]) (rest := []) ⟨hx, hb, hml, hown, hts⟩ (c_X11_denied (l := l) M a0 2 k0 h5) (cwV 1 hts gX11_seed_X11_denied rfl rfl rfl hdV_X11_denied ⟨Nat.le_of_ble_eq_true rfl, Nat.le_of_ble_eq_true rfl⟩) (pV (T := TX11) hP hK hD hT hG hS k0 (by decide) rfl) rfl rfl hl.1 rfl (lv_room (Nat.le_of_ble_eq_true rfl)) dX11_seed_28 ⟨Nat.zero_le _, Nat.zero_le _⟩) hS (fun H locs hz5 hP hD hT hS => ?_)
      have hZ := Option.some.inj h
      have hZ1 := congrArg Prod.fst hZ
      have hZ2 := congrArg Prod.snd hZ
      exact r_zret hx hb hr hlocks hP hK hD hT hG hS hz5 hZ1 hZ2 dX11_seed_31
    · replace h := ite_f c4 h
      refine lv_iload_n hx hb dX11_seed_20 rfl (lv_at hl 1 rfl) ?_
      refine lv_ldc hx hb hown (hts (.constant RX11 167 (65536)) (List.mem_of_getElem? (i := 2) (by decide +kernel))) dX11_seed_21 ?_
      refine lv_icmp_le (tgt := 32) hx hb dX11_seed_23 rfl (fun c6 => ?_) (fun c6 => ?_)
      · replace h := ite_t c6 h
        refine lv_aload_n hx hb dX11_seed_32 rfl (lv_at hl 0 rfl) ?_
        rcases hN7 : gR M a0 3 with _ | b7
        · exact absurd (oc_n hN7 h) (by simp)
        replace h := oc_s hN7 h
        have kb7 := hT.f k0 (k := 3) (t := 1) (n := 0) rfl hN7
        refine r_get (T := TX11) (v := .ref (ad b7)) hx hb hts in11 hown hK hP k0 (by decide) rfl 3 (by decide) (hts (.fieldLink RX11 35 "StoneWalk" "journey" "LStoneWalk$Journey;") (List.mem_of_getElem? (i := 3) (by decide +kernel))) rfl (t := 2) rfl (by show va_rf _ = _; rw [hN7]; rfl) dX11_seed_33 ?_
        refine lv_iload_n hx hb dX11_seed_36 rfl (lv_at hl 1 rfl) ?_
        refine r_putI (T := TX1) (ty := .int) (v := x1) hx hb hts in1 tyX1 tyX1_ok nmX1 hown hK hP hD hT hS kb7 (by decide) rfl 0 (by decide) (hts (.fieldLink RX11 168 "StoneWalk$Journey" "seed" "I") (List.mem_of_getElem? (i := 4) (by decide +kernel))) rfl rfl (tyX1_ok 0 (by decide)) rfl rfl rfl dX11_seed_37 (fun H locs hP hD hT hS => ?_)
        refine lv_aload_n hx hb dX11_seed_40 rfl (lv_at hl 0 rfl) ?_
        obtain ⟨z8, h8, h⟩ := ob_some h
        refine k_z (va_runV (As := []) (rest := []) ⟨hx, hb, hml, hown, hts⟩ (c_X11_allowed (l := l) (pI M b7 0 x1) a0 k0 h8) (cwV 0 hts gX11_seed_X11_allowed rfl rfl rfl hdV_X11_allowed ⟨Nat.le_of_ble_eq_true rfl, Nat.le_of_ble_eq_true rfl⟩) (pV (T := TX11) hP hK hD hT hG hS k0 (by decide) rfl) rfl rfl hl.1 rfl (lv_room (Nat.le_of_ble_eq_true rfl)) dX11_seed_41 ⟨Nat.zero_le _, Nat.zero_le _⟩) hS (fun H locs hz8 hP hD hT hS => ?_)
        have hZ := Option.some.inj h
        have hZ1 := congrArg Prod.fst hZ
        have hZ2 := congrArg Prod.snd hZ
        exact r_zret hx hb hr hlocks hP hK hD hT hG hS hz8 hZ1 hZ2 dX11_seed_44
      · replace h := ite_f c6 h
        refine lv_aload_n hx hb dX11_seed_26 rfl (lv_at hl 0 rfl) ?_
        refine lv_iconst (v := 2) hx hb dX11_seed_27 rfl ?_
        obtain ⟨z9, h9, h⟩ := ob_some h
        refine k_z (va_runV (As := [.int 2]) (rest := []) ⟨hx, hb, hml, hown, hts⟩ (c_X11_denied (l := l) M a0 2 k0 h9) (cwV 1 hts gX11_seed_X11_denied rfl rfl rfl hdV_X11_denied ⟨Nat.le_of_ble_eq_true rfl, Nat.le_of_ble_eq_true rfl⟩) (pV (T := TX11) hP hK hD hT hG hS k0 (by decide) rfl) rfl rfl hl.1 rfl (lv_room (Nat.le_of_ble_eq_true rfl)) dX11_seed_28 ⟨Nat.zero_le _, Nat.zero_le _⟩) hS (fun H locs hz9 hP hD hT hS => ?_)
        have hZ := Option.some.inj h
        have hZ1 := congrArg Prod.fst hZ
        have hZ2 := congrArg Prod.snd hZ
        exact r_zret hx hb hr hlocks hP hK hD hT hG hS hz9 hZ1 hZ2 dX11_seed_31
  · replace h := ite_f c3 h
    refine lv_aload_n hx hb dX11_seed_10 rfl (lv_at hl 0 rfl) ?_
    refine lv_iconst (v := 1) hx hb dX11_seed_11 rfl ?_
    obtain ⟨z10, h10, h⟩ := ob_some h
    refine k_z (va_runV (As := [.int 1]) (rest := []) ⟨hx, hb, hml, hown, hts⟩ (c_X11_denied (l := l) M a0 1 k0 h10) (cwV 1 hts gX11_seed_X11_denied rfl rfl rfl hdV_X11_denied ⟨Nat.le_of_ble_eq_true rfl, Nat.le_of_ble_eq_true rfl⟩) (pV (T := TX11) hP hK hD hT hG hS k0 (by decide) rfl) rfl rfl hl.1 rfl (lv_room (Nat.le_of_ble_eq_true rfl)) dX11_seed_12 ⟨Nat.zero_le _, Nat.zero_le _⟩) hS (fun H locs hz10 hP hD hT hS => ?_)
    have hZ := Option.some.inj h
    have hZ1 := congrArg Prod.fst hZ
    have hZ2 := congrArg Prod.snd hZ
    exact r_zret hx hb hr hlocks hP hK hD hT hG hS hz10 hZ1 hZ2 dX11_seed_15
set_option maxHeartbeats 4000000 in
set_option maxRecDepth 100000 in
theorem c_X11_move {l : Launch} {D : va_G} {ad : Nat → Nat} {cy : Nat → ClassId} {A : Nat → Prop} {g : CG} {q : SE} (M : MM) (a0 : Nat) (x1 : Int32) (x2 : Int32) (x3 : Int32) (x4 : Int32) (k0 : ok g a0 11 0) {Z : (Int32 × MM)} (h : f_X11_move M a0 x1 x2 x3 x4 = some Z) : Met l yX11_move wsX11_move ({ frames := 3, cells := 0, slots := 0, locals := 64 }) (va_Pc [.ref (ad a0), .int x1, .int x2, .int x3, .int x4] (Wd D ad cy A g q M)) (va_Qi (fun r u => r = Z.1 ∧ u = Z.2 ∧ zb r) (Wd D ad cy A g q) A) 0 0 A := by
  refine Met.ofW (cc := cX11_move) (maxL := 5) (ret := (some .boolean)) (by decide) rfl ?_
  intro p e s m args below meth c s₁ B hml hv
  obtain ⟨rfl, hP, hK, hD, hT, hG⟩ := hv
  have hx := B.exec
  have hb := B.bytes
  have hr := B.returns
  have hts := atoms_spec (ws := wsX11_move) B.pre
  have hown : s.vm.findClass RX11 = some m.cls := findClass_of_methodNamed B.named
  have hlocks := B.notSynchronized
  have in11 : ∀ w ∈ u_ws RX11 TX11 8, w ∈ wsX11_move := fun w h => List.mem_cons_of_mem _ (List.mem_append_left _ (List.mem_append_left _ (List.mem_append_right _ h)))
  have hS : va_S A s.heap s.heap [] := va_S.rf
  have hl := lv_entry ([.ref (ad a0), .int x1, .int x2, .int x3, .int x4]) (n := 5) (Nat.le_of_ble_eq_true rfl)
  rw [lg_entry_eq]
  generalize (lg_sl ([.ref (ad a0), .int x1, .int x2, .int x3, .int x4]) ++ List.replicate (5 - (lg_sl ([.ref (ad a0), .int x1, .int x2, .int x3, .int x4])).length) Slot.unset).toArray = ls at hl ⊢
  have hl : lv_has ls 5 [(0, .ref (ad a0)), (1, .int x1), (2, .int x2), (3, .int x3), (4, .int x4)] := hl
  unfold f_X11_move at h
  refine lv_aload_n hx hb dX11_move_0 rfl (lv_at hl 0 rfl) ?_
  rcases hN1 : gR M a0 5 with _ | b1
  · exact absurd (oc_n hN1 h) (by simp)
  replace h := oc_s hN1 h
  have kb1 := hT.f k0 (k := 5) (t := 0) (n := 0) rfl hN1
  refine r_get (T := TX11) (v := .ref (ad b1)) hx hb hts in11 hown hK hP k0 (by decide) rfl 5 (by decide) (hts (.fieldLink RX11 45 "StoneWalk" "island" "LStoneWalk$Island;") (List.mem_of_getElem? (i := 1) (by decide +kernel))) rfl (t := 2) rfl (by show va_rf _ = _; rw [hN1]; rfl) dX11_move_1 ?_
  refine lv_iconst (v := 2) hx hb dX11_move_4 rfl ?_
  refine lv_iload_n hx hb dX11_move_5 rfl (lv_at hl 1 rfl) ?_
  obtain ⟨z2, h2, h⟩ := ob_some h
  refine k_z (va_runV (As := [.int 2, .int x1]) (rest := []) ⟨hx, hb, hml, hown, hts⟩ (c_X0_has (l := l) M b1 2 x1 kb1 h2) (cwV 2 hts gX11_move_X0_has rfl rfl rfl hdV_X0_has ⟨Nat.le_of_ble_eq_true rfl, Nat.le_of_ble_eq_true rfl⟩) (pV (T := TX0) hP hK hD hT hG hS kb1 (by decide) rfl) rfl rfl hl.1 rfl (lv_room (Nat.le_of_ble_eq_true rfl)) dX11_move_6 ⟨Nat.zero_le _, Nat.zero_le _⟩) hS (fun H locs hz2 hP hD hT hS => ?_)
  refine lv_if_eq (tgt := 36) hx hb dX11_move_9 rfl (fun c3 => ?_) (fun c3 => ?_)
  · replace h := ite_t c3 h
    refine lv_aload_n hx hb dX11_move_36 rfl (lv_at hl 0 rfl) ?_
    refine lv_iconst (v := 1) hx hb dX11_move_37 rfl ?_
    obtain ⟨z4, h4, h⟩ := ob_some h
    refine k_z (va_runV (As := [.int 1]) (rest := []) ⟨hx, hb, hml, hown, hts⟩ (c_X11_denied (l := l) M a0 1 k0 h4) (cwV 1 hts gX11_move_X11_denied rfl rfl rfl hdV_X11_denied ⟨Nat.le_of_ble_eq_true rfl, Nat.le_of_ble_eq_true rfl⟩) (pV (T := TX11) hP hK hD hT hG hS k0 (by decide) rfl) rfl rfl hl.1 rfl (lv_room (Nat.le_of_ble_eq_true rfl)) dX11_move_38 ⟨Nat.zero_le _, Nat.zero_le _⟩) hS (fun H locs hz4 hP hD hT hS => ?_)
    have hZ := Option.some.inj h
    have hZ1 := congrArg Prod.fst hZ
    have hZ2 := congrArg Prod.snd hZ
    exact r_zret hx hb hr hlocks hP hK hD hT hG hS hz4 hZ1 hZ2 dX11_move_41
  · replace h := ite_f c3 h
    refine lv_aload_n hx hb dX11_move_12 rfl (lv_at hl 0 rfl) ?_
    rcases hN5 : gR M a0 5 with _ | b5
    · exact absurd (oc_n hN5 h) (by simp)
    replace h := oc_s hN5 h
    have kb5 := hT.f k0 (k := 5) (t := 0) (n := 0) rfl hN5
    refine r_get (T := TX11) (v := .ref (ad b5)) hx hb hts in11 hown hK hP k0 (by decide) rfl 5 (by decide) (hts (.fieldLink RX11 45 "StoneWalk" "island" "LStoneWalk$Island;") (List.mem_of_getElem? (i := 1) (by decide +kernel))) rfl (t := 2) rfl (by show va_rf _ = _; rw [hN5]; rfl) dX11_move_13 ?_
    refine lv_iconst (v := 0) hx hb dX11_move_16 rfl ?_
    refine lv_iload_n hx hb dX11_move_17 rfl (lv_at hl 2 rfl) ?_
    obtain ⟨z6, h6, h⟩ := ob_some h
    refine k_z (va_runV (As := [.int 0, .int x2]) (rest := []) ⟨hx, hb, hml, hown, hts⟩ (c_X0_has (l := l) M b5 0 x2 kb5 h6) (cwV 2 hts gX11_move_X0_has rfl rfl rfl hdV_X0_has ⟨Nat.le_of_ble_eq_true rfl, Nat.le_of_ble_eq_true rfl⟩) (pV (T := TX0) hP hK hD hT hG hS kb5 (by decide) rfl) rfl rfl hl.1 rfl (lv_room (Nat.le_of_ble_eq_true rfl)) dX11_move_18 ⟨Nat.zero_le _, Nat.zero_le _⟩) hS (fun H locs hz6 hP hD hT hS => ?_)
    refine lv_if_eq (tgt := 36) hx hb dX11_move_21 rfl (fun c7 => ?_) (fun c7 => ?_)
    · replace h := ite_t c7 h
      refine lv_aload_n hx hb dX11_move_36 rfl (lv_at hl 0 rfl) ?_
      refine lv_iconst (v := 1) hx hb dX11_move_37 rfl ?_
      obtain ⟨z8, h8, h⟩ := ob_some h
      refine k_z (va_runV (As := [.int 1]) (rest := []) ⟨hx, hb, hml, hown, hts⟩ (c_X11_denied (l := l) M a0 1 k0 h8) (cwV 1 hts gX11_move_X11_denied rfl rfl rfl hdV_X11_denied ⟨Nat.le_of_ble_eq_true rfl, Nat.le_of_ble_eq_true rfl⟩) (pV (T := TX11) hP hK hD hT hG hS k0 (by decide) rfl) rfl rfl hl.1 rfl (lv_room (Nat.le_of_ble_eq_true rfl)) dX11_move_38 ⟨Nat.zero_le _, Nat.zero_le _⟩) hS (fun H locs hz8 hP hD hT hS => ?_)
      have hZ := Option.some.inj h
      have hZ1 := congrArg Prod.fst hZ
      have hZ2 := congrArg Prod.snd hZ
      exact r_zret hx hb hr hlocks hP hK hD hT hG hS hz8 hZ1 hZ2 dX11_move_41
    · replace h := ite_f c7 h
      refine lv_aload_n hx hb dX11_move_24 rfl (lv_at hl 0 rfl) ?_
      rcases hN9 : gR M a0 5 with _ | b9
      · exact absurd (oc_n hN9 h) (by simp)
      replace h := oc_s hN9 h
      have kb9 := hT.f k0 (k := 5) (t := 0) (n := 0) rfl hN9
      refine r_get (T := TX11) (v := .ref (ad b9)) hx hb hts in11 hown hK hP k0 (by decide) rfl 5 (by decide) (hts (.fieldLink RX11 45 "StoneWalk" "island" "LStoneWalk$Island;") (List.mem_of_getElem? (i := 1) (by decide +kernel))) rfl (t := 2) rfl (by show va_rf _ = _; rw [hN9]; rfl) dX11_move_25 ?_
      refine lv_iconst (v := 1) hx hb dX11_move_28 rfl ?_
      refine lv_iload_n hx hb dX11_move_29 rfl (lv_at hl 3 rfl) ?_
      obtain ⟨z10, h10, h⟩ := ob_some h
      refine k_z (va_runV (As := [.int 1, .int x3]) (rest := []) ⟨hx, hb, hml, hown, hts⟩ (c_X0_has (l := l) M b9 1 x3 kb9 h10) (cwV 2 hts gX11_move_X0_has rfl rfl rfl hdV_X0_has ⟨Nat.le_of_ble_eq_true rfl, Nat.le_of_ble_eq_true rfl⟩) (pV (T := TX0) hP hK hD hT hG hS kb9 (by decide) rfl) rfl rfl hl.1 rfl (lv_room (Nat.le_of_ble_eq_true rfl)) dX11_move_30 ⟨Nat.zero_le _, Nat.zero_le _⟩) hS (fun H locs hz10 hP hD hT hS => ?_)
      refine lv_if_ne (tgt := 42) hx hb dX11_move_33 rfl (fun c11 => ?_) (fun c11 => ?_)
      · replace h := ite_f c11 h
        refine lv_iload hx hb dX11_move_42 (lv_at hl 4 rfl) ?_
        obtain ⟨z12, h12, h⟩ := ob_some h
        refine k_z (va_runS (As := [.int x4]) (rest := []) ⟨hx, hb, hml, hown, hts⟩ (c_X11_isCrowd (l := l) M x4 h12) (va_cwS 1 hts gX11_move_X11_isCrowd rfl rfl rfl hdS_X11_isCrowd ⟨Nat.le_of_ble_eq_true rfl, Nat.le_of_ble_eq_true rfl⟩) (pS hP hK hD hT hG hS) rfl rfl hl.1 rfl (lv_room (Nat.le_of_ble_eq_true rfl)) dX11_move_44 ⟨Nat.zero_le _, Nat.zero_le _⟩) hS (fun H locs hz12 hP hD hT hS => ?_)
        refine lv_if_ne (tgt := 56) hx hb dX11_move_47 rfl (fun c13 => ?_) (fun c13 => ?_)
        · replace h := ite_f c13 h
          refine lv_aload_n hx hb dX11_move_56 rfl (lv_at hl 0 rfl) ?_
          rcases hN14 : gR M a0 3 with _ | b14
          · exact absurd (oc_n hN14 h) (by simp)
          replace h := oc_s hN14 h
          have kb14 := hT.f k0 (k := 3) (t := 1) (n := 0) rfl hN14
          refine r_get (T := TX11) (v := .ref (ad b14)) hx hb hts in11 hown hK hP k0 (by decide) rfl 3 (by decide) (hts (.fieldLink RX11 35 "StoneWalk" "journey" "LStoneWalk$Journey;") (List.mem_of_getElem? (i := 2) (by decide +kernel))) rfl (t := 2) rfl (by show va_rf _ = _; rw [hN14]; rfl) dX11_move_57 ?_
          refine lv_iload_n hx hb dX11_move_60 rfl (lv_at hl 1 rfl) ?_
          refine lv_iload_n hx hb dX11_move_61 rfl (lv_at hl 2 rfl) ?_
          refine lv_iload_n hx hb dX11_move_62 rfl (lv_at hl 3 rfl) ?_
          refine lv_iload hx hb dX11_move_63 (lv_at hl 4 rfl) ?_
          obtain ⟨z15, h15, h⟩ := ob_some h
          refine k_v (va_runV (As := [.int x1, .int x2, .int x3, .int x4]) (rest := []) ⟨hx, hb, hml, hown, hts⟩ (c_X1_begin (l := l) M b14 x1 x2 x3 x4 kb14 h15) (cwV 4 hts gX11_move_X1_begin rfl rfl rfl hdV_X1_begin ⟨Nat.le_of_ble_eq_true rfl, Nat.le_of_ble_eq_true rfl⟩) (pV (T := TX1) hP hK hD hT hG hS kb14 (by decide) rfl) rfl rfl hl.1 rfl (lv_room (Nat.le_of_ble_eq_true rfl)) dX11_move_65 ⟨Nat.zero_le _, Nat.zero_le _⟩) hS (fun H locs hP hD hT hS => ?_)
          refine lv_aload_n hx hb dX11_move_68 rfl (lv_at hl 0 rfl) ?_
          obtain ⟨z16, h16, h⟩ := ob_some h
          refine k_z (va_runV (As := []) (rest := []) ⟨hx, hb, hml, hown, hts⟩ (c_X11_allowed (l := l) z15 a0 k0 h16) (cwV 0 hts gX11_move_X11_allowed rfl rfl rfl hdV_X11_allowed ⟨Nat.le_of_ble_eq_true rfl, Nat.le_of_ble_eq_true rfl⟩) (pV (T := TX11) hP hK hD hT hG hS k0 (by decide) rfl) rfl rfl hl.1 rfl (lv_room (Nat.le_of_ble_eq_true rfl)) dX11_move_69 ⟨Nat.zero_le _, Nat.zero_le _⟩) hS (fun H locs hz16 hP hD hT hS => ?_)
          have hZ := Option.some.inj h
          have hZ1 := congrArg Prod.fst hZ
          have hZ2 := congrArg Prod.snd hZ
          exact r_zret hx hb hr hlocks hP hK hD hT hG hS hz16 hZ1 hZ2 dX11_move_72
        · replace h := ite_t c13 h
          refine lv_aload_n hx hb dX11_move_50 rfl (lv_at hl 0 rfl) ?_
          refine lv_iconst (v := 2) hx hb dX11_move_51 rfl ?_
          obtain ⟨z17, h17, h⟩ := ob_some h
          refine k_z (va_runV (As := [.int 2]) (rest := []) ⟨hx, hb, hml, hown, hts⟩ (c_X11_denied (l := l) M a0 2 k0 h17) (cwV 1 hts gX11_move_X11_denied rfl rfl rfl hdV_X11_denied ⟨Nat.le_of_ble_eq_true rfl, Nat.le_of_ble_eq_true rfl⟩) (pV (T := TX11) hP hK hD hT hG hS k0 (by decide) rfl) rfl rfl hl.1 rfl (lv_room (Nat.le_of_ble_eq_true rfl)) dX11_move_52 ⟨Nat.zero_le _, Nat.zero_le _⟩) hS (fun H locs hz17 hP hD hT hS => ?_)
          have hZ := Option.some.inj h
          have hZ1 := congrArg Prod.fst hZ
          have hZ2 := congrArg Prod.snd hZ
          exact r_zret hx hb hr hlocks hP hK hD hT hG hS hz17 hZ1 hZ2 dX11_move_55
      · replace h := ite_t c11 h
        refine lv_aload_n hx hb dX11_move_36 rfl (lv_at hl 0 rfl) ?_
        refine lv_iconst (v := 1) hx hb dX11_move_37 rfl ?_
        obtain ⟨z18, h18, h⟩ := ob_some h
        refine k_z (va_runV (As := [.int 1]) (rest := []) ⟨hx, hb, hml, hown, hts⟩ (c_X11_denied (l := l) M a0 1 k0 h18) (cwV 1 hts gX11_move_X11_denied rfl rfl rfl hdV_X11_denied ⟨Nat.le_of_ble_eq_true rfl, Nat.le_of_ble_eq_true rfl⟩) (pV (T := TX11) hP hK hD hT hG hS k0 (by decide) rfl) rfl rfl hl.1 rfl (lv_room (Nat.le_of_ble_eq_true rfl)) dX11_move_38 ⟨Nat.zero_le _, Nat.zero_le _⟩) hS (fun H locs hz18 hP hD hT hS => ?_)
        have hZ := Option.some.inj h
        have hZ1 := congrArg Prod.fst hZ
        have hZ2 := congrArg Prod.snd hZ
        exact r_zret hx hb hr hlocks hP hK hD hT hG hS hz18 hZ1 hZ2 dX11_move_41
set_option maxHeartbeats 4000000 in
set_option maxRecDepth 100000 in
theorem c_X11_step {l : Launch} {D : va_G} {ad : Nat → Nat} {cy : Nat → ClassId} {A : Nat → Prop} {g : CG} {q : SE} (M : MM) (a0 : Nat) (k0 : ok g a0 11 0) {Z : (Int32 × MM)} (h : f_X11_step M a0 = some Z) : Met l yX11_step wsX11_step ({ frames := 4, cells := 0, slots := 0, locals := 95 }) (va_Pc [.ref (ad a0)] (Wd D ad cy A g q M)) (va_Qi (fun r u => r = Z.1 ∧ u = Z.2) (Wd D ad cy A g q) A) 0 0 A := by
  refine Met.ofW (cc := cX11_step) (maxL := 1) (ret := (some .int)) (by decide) rfl ?_
  intro p e s m args below meth c s₁ B hml hv
  obtain ⟨rfl, hP, hK, hD, hT, hG⟩ := hv
  have hx := B.exec
  have hb := B.bytes
  have hr := B.returns
  have hts := atoms_spec (ws := wsX11_step) B.pre
  have hown : s.vm.findClass RX11 = some m.cls := findClass_of_methodNamed B.named
  have hlocks := B.notSynchronized
  have in1 : ∀ w ∈ u_ws RX1 TX1 11, w ∈ wsX11_step := fun w h => List.mem_cons_of_mem _ (List.mem_append_left _ (List.mem_append_left _ (List.mem_append_left _ (List.mem_append_left _ (List.mem_append_right _ h)))))
  have in11 : ∀ w ∈ u_ws RX11 TX11 8, w ∈ wsX11_step := fun w h => List.mem_cons_of_mem _ (List.mem_append_left _ (List.mem_append_left _ (List.mem_append_left _ (List.mem_append_left _ (List.mem_append_left _ (List.mem_append_right _ h))))))
  have hS : va_S A s.heap s.heap [] := va_S.rf
  have hl := lv_entry ([.ref (ad a0)]) (n := 1) (Nat.le_of_ble_eq_true rfl)
  rw [lg_entry_eq]
  generalize (lg_sl ([.ref (ad a0)]) ++ List.replicate (1 - (lg_sl ([.ref (ad a0)])).length) Slot.unset).toArray = ls at hl ⊢
  have hl : lv_has ls 1 [(0, .ref (ad a0))] := hl
  unfold f_X11_step at h
  refine lv_aload_n hx hb dX11_step_0 rfl (lv_at hl 0 rfl) ?_
  rcases hN1 : gR M a0 3 with _ | b1
  · exact absurd (oc_n hN1 h) (by simp)
  replace h := oc_s hN1 h
  have kb1 := hT.f k0 (k := 3) (t := 1) (n := 0) rfl hN1
  refine r_get (T := TX11) (v := .ref (ad b1)) hx hb hts in11 hown hK hP k0 (by decide) rfl 3 (by decide) (hts (.fieldLink RX11 35 "StoneWalk" "journey" "LStoneWalk$Journey;") (List.mem_of_getElem? (i := 1) (by decide +kernel))) rfl (t := 2) rfl (by show va_rf _ = _; rw [hN1]; rfl) dX11_step_1 ?_
  refine r_get (T := TX1) (v := .int (gI M b1 1)) hx hb hts in1 hown hK hP kb1 (by decide) rfl 1 (by decide) (hts (.fieldLink RX11 182 "StoneWalk$Journey" "begun" "Z") (List.mem_of_getElem? (i := 2) (by decide +kernel))) rfl (t := 0) rfl rfl dX11_step_4 ?_
  refine lv_if_ne (tgt := 17) hx hb dX11_step_7 rfl (fun c2 => ?_) (fun c2 => ?_)
  · replace h := ite_f c2 h
    refine lv_aload_n hx hb dX11_step_17 rfl (lv_at hl 0 rfl) ?_
    rcases hN3 : gR M a0 3 with _ | b3
    · exact absurd (oc_n hN3 h) (by simp)
    replace h := oc_s hN3 h
    have kb3 := hT.f k0 (k := 3) (t := 1) (n := 0) rfl hN3
    refine r_get (T := TX11) (v := .ref (ad b3)) hx hb hts in11 hown hK hP k0 (by decide) rfl 3 (by decide) (hts (.fieldLink RX11 35 "StoneWalk" "journey" "LStoneWalk$Journey;") (List.mem_of_getElem? (i := 1) (by decide +kernel))) rfl (t := 2) rfl (by show va_rf _ = _; rw [hN3]; rfl) dX11_step_18 ?_
    refine r_get (T := TX1) (v := .int (gI M b3 2)) hx hb hts in1 hown hK hP kb3 (by decide) rfl 2 (by decide) (hts (.fieldLink RX11 186 "StoneWalk$Journey" "told" "I") (List.mem_of_getElem? (i := 3) (by decide +kernel))) rfl (t := 0) rfl rfl dX11_step_21 ?_
    refine lv_iconst (v := 1) hx hb dX11_step_24 rfl ?_
    refine lv_icmp_eq (tgt := 34) hx hb dX11_step_25 rfl (fun c4 => ?_) (fun c4 => ?_)
    · replace h := ite_t c4 h
      refine lv_aload_n hx hb dX11_step_34 rfl (lv_at hl 0 rfl) ?_
      refine lv_aload_n hx hb dX11_step_35 rfl (lv_at hl 0 rfl) ?_
      rcases hN5 : gR M a0 3 with _ | b5
      · exact absurd (oc_n hN5 h) (by simp)
      replace h := oc_s hN5 h
      have kb5 := hT.f k0 (k := 3) (t := 1) (n := 0) rfl hN5
      refine r_get (T := TX11) (v := .ref (ad b5)) hx hb hts in11 hown hK hP k0 (by decide) rfl 3 (by decide) (hts (.fieldLink RX11 35 "StoneWalk" "journey" "LStoneWalk$Journey;") (List.mem_of_getElem? (i := 1) (by decide +kernel))) rfl (t := 2) rfl (by show va_rf _ = _; rw [hN5]; rfl) dX11_step_36 ?_
      refine lv_aload_n hx hb dX11_step_39 rfl (lv_at hl 0 rfl) ?_
      rcases hN6 : gR M a0 5 with _ | b6
      · exact absurd (oc_n hN6 h) (by simp)
      replace h := oc_s hN6 h
      have kb6 := hT.f k0 (k := 5) (t := 0) (n := 0) rfl hN6
      refine r_get (T := TX11) (v := .ref (ad b6)) hx hb hts in11 hown hK hP k0 (by decide) rfl 5 (by decide) (hts (.fieldLink RX11 45 "StoneWalk" "island" "LStoneWalk$Island;") (List.mem_of_getElem? (i := 4) (by decide +kernel))) rfl (t := 2) rfl (by show va_rf _ = _; rw [hN6]; rfl) dX11_step_40 ?_
      obtain ⟨z7, h7, h⟩ := ob_some h
      refine k_i (va_runV (As := [.ref (ad b6)]) (rest := [.ref (ad a0)]) ⟨hx, hb, hml, hown, hts⟩ (c_X1_advance (l := l) M b5 b6 kb5 kb6 h7) (cwV 1 hts gX11_step_X1_advance rfl rfl rfl hdV_X1_advance ⟨Nat.le_of_ble_eq_true rfl, Nat.le_of_ble_eq_true rfl⟩) (pV (T := TX1) hP hK hD hT hG hS kb5 (by decide) rfl) rfl rfl hl.1 rfl (lv_room (Nat.le_of_ble_eq_true rfl)) dX11_step_43 ⟨Nat.zero_le _, Nat.zero_le _⟩) hS (fun H locs hP hD hT hS => ?_)
      obtain ⟨z8, h8, h⟩ := ob_some h
      refine k_i (va_runV (As := [.int z7.1]) (rest := []) ⟨hx, hb, hml, hown, hts⟩ (c_X11_granted (l := l) z7.2 a0 z7.1 k0 h8) (cwV 1 hts gX11_step_X11_granted rfl rfl rfl hdV_X11_granted ⟨Nat.le_of_ble_eq_true rfl, Nat.le_of_ble_eq_true rfl⟩) (pV (T := TX11) hP hK hD hT hG hS k0 (by decide) rfl) rfl rfl hl.1 rfl (lv_room (Nat.le_of_ble_eq_true rfl)) dX11_step_46 ⟨Nat.zero_le _, Nat.zero_le _⟩) hS (fun H locs hP hD hT hS => ?_)
      have hZ := Option.some.inj h
      have hZ1 := congrArg Prod.fst hZ
      have hZ2 := congrArg Prod.snd hZ
      exact r_iret hx hb hr hlocks hP hK hD hT hG hS hZ1 hZ2 dX11_step_49
    · replace h := ite_f c4 h
      refine lv_aload_n hx hb dX11_step_28 rfl (lv_at hl 0 rfl) ?_
      refine lv_iconst (v := 5) hx hb dX11_step_29 rfl ?_
      obtain ⟨z9, h9, h⟩ := ob_some h
      refine k_i (va_runV (As := [.int 5]) (rest := []) ⟨hx, hb, hml, hown, hts⟩ (c_X11_refused (l := l) M a0 5 k0 h9) (cwV 1 hts gX11_step_X11_refused rfl rfl rfl hdV_X11_refused ⟨Nat.le_of_ble_eq_true rfl, Nat.le_of_ble_eq_true rfl⟩) (pV (T := TX11) hP hK hD hT hG hS k0 (by decide) rfl) rfl rfl hl.1 rfl (lv_room (Nat.le_of_ble_eq_true rfl)) dX11_step_30 ⟨Nat.zero_le _, Nat.zero_le _⟩) hS (fun H locs hP hD hT hS => ?_)
      have hZ := Option.some.inj h
      have hZ1 := congrArg Prod.fst hZ
      have hZ2 := congrArg Prod.snd hZ
      exact r_iret hx hb hr hlocks hP hK hD hT hG hS hZ1 hZ2 dX11_step_33
  · replace h := ite_t c2 h
    refine lv_aload_n hx hb dX11_step_10 rfl (lv_at hl 0 rfl) ?_
    refine lv_bipush (v := 6) hx hb dX11_step_11 rfl ?_
    obtain ⟨z10, h10, h⟩ := ob_some h
    refine k_i (va_runV (As := [.int 6]) (rest := []) ⟨hx, hb, hml, hown, hts⟩ (c_X11_refused (l := l) M a0 6 k0 h10) (cwV 1 hts gX11_step_X11_refused rfl rfl rfl hdV_X11_refused ⟨Nat.le_of_ble_eq_true rfl, Nat.le_of_ble_eq_true rfl⟩) (pV (T := TX11) hP hK hD hT hG hS k0 (by decide) rfl) rfl rfl hl.1 rfl (lv_room (Nat.le_of_ble_eq_true rfl)) dX11_step_13 ⟨Nat.zero_le _, Nat.zero_le _⟩) hS (fun H locs hP hD hT hS => ?_)
    have hZ := Option.some.inj h
    have hZ1 := congrArg Prod.fst hZ
    have hZ2 := congrArg Prod.snd hZ
    exact r_iret hx hb hr hlocks hP hK hD hT hG hS hZ1 hZ2 dX11_step_16
set_option maxHeartbeats 4000000 in
set_option maxRecDepth 100000 in
theorem c_X11_call {l : Launch} {D : va_G} {ad : Nat → Nat} {cy : Nat → ClassId} {A : Nat → Prop} {g : CG} {q : SE} (M : MM) (a0 : Nat) (x1 : Int32) (k0 : ok g a0 11 0) {Z : (Int32 × MM)} (h : f_X11_call M a0 x1 = some Z) : Met l yX11_call wsX11_call ({ frames := 1, cells := 0, slots := 0, locals := 21 }) (va_Pc [.ref (ad a0), .int x1] (Wd D ad cy A g q M)) (va_Qi (fun r u => r = Z.1 ∧ u = Z.2 ∧ zb r) (Wd D ad cy A g q) A) 0 0 A := by
  refine Met.ofW (cc := cX11_call) (maxL := 2) (ret := (some .boolean)) (by decide) rfl ?_
  intro p e s m args below meth c s₁ B hml hv
  obtain ⟨rfl, hP, hK, hD, hT, hG⟩ := hv
  have hx := B.exec
  have hb := B.bytes
  have hr := B.returns
  have hts := atoms_spec (ws := wsX11_call) B.pre
  have hown : s.vm.findClass RX11 = some m.cls := findClass_of_methodNamed B.named
  have hlocks := B.notSynchronized
  have in1 : ∀ w ∈ u_ws RX1 TX1 11, w ∈ wsX11_call := fun w h => List.mem_cons_of_mem _ (List.mem_append_right _ h)
  have in11 : ∀ w ∈ u_ws RX11 TX11 8, w ∈ wsX11_call := fun w h => List.mem_cons_of_mem _ (List.mem_append_left _ (List.mem_append_right _ h))
  have hS : va_S A s.heap s.heap [] := va_S.rf
  have hl := lv_entry ([.ref (ad a0), .int x1]) (n := 2) (Nat.le_of_ble_eq_true rfl)
  rw [lg_entry_eq]
  generalize (lg_sl ([.ref (ad a0), .int x1]) ++ List.replicate (2 - (lg_sl ([.ref (ad a0), .int x1])).length) Slot.unset).toArray = ls at hl ⊢
  have hl : lv_has ls 2 [(0, .ref (ad a0)), (1, .int x1)] := hl
  unfold f_X11_call at h
  refine lv_aload_n hx hb dX11_call_0 rfl (lv_at hl 0 rfl) ?_
  rcases hN1 : gR M a0 3 with _ | b1
  · exact absurd (oc_n hN1 h) (by simp)
  replace h := oc_s hN1 h
  have kb1 := hT.f k0 (k := 3) (t := 1) (n := 0) rfl hN1
  refine r_get (T := TX11) (v := .ref (ad b1)) hx hb hts in11 hown hK hP k0 (by decide) rfl 3 (by decide) (hts (.fieldLink RX11 35 "StoneWalk" "journey" "LStoneWalk$Journey;") (List.mem_of_getElem? (i := 1) (by decide +kernel))) rfl (t := 2) rfl (by show va_rf _ = _; rw [hN1]; rfl) dX11_call_1 ?_
  refine r_get (T := TX1) (v := .int (gI M b1 1)) hx hb hts in1 hown hK hP kb1 (by decide) rfl 1 (by decide) (hts (.fieldLink RX11 182 "StoneWalk$Journey" "begun" "Z") (List.mem_of_getElem? (i := 2) (by decide +kernel))) rfl (t := 0) rfl rfl dX11_call_4 ?_
  refine lv_if_ne (tgt := 17) hx hb dX11_call_7 rfl (fun c2 => ?_) (fun c2 => ?_)
  · replace h := ite_f c2 h
    refine lv_iload_n hx hb dX11_call_17 rfl (lv_at hl 1 rfl) ?_
    obtain ⟨z3, h3, h⟩ := ob_some h
    refine k_z (va_runS (As := [.int x1]) (rest := []) ⟨hx, hb, hml, hown, hts⟩ (c_X11_isCrowd (l := l) M x1 h3) (va_cwS 1 hts gX11_call_X11_isCrowd rfl rfl rfl hdS_X11_isCrowd ⟨Nat.le_of_ble_eq_true rfl, Nat.le_of_ble_eq_true rfl⟩) (pS hP hK hD hT hG hS) rfl rfl hl.1 rfl (lv_room (Nat.le_of_ble_eq_true rfl)) dX11_call_18 ⟨Nat.zero_le _, Nat.zero_le _⟩) hS (fun H locs hz3 hP hD hT hS => ?_)
    refine lv_if_ne (tgt := 30) hx hb dX11_call_21 rfl (fun c4 => ?_) (fun c4 => ?_)
    · replace h := ite_f c4 h
      refine lv_aload_n hx hb dX11_call_30 rfl (lv_at hl 0 rfl) ?_
      rcases hN5 : gR M a0 3 with _ | b5
      · exact absurd (oc_n hN5 h) (by simp)
      replace h := oc_s hN5 h
      have kb5 := hT.f k0 (k := 3) (t := 1) (n := 0) rfl hN5
      refine r_get (T := TX11) (v := .ref (ad b5)) hx hb hts in11 hown hK hP k0 (by decide) rfl 3 (by decide) (hts (.fieldLink RX11 35 "StoneWalk" "journey" "LStoneWalk$Journey;") (List.mem_of_getElem? (i := 1) (by decide +kernel))) rfl (t := 2) rfl (by show va_rf _ = _; rw [hN5]; rfl) dX11_call_31 ?_
      refine r_get (T := TX1) (v := .int (gI M b5 2)) hx hb hts in1 hown hK hP kb5 (by decide) rfl 2 (by decide) (hts (.fieldLink RX11 186 "StoneWalk$Journey" "told" "I") (List.mem_of_getElem? (i := 3) (by decide +kernel))) rfl (t := 0) rfl rfl dX11_call_34 ?_
      refine lv_iconst (v := 1) hx hb dX11_call_37 rfl ?_
      refine lv_icmp_eq (tgt := 58) hx hb dX11_call_38 rfl (fun c6 => ?_) (fun c6 => ?_)
      · replace h := ite_t c6 h
        refine lv_aload_n hx hb dX11_call_58 rfl (lv_at hl 0 rfl) ?_
        rcases hN7 : gR M a0 3 with _ | b7
        · exact absurd (oc_n hN7 h) (by simp)
        replace h := oc_s hN7 h
        have kb7 := hT.f k0 (k := 3) (t := 1) (n := 0) rfl hN7
        refine r_get (T := TX11) (v := .ref (ad b7)) hx hb hts in11 hown hK hP k0 (by decide) rfl 3 (by decide) (hts (.fieldLink RX11 35 "StoneWalk" "journey" "LStoneWalk$Journey;") (List.mem_of_getElem? (i := 1) (by decide +kernel))) rfl (t := 2) rfl (by show va_rf _ = _; rw [hN7]; rfl) dX11_call_59 ?_
        refine lv_iload_n hx hb dX11_call_62 rfl (lv_at hl 1 rfl) ?_
        refine r_putI (T := TX1) (ty := .int) (v := x1) hx hb hts in1 tyX1 tyX1_ok nmX1 hown hK hP hD hT hS kb7 (by decide) rfl 3 (by decide) (hts (.fieldLink RX11 193 "StoneWalk$Journey" "people" "I") (List.mem_of_getElem? (i := 4) (by decide +kernel))) rfl rfl (tyX1_ok 3 (by decide)) rfl rfl rfl dX11_call_63 (fun H locs hP hD hT hS => ?_)
        refine lv_aload_n hx hb dX11_call_66 rfl (lv_at hl 0 rfl) ?_
        rcases hN8 : gR (pI M b7 3 x1) a0 3 with _ | b8
        · exact absurd (oc_n hN8 h) (by simp)
        replace h := oc_s hN8 h
        have kb8 := hT.f k0 (k := 3) (t := 1) (n := 0) rfl hN8
        refine r_get (T := TX11) (v := .ref (ad b8)) hx hb hts in11 hown hK hP k0 (by decide) rfl 3 (by decide) (hts (.fieldLink RX11 35 "StoneWalk" "journey" "LStoneWalk$Journey;") (List.mem_of_getElem? (i := 1) (by decide +kernel))) rfl (t := 2) rfl (by show va_rf _ = _; rw [hN8]; rfl) dX11_call_67 ?_
        refine lv_iconst (v := 1) hx hb dX11_call_70 rfl ?_
        refine r_putI (T := TX1) (ty := .int) (v := 1) hx hb hts in1 tyX1 tyX1_ok nmX1 hown hK hP hD hT hS kb8 (by decide) rfl 2 (by decide) (hts (.fieldLink RX11 186 "StoneWalk$Journey" "told" "I") (List.mem_of_getElem? (i := 3) (by decide +kernel))) rfl rfl (tyX1_ok 2 (by decide)) rfl rfl rfl dX11_call_71 (fun H locs hP hD hT hS => ?_)
        refine lv_aload_n hx hb dX11_call_74 rfl (lv_at hl 0 rfl) ?_
        obtain ⟨z9, h9, h⟩ := ob_some h
        refine k_z (va_runV (As := []) (rest := []) ⟨hx, hb, hml, hown, hts⟩ (c_X11_allowed (l := l) (pI (pI M b7 3 x1) b8 2 1) a0 k0 h9) (cwV 0 hts gX11_call_X11_allowed rfl rfl rfl hdV_X11_allowed ⟨Nat.le_of_ble_eq_true rfl, Nat.le_of_ble_eq_true rfl⟩) (pV (T := TX11) hP hK hD hT hG hS k0 (by decide) rfl) rfl rfl hl.1 rfl (lv_room (Nat.le_of_ble_eq_true rfl)) dX11_call_75 ⟨Nat.zero_le _, Nat.zero_le _⟩) hS (fun H locs hz9 hP hD hT hS => ?_)
        have hZ := Option.some.inj h
        have hZ1 := congrArg Prod.fst hZ
        have hZ2 := congrArg Prod.snd hZ
        exact r_zret hx hb hr hlocks hP hK hD hT hG hS hz9 hZ1 hZ2 dX11_call_78
      · replace h := ite_f c6 h
        refine lv_aload_n hx hb dX11_call_41 rfl (lv_at hl 0 rfl) ?_
        rcases hN10 : gR M a0 3 with _ | b10
        · exact absurd (oc_n hN10 h) (by simp)
        replace h := oc_s hN10 h
        have kb10 := hT.f k0 (k := 3) (t := 1) (n := 0) rfl hN10
        refine r_get (T := TX11) (v := .ref (ad b10)) hx hb hts in11 hown hK hP k0 (by decide) rfl 3 (by decide) (hts (.fieldLink RX11 35 "StoneWalk" "journey" "LStoneWalk$Journey;") (List.mem_of_getElem? (i := 1) (by decide +kernel))) rfl (t := 2) rfl (by show va_rf _ = _; rw [hN10]; rfl) dX11_call_42 ?_
        refine r_get (T := TX1) (v := .int (gI M b10 2)) hx hb hts in1 hown hK hP kb10 (by decide) rfl 2 (by decide) (hts (.fieldLink RX11 186 "StoneWalk$Journey" "told" "I") (List.mem_of_getElem? (i := 3) (by decide +kernel))) rfl (t := 0) rfl rfl dX11_call_45 ?_
        refine lv_iconst (v := 5) hx hb dX11_call_48 rfl ?_
        refine lv_icmp_eq (tgt := 58) hx hb dX11_call_49 rfl (fun c11 => ?_) (fun c11 => ?_)
        · replace h := ite_t c11 h
          refine lv_aload_n hx hb dX11_call_58 rfl (lv_at hl 0 rfl) ?_
          rcases hN12 : gR M a0 3 with _ | b12
          · exact absurd (oc_n hN12 h) (by simp)
          replace h := oc_s hN12 h
          have kb12 := hT.f k0 (k := 3) (t := 1) (n := 0) rfl hN12
          refine r_get (T := TX11) (v := .ref (ad b12)) hx hb hts in11 hown hK hP k0 (by decide) rfl 3 (by decide) (hts (.fieldLink RX11 35 "StoneWalk" "journey" "LStoneWalk$Journey;") (List.mem_of_getElem? (i := 1) (by decide +kernel))) rfl (t := 2) rfl (by show va_rf _ = _; rw [hN12]; rfl) dX11_call_59 ?_
          refine lv_iload_n hx hb dX11_call_62 rfl (lv_at hl 1 rfl) ?_
          refine r_putI (T := TX1) (ty := .int) (v := x1) hx hb hts in1 tyX1 tyX1_ok nmX1 hown hK hP hD hT hS kb12 (by decide) rfl 3 (by decide) (hts (.fieldLink RX11 193 "StoneWalk$Journey" "people" "I") (List.mem_of_getElem? (i := 4) (by decide +kernel))) rfl rfl (tyX1_ok 3 (by decide)) rfl rfl rfl dX11_call_63 (fun H locs hP hD hT hS => ?_)
          refine lv_aload_n hx hb dX11_call_66 rfl (lv_at hl 0 rfl) ?_
          rcases hN13 : gR (pI M b12 3 x1) a0 3 with _ | b13
          · exact absurd (oc_n hN13 h) (by simp)
          replace h := oc_s hN13 h
          have kb13 := hT.f k0 (k := 3) (t := 1) (n := 0) rfl hN13
          refine r_get (T := TX11) (v := .ref (ad b13)) hx hb hts in11 hown hK hP k0 (by decide) rfl 3 (by decide) (hts (.fieldLink RX11 35 "StoneWalk" "journey" "LStoneWalk$Journey;") (List.mem_of_getElem? (i := 1) (by decide +kernel))) rfl (t := 2) rfl (by show va_rf _ = _; rw [hN13]; rfl) dX11_call_67 ?_
          refine lv_iconst (v := 1) hx hb dX11_call_70 rfl ?_
          refine r_putI (T := TX1) (ty := .int) (v := 1) hx hb hts in1 tyX1 tyX1_ok nmX1 hown hK hP hD hT hS kb13 (by decide) rfl 2 (by decide) (hts (.fieldLink RX11 186 "StoneWalk$Journey" "told" "I") (List.mem_of_getElem? (i := 3) (by decide +kernel))) rfl rfl (tyX1_ok 2 (by decide)) rfl rfl rfl dX11_call_71 (fun H locs hP hD hT hS => ?_)
          refine lv_aload_n hx hb dX11_call_74 rfl (lv_at hl 0 rfl) ?_
          obtain ⟨z14, h14, h⟩ := ob_some h
          refine k_z (va_runV (As := []) (rest := []) ⟨hx, hb, hml, hown, hts⟩ (c_X11_allowed (l := l) (pI (pI M b12 3 x1) b13 2 1) a0 k0 h14) (cwV 0 hts gX11_call_X11_allowed rfl rfl rfl hdV_X11_allowed ⟨Nat.le_of_ble_eq_true rfl, Nat.le_of_ble_eq_true rfl⟩) (pV (T := TX11) hP hK hD hT hG hS k0 (by decide) rfl) rfl rfl hl.1 rfl (lv_room (Nat.le_of_ble_eq_true rfl)) dX11_call_75 ⟨Nat.zero_le _, Nat.zero_le _⟩) hS (fun H locs hz14 hP hD hT hS => ?_)
          have hZ := Option.some.inj h
          have hZ1 := congrArg Prod.fst hZ
          have hZ2 := congrArg Prod.snd hZ
          exact r_zret hx hb hr hlocks hP hK hD hT hG hS hz14 hZ1 hZ2 dX11_call_78
        · replace h := ite_f c11 h
          refine lv_aload_n hx hb dX11_call_52 rfl (lv_at hl 0 rfl) ?_
          refine lv_iconst (v := 5) hx hb dX11_call_53 rfl ?_
          obtain ⟨z15, h15, h⟩ := ob_some h
          refine k_z (va_runV (As := [.int 5]) (rest := []) ⟨hx, hb, hml, hown, hts⟩ (c_X11_denied (l := l) M a0 5 k0 h15) (cwV 1 hts gX11_call_X11_denied rfl rfl rfl hdV_X11_denied ⟨Nat.le_of_ble_eq_true rfl, Nat.le_of_ble_eq_true rfl⟩) (pV (T := TX11) hP hK hD hT hG hS k0 (by decide) rfl) rfl rfl hl.1 rfl (lv_room (Nat.le_of_ble_eq_true rfl)) dX11_call_54 ⟨Nat.zero_le _, Nat.zero_le _⟩) hS (fun H locs hz15 hP hD hT hS => ?_)
          have hZ := Option.some.inj h
          have hZ1 := congrArg Prod.fst hZ
          have hZ2 := congrArg Prod.snd hZ
          exact r_zret hx hb hr hlocks hP hK hD hT hG hS hz15 hZ1 hZ2 dX11_call_57
    · replace h := ite_t c4 h
      refine lv_aload_n hx hb dX11_call_24 rfl (lv_at hl 0 rfl) ?_
      refine lv_iconst (v := 2) hx hb dX11_call_25 rfl ?_
      obtain ⟨z16, h16, h⟩ := ob_some h
      refine k_z (va_runV (As := [.int 2]) (rest := []) ⟨hx, hb, hml, hown, hts⟩ (c_X11_denied (l := l) M a0 2 k0 h16) (cwV 1 hts gX11_call_X11_denied rfl rfl rfl hdV_X11_denied ⟨Nat.le_of_ble_eq_true rfl, Nat.le_of_ble_eq_true rfl⟩) (pV (T := TX11) hP hK hD hT hG hS k0 (by decide) rfl) rfl rfl hl.1 rfl (lv_room (Nat.le_of_ble_eq_true rfl)) dX11_call_26 ⟨Nat.zero_le _, Nat.zero_le _⟩) hS (fun H locs hz16 hP hD hT hS => ?_)
      have hZ := Option.some.inj h
      have hZ1 := congrArg Prod.fst hZ
      have hZ2 := congrArg Prod.snd hZ
      exact r_zret hx hb hr hlocks hP hK hD hT hG hS hz16 hZ1 hZ2 dX11_call_29
  · replace h := ite_t c2 h
    refine lv_aload_n hx hb dX11_call_10 rfl (lv_at hl 0 rfl) ?_
    refine lv_bipush (v := 6) hx hb dX11_call_11 rfl ?_
    obtain ⟨z17, h17, h⟩ := ob_some h
    refine k_z (va_runV (As := [.int 6]) (rest := []) ⟨hx, hb, hml, hown, hts⟩ (c_X11_denied (l := l) M a0 6 k0 h17) (cwV 1 hts gX11_call_X11_denied rfl rfl rfl hdV_X11_denied ⟨Nat.le_of_ble_eq_true rfl, Nat.le_of_ble_eq_true rfl⟩) (pV (T := TX11) hP hK hD hT hG hS k0 (by decide) rfl) rfl rfl hl.1 rfl (lv_room (Nat.le_of_ble_eq_true rfl)) dX11_call_13 ⟨Nat.zero_le _, Nat.zero_le _⟩) hS (fun H locs hz17 hP hD hT hS => ?_)
    have hZ := Option.some.inj h
    have hZ1 := congrArg Prod.fst hZ
    have hZ2 := congrArg Prod.snd hZ
    exact r_zret hx hb hr hlocks hP hK hD hT hG hS hz17 hZ1 hZ2 dX11_call_16
set_option maxHeartbeats 4000000 in
set_option maxRecDepth 100000 in
theorem c_X11_at {l : Launch} {D : va_G} {ad : Nat → Nat} {cy : Nat → ClassId} {A : Nat → Prop} {g : CG} {q : SE} (M : MM) (a0 : Nat) (x1 : Int32) (k0 : ok g a0 11 0) {Z : (Int32 × MM)} (h : f_X11_at M a0 x1 = some Z) : Met l yX11_at wsX11_at ({ frames := 1, cells := 0, slots := 0, locals := 21 }) (va_Pc [.ref (ad a0), .int x1] (Wd D ad cy A g q M)) (va_Qi (fun r u => r = Z.1 ∧ u = Z.2) (Wd D ad cy A g q) A) 0 0 A := by
  refine Met.ofW (cc := cX11_at) (maxL := 2) (ret := (some .int)) (by decide) rfl ?_
  intro p e s m args below meth c s₁ B hml hv
  obtain ⟨rfl, hP, hK, hD, hT, hG⟩ := hv
  have hx := B.exec
  have hb := B.bytes
  have hr := B.returns
  have hts := atoms_spec (ws := wsX11_at) B.pre
  have hown : s.vm.findClass RX11 = some m.cls := findClass_of_methodNamed B.named
  have hlocks := B.notSynchronized
  have in1 : ∀ w ∈ u_ws RX1 TX1 11, w ∈ wsX11_at := fun w h => List.mem_cons_of_mem _ (List.mem_append_right _ h)
  have in11 : ∀ w ∈ u_ws RX11 TX11 8, w ∈ wsX11_at := fun w h => List.mem_cons_of_mem _ (List.mem_append_left _ (List.mem_append_right _ h))
  have hS : va_S A s.heap s.heap [] := va_S.rf
  have hl := lv_entry ([.ref (ad a0), .int x1]) (n := 2) (Nat.le_of_ble_eq_true rfl)
  rw [lg_entry_eq]
  generalize (lg_sl ([.ref (ad a0), .int x1]) ++ List.replicate (2 - (lg_sl ([.ref (ad a0), .int x1])).length) Slot.unset).toArray = ls at hl ⊢
  have hl : lv_has ls 2 [(0, .ref (ad a0)), (1, .int x1)] := hl
  unfold f_X11_at at h
  refine lv_iload_n hx hb dX11_at_0 rfl (lv_at hl 1 rfl) ?_
  refine lv_if_lt (tgt := 10) hx hb dX11_at_1 rfl (fun c1 => ?_) (fun c1 => ?_)
  · replace h := ite_t c1 h
    refine lv_aload_n hx hb dX11_at_10 rfl (lv_at hl 0 rfl) ?_
    refine lv_iconst (v := 1) hx hb dX11_at_11 rfl ?_
    obtain ⟨z2, h2, h⟩ := ob_some h
    refine k_i (va_runV (As := [.int 1]) (rest := []) ⟨hx, hb, hml, hown, hts⟩ (c_X11_refused (l := l) M a0 1 k0 h2) (cwV 1 hts gX11_at_X11_refused rfl rfl rfl hdV_X11_refused ⟨Nat.le_of_ble_eq_true rfl, Nat.le_of_ble_eq_true rfl⟩) (pV (T := TX11) hP hK hD hT hG hS k0 (by decide) rfl) rfl rfl hl.1 rfl (lv_room (Nat.le_of_ble_eq_true rfl)) dX11_at_12 ⟨Nat.zero_le _, Nat.zero_le _⟩) hS (fun H locs hP hD hT hS => ?_)
    have hZ := Option.some.inj h
    have hZ1 := congrArg Prod.fst hZ
    have hZ2 := congrArg Prod.snd hZ
    exact r_iret hx hb hr hlocks hP hK hD hT hG hS hZ1 hZ2 dX11_at_15
  · replace h := ite_f c1 h
    refine lv_iload_n hx hb dX11_at_4 rfl (lv_at hl 1 rfl) ?_
    refine lv_bipush (v := 8) hx hb dX11_at_5 rfl ?_
    refine lv_icmp_le (tgt := 16) hx hb dX11_at_7 rfl (fun c3 => ?_) (fun c3 => ?_)
    · replace h := ite_t c3 h
      refine lv_aload_n hx hb dX11_at_16 rfl (lv_at hl 0 rfl) ?_
      rcases hN4 : gR M a0 3 with _ | b4
      · exact absurd (oc_n hN4 h) (by simp)
      replace h := oc_s hN4 h
      have kb4 := hT.f k0 (k := 3) (t := 1) (n := 0) rfl hN4
      refine r_get (T := TX11) (v := .ref (ad b4)) hx hb hts in11 hown hK hP k0 (by decide) rfl 3 (by decide) (hts (.fieldLink RX11 35 "StoneWalk" "journey" "LStoneWalk$Journey;") (List.mem_of_getElem? (i := 1) (by decide +kernel))) rfl (t := 2) rfl (by show va_rf _ = _; rw [hN4]; rfl) dX11_at_17 ?_
      refine r_get (T := TX1) (v := .int (gI M b4 1)) hx hb hts in1 hown hK hP kb4 (by decide) rfl 1 (by decide) (hts (.fieldLink RX11 182 "StoneWalk$Journey" "begun" "Z") (List.mem_of_getElem? (i := 2) (by decide +kernel))) rfl (t := 0) rfl rfl dX11_at_20 ?_
      refine lv_if_ne (tgt := 33) hx hb dX11_at_23 rfl (fun c5 => ?_) (fun c5 => ?_)
      · replace h := ite_f c5 h
        refine lv_aload_n hx hb dX11_at_33 rfl (lv_at hl 0 rfl) ?_
        refine lv_aload_n hx hb dX11_at_34 rfl (lv_at hl 0 rfl) ?_
        rcases hN6 : gR M a0 3 with _ | b6
        · exact absurd (oc_n hN6 h) (by simp)
        replace h := oc_s hN6 h
        have kb6 := hT.f k0 (k := 3) (t := 1) (n := 0) rfl hN6
        refine r_get (T := TX11) (v := .ref (ad b6)) hx hb hts in11 hown hK hP k0 (by decide) rfl 3 (by decide) (hts (.fieldLink RX11 35 "StoneWalk" "journey" "LStoneWalk$Journey;") (List.mem_of_getElem? (i := 1) (by decide +kernel))) rfl (t := 2) rfl (by show va_rf _ = _; rw [hN6]; rfl) dX11_at_35 ?_
        refine lv_iload_n hx hb dX11_at_38 rfl (lv_at hl 1 rfl) ?_
        obtain ⟨z7, h7, h⟩ := ob_some h
        refine k_i (va_runV (As := [.int x1]) (rest := [.ref (ad a0)]) ⟨hx, hb, hml, hown, hts⟩ (c_X1_report (l := l) M b6 x1 kb6 h7) (cwV 1 hts gX11_at_X1_report rfl rfl rfl hdV_X1_report ⟨Nat.le_of_ble_eq_true rfl, Nat.le_of_ble_eq_true rfl⟩) (pV (T := TX1) hP hK hD hT hG hS kb6 (by decide) rfl) rfl rfl hl.1 rfl (lv_room (Nat.le_of_ble_eq_true rfl)) dX11_at_39 ⟨Nat.zero_le _, Nat.zero_le _⟩) hS (fun H locs hP hD hT hS => ?_)
        obtain ⟨z8, h8, h⟩ := ob_some h
        refine k_i (va_runV (As := [.int z7]) (rest := []) ⟨hx, hb, hml, hown, hts⟩ (c_X11_granted (l := l) M a0 z7 k0 h8) (cwV 1 hts gX11_at_X11_granted rfl rfl rfl hdV_X11_granted ⟨Nat.le_of_ble_eq_true rfl, Nat.le_of_ble_eq_true rfl⟩) (pV (T := TX11) hP hK hD hT hG hS k0 (by decide) rfl) rfl rfl hl.1 rfl (lv_room (Nat.le_of_ble_eq_true rfl)) dX11_at_42 ⟨Nat.zero_le _, Nat.zero_le _⟩) hS (fun H locs hP hD hT hS => ?_)
        have hZ := Option.some.inj h
        have hZ1 := congrArg Prod.fst hZ
        have hZ2 := congrArg Prod.snd hZ
        exact r_iret hx hb hr hlocks hP hK hD hT hG hS hZ1 hZ2 dX11_at_45
      · replace h := ite_t c5 h
        refine lv_aload_n hx hb dX11_at_26 rfl (lv_at hl 0 rfl) ?_
        refine lv_bipush (v := 6) hx hb dX11_at_27 rfl ?_
        obtain ⟨z9, h9, h⟩ := ob_some h
        refine k_i (va_runV (As := [.int 6]) (rest := []) ⟨hx, hb, hml, hown, hts⟩ (c_X11_refused (l := l) M a0 6 k0 h9) (cwV 1 hts gX11_at_X11_refused rfl rfl rfl hdV_X11_refused ⟨Nat.le_of_ble_eq_true rfl, Nat.le_of_ble_eq_true rfl⟩) (pV (T := TX11) hP hK hD hT hG hS k0 (by decide) rfl) rfl rfl hl.1 rfl (lv_room (Nat.le_of_ble_eq_true rfl)) dX11_at_29 ⟨Nat.zero_le _, Nat.zero_le _⟩) hS (fun H locs hP hD hT hS => ?_)
        have hZ := Option.some.inj h
        have hZ1 := congrArg Prod.fst hZ
        have hZ2 := congrArg Prod.snd hZ
        exact r_iret hx hb hr hlocks hP hK hD hT hG hS hZ1 hZ2 dX11_at_32
    · replace h := ite_f c3 h
      refine lv_aload_n hx hb dX11_at_10 rfl (lv_at hl 0 rfl) ?_
      refine lv_iconst (v := 1) hx hb dX11_at_11 rfl ?_
      obtain ⟨z10, h10, h⟩ := ob_some h
      refine k_i (va_runV (As := [.int 1]) (rest := []) ⟨hx, hb, hml, hown, hts⟩ (c_X11_refused (l := l) M a0 1 k0 h10) (cwV 1 hts gX11_at_X11_refused rfl rfl rfl hdV_X11_refused ⟨Nat.le_of_ble_eq_true rfl, Nat.le_of_ble_eq_true rfl⟩) (pV (T := TX11) hP hK hD hT hG hS k0 (by decide) rfl) rfl rfl hl.1 rfl (lv_room (Nat.le_of_ble_eq_true rfl)) dX11_at_12 ⟨Nat.zero_le _, Nat.zero_le _⟩) hS (fun H locs hP hD hT hS => ?_)
      have hZ := Option.some.inj h
      have hZ1 := congrArg Prod.fst hZ
      have hZ2 := congrArg Prod.snd hZ
      exact r_iret hx hb hr hlocks hP hK hD hT hG hS hZ1 hZ2 dX11_at_15
set_option maxHeartbeats 4000000 in
set_option maxRecDepth 100000 in
theorem c_X11_tries {l : Launch} {D : va_G} {ad : Nat → Nat} {cy : Nat → ClassId} {A : Nat → Prop} {g : CG} {q : SE} (M : MM) (a0 : Nat) (x1 : Int32) (k0 : ok g a0 11 0) {Z : (Int32 × MM)} (h : f_X11_tries M a0 x1 = some Z) : Met l yX11_tries wsX11_tries ({ frames := 5, cells := 0, slots := 0, locals := 117 }) (va_Pc [.ref (ad a0), .int x1] (Wd D ad cy A g q M)) (va_Qi (fun r u => r = Z.1 ∧ u = Z.2) (Wd D ad cy A g q) A) 0 0 A := by
  refine Met.ofW (cc := cX11_tries) (maxL := 4) (ret := (some .int)) (by decide) rfl ?_
  intro p e s m args below meth c s₁ B hml hv
  obtain ⟨rfl, hP, hK, hD, hT, hG⟩ := hv
  have hx := B.exec
  have hb := B.bytes
  have hr := B.returns
  have hts := atoms_spec (ws := wsX11_tries) B.pre
  have hown : s.vm.findClass RX11 = some m.cls := findClass_of_methodNamed B.named
  have hlocks := B.notSynchronized
  have in1 : ∀ w ∈ u_ws RX1 TX1 11, w ∈ wsX11_tries := fun w h => List.mem_cons_of_mem _ (List.mem_append_left _ (List.mem_append_left _ (List.mem_append_left _ (List.mem_append_left _ (List.mem_append_right _ h)))))
  have in11 : ∀ w ∈ u_ws RX11 TX11 8, w ∈ wsX11_tries := fun w h => List.mem_cons_of_mem _ (List.mem_append_left _ (List.mem_append_left _ (List.mem_append_left _ (List.mem_append_left _ (List.mem_append_left _ (List.mem_append_right _ h))))))
  have hS : va_S A s.heap s.heap [] := va_S.rf
  have hl := lv_entry ([.ref (ad a0), .int x1]) (n := 4) (Nat.le_of_ble_eq_true rfl)
  rw [lg_entry_eq]
  generalize (lg_sl ([.ref (ad a0), .int x1]) ++ List.replicate (4 - (lg_sl ([.ref (ad a0), .int x1])).length) Slot.unset).toArray = ls at hl ⊢
  have hl : lv_has ls 4 [(0, .ref (ad a0)), (1, .int x1)] := hl
  unfold f_X11_tries at h
  refine lv_aload_n hx hb dX11_tries_0 rfl (lv_at hl 0 rfl) ?_
  rcases hN1 : gR M a0 3 with _ | b1
  · exact absurd (oc_n hN1 h) (by simp)
  replace h := oc_s hN1 h
  have kb1 := hT.f k0 (k := 3) (t := 1) (n := 0) rfl hN1
  refine r_get (T := TX11) (v := .ref (ad b1)) hx hb hts in11 hown hK hP k0 (by decide) rfl 3 (by decide) (hts (.fieldLink RX11 35 "StoneWalk" "journey" "LStoneWalk$Journey;") (List.mem_of_getElem? (i := 1) (by decide +kernel))) rfl (t := 2) rfl (by show va_rf _ = _; rw [hN1]; rfl) dX11_tries_1 ?_
  refine r_get (T := TX1) (v := .int (gI M b1 1)) hx hb hts in1 hown hK hP kb1 (by decide) rfl 1 (by decide) (hts (.fieldLink RX11 182 "StoneWalk$Journey" "begun" "Z") (List.mem_of_getElem? (i := 2) (by decide +kernel))) rfl (t := 0) rfl rfl dX11_tries_4 ?_
  refine lv_if_ne (tgt := 17) hx hb dX11_tries_7 rfl (fun c2 => ?_) (fun c2 => ?_)
  · replace h := ite_f c2 h
    refine lv_iload_n hx hb dX11_tries_17 rfl (lv_at hl 1 rfl) ?_
    refine lv_iconst (v := 1) hx hb dX11_tries_18 rfl ?_
    refine lv_icmp_lt (tgt := 28) hx hb dX11_tries_19 rfl (fun c3 => ?_) (fun c3 => ?_)
    · replace h := ite_t c3 h
      refine lv_aload_n hx hb dX11_tries_28 rfl (lv_at hl 0 rfl) ?_
      refine lv_iconst (v := 2) hx hb dX11_tries_29 rfl ?_
      obtain ⟨z4, h4, h⟩ := ob_some h
      refine k_i (va_runV (As := [.int 2]) (rest := []) ⟨hx, hb, hml, hown, hts⟩ (c_X11_refused (l := l) M a0 2 k0 h4) (cwV 1 hts gX11_tries_X11_refused rfl rfl rfl hdV_X11_refused ⟨Nat.le_of_ble_eq_true rfl, Nat.le_of_ble_eq_true rfl⟩) (pV (T := TX11) hP hK hD hT hG hS k0 (by decide) rfl) rfl rfl hl.1 rfl (lv_room (Nat.le_of_ble_eq_true rfl)) dX11_tries_30 ⟨Nat.zero_le _, Nat.zero_le _⟩) hS (fun H locs hP hD hT hS => ?_)
      have hZ := Option.some.inj h
      have hZ1 := congrArg Prod.fst hZ
      have hZ2 := congrArg Prod.snd hZ
      exact r_iret hx hb hr hlocks hP hK hD hT hG hS hZ1 hZ2 dX11_tries_33
    · replace h := ite_f c3 h
      refine lv_iload_n hx hb dX11_tries_22 rfl (lv_at hl 1 rfl) ?_
      refine lv_bipush (v := 100) hx hb dX11_tries_23 rfl ?_
      refine lv_icmp_le (tgt := 34) hx hb dX11_tries_25 rfl (fun c5 => ?_) (fun c5 => ?_)
      · replace h := ite_t c5 h
        refine lv_iconst (v := 0) hx hb dX11_tries_34 rfl ?_
        refine lv_istore_n (lv' := [(2, .int 0), (0, .ref (ad a0)), (1, .int x1)]) hx hb dX11_tries_35 rfl hl (by decide) rfl (fun ls hl => ?_)
        refine lv_aload_n hx hb dX11_tries_36 rfl (lv_at hl 1 rfl) ?_
        rcases hN6 : gR M a0 4 with _ | b6
        · exact absurd (oc_n hN6 h) (by simp)
        replace h := oc_s hN6 h
        have kb6 := hT.f k0 (k := 4) (t := 1) (n := 0) rfl hN6
        refine r_get (T := TX11) (v := .ref (ad b6)) hx hb hts in11 hown hK hP k0 (by decide) rfl 4 (by decide) (hts (.fieldLink RX11 39 "StoneWalk" "scout" "LStoneWalk$Journey;") (List.mem_of_getElem? (i := 3) (by decide +kernel))) rfl (t := 2) rfl (by show va_rf _ = _; rw [hN6]; rfl) dX11_tries_37 ?_
        refine lv_aload_n hx hb dX11_tries_40 rfl (lv_at hl 1 rfl) ?_
        rcases hN7 : gR M a0 3 with _ | b7
        · exact absurd (oc_n hN7 h) (by simp)
        replace h := oc_s hN7 h
        have kb7 := hT.f k0 (k := 3) (t := 1) (n := 0) rfl hN7
        refine r_get (T := TX11) (v := .ref (ad b7)) hx hb hts in11 hown hK hP k0 (by decide) rfl 3 (by decide) (hts (.fieldLink RX11 35 "StoneWalk" "journey" "LStoneWalk$Journey;") (List.mem_of_getElem? (i := 1) (by decide +kernel))) rfl (t := 2) rfl (by show va_rf _ = _; rw [hN7]; rfl) dX11_tries_41 ?_
        refine r_get (T := TX1) (v := .int (gI M b7 0)) hx hb hts in1 hown hK hP kb7 (by decide) rfl 0 (by decide) (hts (.fieldLink RX11 168 "StoneWalk$Journey" "seed" "I") (List.mem_of_getElem? (i := 4) (by decide +kernel))) rfl (t := 0) rfl rfl dX11_tries_44 ?_
        refine r_putI (T := TX1) (ty := .int) (v := gI M b7 0) hx hb hts in1 tyX1 tyX1_ok nmX1 hown hK hP hD hT hS kb6 (by decide) rfl 0 (by decide) (hts (.fieldLink RX11 168 "StoneWalk$Journey" "seed" "I") (List.mem_of_getElem? (i := 4) (by decide +kernel))) rfl rfl (tyX1_ok 0 (by decide)) rfl rfl rfl dX11_tries_47 (fun H locs hP hD hT hS => ?_)
        refine lv_iconst (v := 0) hx hb dX11_tries_50 rfl ?_
        refine lv_istore_n (lv' := [(3, .int 0), (2, .int 0), (0, .ref (ad a0)), (1, .int x1)]) hx hb dX11_tries_51 rfl hl (by decide) rfl (fun ls hl => ?_)
        have L8 : ∀ n8 : Nat, ∀ (M8 : MM) (y8_0 : Nat) (y8_1 : Int32) (y8_2 : Int32) (y8_3 : Int32) (ky8_0 : ok g y8_0 11 0) (H : Heap) (locs : List Loc), f_X11_tries_L52 n8 M8 y8_0 y8_1 y8_2 y8_3 = some Z → va_P D vwCl (wd ad cy g M8) H → va_D A (wd ad cy g M8) → WT g M8 → va_S A s.heap H locs → ∀ (ls : Array Slot), lv_has ls 4 [(0, .ref (ad y8_0)), (1, .int y8_1), (2, .int y8_2), (3, .int y8_3)] → W p l e ((headSpec wsX11_tries ({ frames := 5, cells := 0, slots := 0, locals := 117 })).room) s m (([.ref (ad a0), .int x1] : List Value).toArray) below meth c H locs 0 0 (MQ below (va_Qi (fun r u => r = Z.1 ∧ u = Z.2) (Wd D ad cy A g q) A) ([.ref (ad a0), .int x1]).toArray s 0 0 A) (F0 m 52 ls []) := by
          intro n8
          induction n8 with
          | zero => intro M8 y8_0 y8_1 y8_2 y8_3 ky8_0 H locs h; exact absurd h (by simp [f_X11_tries_L52])
          | succ n8 ih8 =>
            intro M8 y8_0 y8_1 y8_2 y8_3 ky8_0 H locs h hP hD hT hS ls hl
            rw [f_X11_tries_L52] at h
            refine lv_iload_n hx hb dX11_tries_52 rfl (lv_at hl 3 rfl) ?_
            refine lv_iload_n hx hb dX11_tries_53 rfl (lv_at hl 1 rfl) ?_
            refine lv_icmp_ge (tgt := 115) hx hb dX11_tries_54 rfl (fun c9 => ?_) (fun c9 => ?_)
            · replace h := ite_t c9 h
              refine lv_aload_n hx hb dX11_tries_115 rfl (lv_at hl 0 rfl) ?_
              rcases hN10 : gR M8 y8_0 3 with _ | b10
              · exact absurd (oc_n hN10 h) (by simp)
              replace h := oc_s hN10 h
              have kb10 := hT.f ky8_0 (k := 3) (t := 1) (n := 0) rfl hN10
              refine r_get (T := TX11) (v := .ref (ad b10)) hx hb hts in11 hown hK hP ky8_0 (by decide) rfl 3 (by decide) (hts (.fieldLink RX11 35 "StoneWalk" "journey" "LStoneWalk$Journey;") (List.mem_of_getElem? (i := 1) (by decide +kernel))) rfl (t := 2) rfl (by show va_rf _ = _; rw [hN10]; rfl) dX11_tries_116 ?_
              refine lv_aload_n hx hb dX11_tries_119 rfl (lv_at hl 0 rfl) ?_
              rcases hN11 : gR M8 y8_0 4 with _ | b11
              · exact absurd (oc_n hN11 h) (by simp)
              replace h := oc_s hN11 h
              have kb11 := hT.f ky8_0 (k := 4) (t := 1) (n := 0) rfl hN11
              refine r_get (T := TX11) (v := .ref (ad b11)) hx hb hts in11 hown hK hP ky8_0 (by decide) rfl 4 (by decide) (hts (.fieldLink RX11 39 "StoneWalk" "scout" "LStoneWalk$Journey;") (List.mem_of_getElem? (i := 3) (by decide +kernel))) rfl (t := 2) rfl (by show va_rf _ = _; rw [hN11]; rfl) dX11_tries_120 ?_
              refine r_get (T := TX1) (v := .int (gI M8 b11 0)) hx hb hts in1 hown hK hP kb11 (by decide) rfl 0 (by decide) (hts (.fieldLink RX11 168 "StoneWalk$Journey" "seed" "I") (List.mem_of_getElem? (i := 4) (by decide +kernel))) rfl (t := 0) rfl rfl dX11_tries_123 ?_
              refine r_putI (T := TX1) (ty := .int) (v := gI M8 b11 0) hx hb hts in1 tyX1 tyX1_ok nmX1 hown hK hP hD hT hS kb10 (by decide) rfl 0 (by decide) (hts (.fieldLink RX11 168 "StoneWalk$Journey" "seed" "I") (List.mem_of_getElem? (i := 4) (by decide +kernel))) rfl rfl (tyX1_ok 0 (by decide)) rfl rfl rfl dX11_tries_126 (fun H locs hP hD hT hS => ?_)
              refine lv_aload_n hx hb dX11_tries_129 rfl (lv_at hl 0 rfl) ?_
              refine lv_iload_n hx hb dX11_tries_130 rfl (lv_at hl 2 rfl) ?_
              obtain ⟨z12, h12, h⟩ := ob_some h
              refine k_i (va_runV (As := [.int y8_2]) (rest := []) ⟨hx, hb, hml, hown, hts⟩ (c_X11_granted (l := l) (pI M8 b10 0 (gI M8 b11 0)) y8_0 y8_2 ky8_0 h12) (cwV 1 hts gX11_tries_X11_granted rfl rfl rfl hdV_X11_granted ⟨Nat.le_of_ble_eq_true rfl, Nat.le_of_ble_eq_true rfl⟩) (pV (T := TX11) hP hK hD hT hG hS ky8_0 (by decide) rfl) rfl rfl hl.1 rfl (lv_room (Nat.le_of_ble_eq_true rfl)) dX11_tries_131 ⟨Nat.zero_le _, Nat.zero_le _⟩) hS (fun H locs hP hD hT hS => ?_)
              have hZ := Option.some.inj h
              have hZ1 := congrArg Prod.fst hZ
              have hZ2 := congrArg Prod.snd hZ
              exact r_iret hx hb hr hlocks hP hK hD hT hG hS hZ1 hZ2 dX11_tries_134
            · replace h := ite_f c9 h
              refine lv_aload_n hx hb dX11_tries_57 rfl (lv_at hl 0 rfl) ?_
              rcases hN13 : gR M8 y8_0 4 with _ | b13
              · exact absurd (oc_n hN13 h) (by simp)
              replace h := oc_s hN13 h
              have kb13 := hT.f ky8_0 (k := 4) (t := 1) (n := 0) rfl hN13
              refine r_get (T := TX11) (v := .ref (ad b13)) hx hb hts in11 hown hK hP ky8_0 (by decide) rfl 4 (by decide) (hts (.fieldLink RX11 39 "StoneWalk" "scout" "LStoneWalk$Journey;") (List.mem_of_getElem? (i := 3) (by decide +kernel))) rfl (t := 2) rfl (by show va_rf _ = _; rw [hN13]; rfl) dX11_tries_58 ?_
              refine lv_aload_n hx hb dX11_tries_61 rfl (lv_at hl 0 rfl) ?_
              rcases hN14 : gR M8 y8_0 3 with _ | b14
              · exact absurd (oc_n hN14 h) (by simp)
              replace h := oc_s hN14 h
              have kb14 := hT.f ky8_0 (k := 3) (t := 1) (n := 0) rfl hN14
              refine r_get (T := TX11) (v := .ref (ad b14)) hx hb hts in11 hown hK hP ky8_0 (by decide) rfl 3 (by decide) (hts (.fieldLink RX11 35 "StoneWalk" "journey" "LStoneWalk$Journey;") (List.mem_of_getElem? (i := 1) (by decide +kernel))) rfl (t := 2) rfl (by show va_rf _ = _; rw [hN14]; rfl) dX11_tries_62 ?_
              refine r_get (T := TX1) (v := .int (gI M8 b14 4)) hx hb hts in1 hown hK hP kb14 (by decide) rfl 4 (by decide) (hts (.fieldLink RX11 199 "StoneWalk$Journey" "statue" "I") (List.mem_of_getElem? (i := 5) (by decide +kernel))) rfl (t := 0) rfl rfl dX11_tries_65 ?_
              refine lv_aload_n hx hb dX11_tries_68 rfl (lv_at hl 0 rfl) ?_
              rcases hN15 : gR M8 y8_0 3 with _ | b15
              · exact absurd (oc_n hN15 h) (by simp)
              replace h := oc_s hN15 h
              have kb15 := hT.f ky8_0 (k := 3) (t := 1) (n := 0) rfl hN15
              refine r_get (T := TX11) (v := .ref (ad b15)) hx hb hts in11 hown hK hP ky8_0 (by decide) rfl 3 (by decide) (hts (.fieldLink RX11 35 "StoneWalk" "journey" "LStoneWalk$Journey;") (List.mem_of_getElem? (i := 1) (by decide +kernel))) rfl (t := 2) rfl (by show va_rf _ = _; rw [hN15]; rfl) dX11_tries_69 ?_
              refine r_get (T := TX1) (v := .int (gI M8 b15 5)) hx hb hts in1 hown hK hP kb15 (by decide) rfl 5 (by decide) (hts (.fieldLink RX11 202 "StoneWalk$Journey" "way" "I") (List.mem_of_getElem? (i := 6) (by decide +kernel))) rfl (t := 0) rfl rfl dX11_tries_72 ?_
              refine lv_aload_n hx hb dX11_tries_75 rfl (lv_at hl 0 rfl) ?_
              rcases hN16 : gR M8 y8_0 3 with _ | b16
              · exact absurd (oc_n hN16 h) (by simp)
              replace h := oc_s hN16 h
              have kb16 := hT.f ky8_0 (k := 3) (t := 1) (n := 0) rfl hN16
              refine r_get (T := TX11) (v := .ref (ad b16)) hx hb hts in11 hown hK hP ky8_0 (by decide) rfl 3 (by decide) (hts (.fieldLink RX11 35 "StoneWalk" "journey" "LStoneWalk$Journey;") (List.mem_of_getElem? (i := 1) (by decide +kernel))) rfl (t := 2) rfl (by show va_rf _ = _; rw [hN16]; rfl) dX11_tries_76 ?_
              refine r_get (T := TX1) (v := .int (gI M8 b16 6)) hx hb hts in1 hown hK hP kb16 (by decide) rfl 6 (by decide) (hts (.fieldLink RX11 205 "StoneWalk$Journey" "road" "I") (List.mem_of_getElem? (i := 7) (by decide +kernel))) rfl (t := 0) rfl rfl dX11_tries_79 ?_
              refine lv_aload_n hx hb dX11_tries_82 rfl (lv_at hl 0 rfl) ?_
              rcases hN17 : gR M8 y8_0 3 with _ | b17
              · exact absurd (oc_n hN17 h) (by simp)
              replace h := oc_s hN17 h
              have kb17 := hT.f ky8_0 (k := 3) (t := 1) (n := 0) rfl hN17
              refine r_get (T := TX11) (v := .ref (ad b17)) hx hb hts in11 hown hK hP ky8_0 (by decide) rfl 3 (by decide) (hts (.fieldLink RX11 35 "StoneWalk" "journey" "LStoneWalk$Journey;") (List.mem_of_getElem? (i := 1) (by decide +kernel))) rfl (t := 2) rfl (by show va_rf _ = _; rw [hN17]; rfl) dX11_tries_83 ?_
              refine r_get (T := TX1) (v := .int (gI M8 b17 3)) hx hb hts in1 hown hK hP kb17 (by decide) rfl 3 (by decide) (hts (.fieldLink RX11 193 "StoneWalk$Journey" "people" "I") (List.mem_of_getElem? (i := 8) (by decide +kernel))) rfl (t := 0) rfl rfl dX11_tries_86 ?_
              obtain ⟨z18, h18, h⟩ := ob_some h
              refine k_v (va_runV (As := [.int (gI M8 b14 4), .int (gI M8 b15 5), .int (gI M8 b16 6), .int (gI M8 b17 3)]) (rest := []) ⟨hx, hb, hml, hown, hts⟩ (c_X1_begin (l := l) M8 b13 (gI M8 b14 4) (gI M8 b15 5) (gI M8 b16 6) (gI M8 b17 3) kb13 h18) (cwV 4 hts gX11_tries_X1_begin rfl rfl rfl hdV_X1_begin ⟨Nat.le_of_ble_eq_true rfl, Nat.le_of_ble_eq_true rfl⟩) (pV (T := TX1) hP hK hD hT hG hS kb13 (by decide) rfl) rfl rfl hl.1 rfl (lv_room (Nat.le_of_ble_eq_true rfl)) dX11_tries_89 ⟨Nat.zero_le _, Nat.zero_le _⟩) hS (fun H locs hP hD hT hS => ?_)
              refine lv_aload_n hx hb dX11_tries_92 rfl (lv_at hl 0 rfl) ?_
              rcases hN19 : gR z18 y8_0 4 with _ | b19
              · exact absurd (oc_n hN19 h) (by simp)
              replace h := oc_s hN19 h
              have kb19 := hT.f ky8_0 (k := 4) (t := 1) (n := 0) rfl hN19
              refine r_get (T := TX11) (v := .ref (ad b19)) hx hb hts in11 hown hK hP ky8_0 (by decide) rfl 4 (by decide) (hts (.fieldLink RX11 39 "StoneWalk" "scout" "LStoneWalk$Journey;") (List.mem_of_getElem? (i := 3) (by decide +kernel))) rfl (t := 2) rfl (by show va_rf _ = _; rw [hN19]; rfl) dX11_tries_93 ?_
              refine lv_aload_n hx hb dX11_tries_96 rfl (lv_at hl 0 rfl) ?_
              rcases hN20 : gR z18 y8_0 5 with _ | b20
              · exact absurd (oc_n hN20 h) (by simp)
              replace h := oc_s hN20 h
              have kb20 := hT.f ky8_0 (k := 5) (t := 0) (n := 0) rfl hN20
              refine r_get (T := TX11) (v := .ref (ad b20)) hx hb hts in11 hown hK hP ky8_0 (by decide) rfl 5 (by decide) (hts (.fieldLink RX11 45 "StoneWalk" "island" "LStoneWalk$Island;") (List.mem_of_getElem? (i := 9) (by decide +kernel))) rfl (t := 2) rfl (by show va_rf _ = _; rw [hN20]; rfl) dX11_tries_97 ?_
              obtain ⟨z21, h21, h⟩ := ob_some h
              refine k_z (va_runV (As := [.ref (ad b20)]) (rest := []) ⟨hx, hb, hml, hown, hts⟩ (c_X1_arrives (l := l) z18 b19 b20 kb19 kb20 h21) (cwV 1 hts gX11_tries_X1_arrives rfl rfl rfl hdV_X1_arrives ⟨Nat.le_of_ble_eq_true rfl, Nat.le_of_ble_eq_true rfl⟩) (pV (T := TX1) hP hK hD hT hG hS kb19 (by decide) rfl) rfl rfl hl.1 rfl (lv_room (Nat.le_of_ble_eq_true rfl)) dX11_tries_100 ⟨Nat.zero_le _, Nat.zero_le _⟩) hS (fun H locs hz21 hP hD hT hS => ?_)
              refine lv_if_eq (tgt := 109) hx hb dX11_tries_103 rfl (fun c22 => ?_) (fun c22 => ?_)
              · replace h := ite_t c22 h
                refine lv_iinc (v := y8_3 + 1) (lv' := [(3, .int (y8_3 + 1)), (0, .ref (ad y8_0)), (1, .int y8_1), (2, .int y8_2)]) hx hb dX11_tries_109 hl (k := 3) rfl rfl (by decide) rfl (fun ls hl => ?_)
                refine lv_goto (tgt := 52) hx hb dX11_tries_112 rfl ?_
                exact ih8 z21.2 y8_0 y8_1 y8_2 (y8_3 + 1) ky8_0 _ _ h hP hD hT hS ls (lv_sub hl [1, 2, 3, 0] rfl)
              · replace h := ite_f c22 h
                refine lv_iinc (v := y8_2 + 1) (lv' := [(2, .int (y8_2 + 1)), (0, .ref (ad y8_0)), (1, .int y8_1), (3, .int y8_3)]) hx hb dX11_tries_106 hl (k := 2) rfl rfl (by decide) rfl (fun ls hl => ?_)
                refine lv_iinc (v := y8_3 + 1) (lv' := [(3, .int (y8_3 + 1)), (2, .int (y8_2 + 1)), (0, .ref (ad y8_0)), (1, .int y8_1)]) hx hb dX11_tries_109 hl (k := 3) rfl rfl (by decide) rfl (fun ls hl => ?_)
                refine lv_goto (tgt := 52) hx hb dX11_tries_112 rfl ?_
                exact ih8 z21.2 y8_0 y8_1 (y8_2 + 1) (y8_3 + 1) ky8_0 _ _ h hP hD hT hS ls (lv_sub hl [2, 3, 1, 0] rfl)
        exact L8 FU (pI M b6 0 (gI M b7 0)) a0 x1 0 0 k0 _ _ h hP hD hT hS ls (lv_sub hl [2, 3, 1, 0] rfl)
      · replace h := ite_f c5 h
        refine lv_aload_n hx hb dX11_tries_28 rfl (lv_at hl 0 rfl) ?_
        refine lv_iconst (v := 2) hx hb dX11_tries_29 rfl ?_
        obtain ⟨z23, h23, h⟩ := ob_some h
        refine k_i (va_runV (As := [.int 2]) (rest := []) ⟨hx, hb, hml, hown, hts⟩ (c_X11_refused (l := l) M a0 2 k0 h23) (cwV 1 hts gX11_tries_X11_refused rfl rfl rfl hdV_X11_refused ⟨Nat.le_of_ble_eq_true rfl, Nat.le_of_ble_eq_true rfl⟩) (pV (T := TX11) hP hK hD hT hG hS k0 (by decide) rfl) rfl rfl hl.1 rfl (lv_room (Nat.le_of_ble_eq_true rfl)) dX11_tries_30 ⟨Nat.zero_le _, Nat.zero_le _⟩) hS (fun H locs hP hD hT hS => ?_)
        have hZ := Option.some.inj h
        have hZ1 := congrArg Prod.fst hZ
        have hZ2 := congrArg Prod.snd hZ
        exact r_iret hx hb hr hlocks hP hK hD hT hG hS hZ1 hZ2 dX11_tries_33
  · replace h := ite_t c2 h
    refine lv_aload_n hx hb dX11_tries_10 rfl (lv_at hl 0 rfl) ?_
    refine lv_bipush (v := 6) hx hb dX11_tries_11 rfl ?_
    obtain ⟨z24, h24, h⟩ := ob_some h
    refine k_i (va_runV (As := [.int 6]) (rest := []) ⟨hx, hb, hml, hown, hts⟩ (c_X11_refused (l := l) M a0 6 k0 h24) (cwV 1 hts gX11_tries_X11_refused rfl rfl rfl hdV_X11_refused ⟨Nat.le_of_ble_eq_true rfl, Nat.le_of_ble_eq_true rfl⟩) (pV (T := TX11) hP hK hD hT hG hS k0 (by decide) rfl) rfl rfl hl.1 rfl (lv_room (Nat.le_of_ble_eq_true rfl)) dX11_tries_13 ⟨Nat.zero_le _, Nat.zero_le _⟩) hS (fun H locs hP hD hT hS => ?_)
    have hZ := Option.some.inj h
    have hZ1 := congrArg Prod.fst hZ
    have hZ2 := congrArg Prod.snd hZ
    exact r_iret hx hb hr hlocks hP hK hD hT hG hS hZ1 hZ2 dX11_tries_16
set_option maxHeartbeats 4000000 in
set_option maxRecDepth 100000 in
theorem c_X11_image {l : Launch} {D : va_G} {ad : Nat → Nat} {cy : Nat → ClassId} {A : Nat → Prop} {g : CG} {q : SE} (M : MM) (a0 : Nat) (k0 : ok g a0 11 0) {Z : (Int64 × MM)} (h : f_X11_image M a0 = some Z) : Met l yX11_image wsX11_image ({ frames := 1, cells := 0, slots := 0, locals := 22 }) (va_Pc [.ref (ad a0)] (Wd D ad cy A g q M)) (va_Ql (fun r u => r = Z.1 ∧ u = Z.2) (Wd D ad cy A g q) A) 0 0 A := by
  refine Met.ofW (cc := cX11_image) (maxL := 1) (ret := (some .long)) (by decide) rfl ?_
  intro p e s m args below meth c s₁ B hml hv
  obtain ⟨rfl, hP, hK, hD, hT, hG⟩ := hv
  have hx := B.exec
  have hb := B.bytes
  have hr := B.returns
  have hts := atoms_spec (ws := wsX11_image) B.pre
  have hown : s.vm.findClass RX11 = some m.cls := findClass_of_methodNamed B.named
  have hlocks := B.notSynchronized
  have in1 : ∀ w ∈ u_ws RX1 TX1 11, w ∈ wsX11_image := fun w h => List.mem_cons_of_mem _ (List.mem_append_right _ h)
  have in11 : ∀ w ∈ u_ws RX11 TX11 8, w ∈ wsX11_image := fun w h => List.mem_cons_of_mem _ (List.mem_append_left _ (List.mem_append_right _ h))
  have hS : va_S A s.heap s.heap [] := va_S.rf
  have hl := lv_entry ([.ref (ad a0)]) (n := 1) (Nat.le_of_ble_eq_true rfl)
  rw [lg_entry_eq]
  generalize (lg_sl ([.ref (ad a0)]) ++ List.replicate (1 - (lg_sl ([.ref (ad a0)])).length) Slot.unset).toArray = ls at hl ⊢
  have hl : lv_has ls 1 [(0, .ref (ad a0))] := hl
  unfold f_X11_image at h
  refine lv_aload_n hx hb dX11_image_0 rfl (lv_at hl 0 rfl) ?_
  rcases hN1 : gR M a0 3 with _ | b1
  · exact absurd (oc_n hN1 h) (by simp)
  replace h := oc_s hN1 h
  have kb1 := hT.f k0 (k := 3) (t := 1) (n := 0) rfl hN1
  refine r_get (T := TX11) (v := .ref (ad b1)) hx hb hts in11 hown hK hP k0 (by decide) rfl 3 (by decide) (hts (.fieldLink RX11 35 "StoneWalk" "journey" "LStoneWalk$Journey;") (List.mem_of_getElem? (i := 1) (by decide +kernel))) rfl (t := 2) rfl (by show va_rf _ = _; rw [hN1]; rfl) dX11_image_1 ?_
  refine r_get (T := TX1) (v := .int (gI M b1 1)) hx hb hts in1 hown hK hP kb1 (by decide) rfl 1 (by decide) (hts (.fieldLink RX11 182 "StoneWalk$Journey" "begun" "Z") (List.mem_of_getElem? (i := 2) (by decide +kernel))) rfl (t := 0) rfl rfl dX11_image_4 ?_
  refine lv_if_ne (tgt := 18) hx hb dX11_image_7 rfl (fun c2 => ?_) (fun c2 => ?_)
  · replace h := ite_f c2 h
    refine lv_aload_n hx hb dX11_image_18 rfl (lv_at hl 0 rfl) ?_
    refine lv_iconst (v := 0) hx hb dX11_image_19 rfl ?_
    refine r_putI (T := TX11) (ty := .int) (v := 0) hx hb hts in11 tyX11 tyX11_ok nmX11 hown hK hP hD hT hS k0 (by decide) rfl 7 (by decide) (hts (.fieldLink RX11 52 "StoneWalk" "trouble" "I") (List.mem_of_getElem? (i := 3) (by decide +kernel))) rfl rfl (tyX11_ok 7 (by decide)) rfl rfl rfl dX11_image_20 (fun H locs hP hD hT hS => ?_)
    refine lv_aload_n hx hb dX11_image_23 rfl (lv_at hl 0 rfl) ?_
    rcases hN3 : gR (pI M a0 7 0) a0 3 with _ | b3
    · exact absurd (oc_n hN3 h) (by simp)
    replace h := oc_s hN3 h
    have kb3 := hT.f k0 (k := 3) (t := 1) (n := 0) rfl hN3
    refine r_get (T := TX11) (v := .ref (ad b3)) hx hb hts in11 hown hK hP k0 (by decide) rfl 3 (by decide) (hts (.fieldLink RX11 35 "StoneWalk" "journey" "LStoneWalk$Journey;") (List.mem_of_getElem? (i := 1) (by decide +kernel))) rfl (t := 2) rfl (by show va_rf _ = _; rw [hN3]; rfl) dX11_image_24 ?_
    obtain ⟨z4, h4, h⟩ := ob_some h
    refine k_l (va_runV (As := []) (rest := []) ⟨hx, hb, hml, hown, hts⟩ (c_X1_toImage (l := l) (pI M a0 7 0) b3 kb3 h4) (cwV 0 hts gX11_image_X1_toImage rfl rfl rfl hdV_X1_toImage ⟨Nat.le_of_ble_eq_true rfl, Nat.le_of_ble_eq_true rfl⟩) (pV (T := TX1) hP hK hD hT hG hS kb3 (by decide) rfl) rfl rfl hl.1 rfl (lv_room (Nat.le_of_ble_eq_true rfl)) dX11_image_27 ⟨Nat.zero_le _, Nat.zero_le _⟩) hS (fun H locs hP hD hT hS => ?_)
    have hZ := Option.some.inj h
    have hZ1 := congrArg Prod.fst hZ
    have hZ2 := congrArg Prod.snd hZ
    exact r_lret hx hb hr hlocks hP hK hD hT hG hS hZ1 hZ2 dX11_image_30
  · replace h := ite_t c2 h
    refine lv_aload_n hx hb dX11_image_10 rfl (lv_at hl 0 rfl) ?_
    refine lv_bipush (v := 6) hx hb dX11_image_11 rfl ?_
    obtain ⟨z5, h5, h⟩ := ob_some h
    refine k_i (va_runV (As := [.int 6]) (rest := []) ⟨hx, hb, hml, hown, hts⟩ (c_X11_refused (l := l) M a0 6 k0 h5) (cwV 1 hts gX11_image_X11_refused rfl rfl rfl hdV_X11_refused ⟨Nat.le_of_ble_eq_true rfl, Nat.le_of_ble_eq_true rfl⟩) (pV (T := TX11) hP hK hD hT hG hS k0 (by decide) rfl) rfl rfl hl.1 rfl (lv_room (Nat.le_of_ble_eq_true rfl)) dX11_image_13 ⟨Nat.zero_le _, Nat.zero_le _⟩) hS (fun H locs hP hD hT hS => ?_)
    refine lv_i2l hx hb dX11_image_16 rfl ?_
    have hZ := Option.some.inj h
    have hZ1 := congrArg Prod.fst hZ
    have hZ2 := congrArg Prod.snd hZ
    exact r_lret hx hb hr hlocks hP hK hD hT hG hS hZ1 hZ2 dX11_image_17
set_option maxHeartbeats 4000000 in
set_option maxRecDepth 100000 in
theorem c_X11_restore {l : Launch} {D : va_G} {ad : Nat → Nat} {cy : Nat → ClassId} {A : Nat → Prop} {g : CG} {q : SE} (M : MM) (a0 : Nat) (x1 : Int64) (k0 : ok g a0 11 0) {Z : (Int32 × MM)} (h : f_X11_restore M a0 x1 = some Z) : Met l yX11_restore wsX11_restore ({ frames := 5, cells := 0, slots := 0, locals := 113 }) (va_Pc [.ref (ad a0), .long x1] (Wd D ad cy A g q M)) (va_Qi (fun r u => r = Z.1 ∧ u = Z.2 ∧ zb r) (Wd D ad cy A g q) A) 0 0 A := by
  refine Met.ofW (cc := cX11_restore) (maxL := 4) (ret := (some .boolean)) (by decide) rfl ?_
  intro p e s m args below meth c s₁ B hml hv
  obtain ⟨rfl, hP, hK, hD, hT, hG⟩ := hv
  have hx := B.exec
  have hb := B.bytes
  have hr := B.returns
  have hts := atoms_spec (ws := wsX11_restore) B.pre
  have hown : s.vm.findClass RX11 = some m.cls := findClass_of_methodNamed B.named
  have hlocks := B.notSynchronized
  have in11 : ∀ w ∈ u_ws RX11 TX11 8, w ∈ wsX11_restore := fun w h => List.mem_cons_of_mem _ (List.mem_append_left _ (List.mem_append_left _ (List.mem_append_left _ (List.mem_append_left _ (List.mem_append_left _ (List.mem_append_right _ h))))))
  have hS : va_S A s.heap s.heap [] := va_S.rf
  have hl := lv_entry ([.ref (ad a0), .long x1]) (n := 4) (Nat.le_of_ble_eq_true rfl)
  rw [lg_entry_eq]
  generalize (lg_sl ([.ref (ad a0), .long x1]) ++ List.replicate (4 - (lg_sl ([.ref (ad a0), .long x1])).length) Slot.unset).toArray = ls at hl ⊢
  have hl : lv_has ls 4 [(0, .ref (ad a0)), (1, .long x1)] := hl
  unfold f_X11_restore at h
  refine lv_aload_n hx hb dX11_restore_0 rfl (lv_at hl 0 rfl) ?_
  rcases hN1 : gR M a0 5 with _ | b1
  · exact absurd (oc_n hN1 h) (by simp)
  replace h := oc_s hN1 h
  have kb1 := hT.f k0 (k := 5) (t := 0) (n := 0) rfl hN1
  refine r_get (T := TX11) (v := .ref (ad b1)) hx hb hts in11 hown hK hP k0 (by decide) rfl 5 (by decide) (hts (.fieldLink RX11 45 "StoneWalk" "island" "LStoneWalk$Island;") (List.mem_of_getElem? (i := 1) (by decide +kernel))) rfl (t := 2) rfl (by show va_rf _ = _; rw [hN1]; rfl) dX11_restore_1 ?_
  obtain ⟨z2, h2, h⟩ := ob_some h
  refine k_z (va_runV (As := []) (rest := []) ⟨hx, hb, hml, hown, hts⟩ (c_X0_isBare (l := l) M b1 kb1 h2) (cwV 0 hts gX11_restore_X0_isBare rfl rfl rfl hdV_X0_isBare ⟨Nat.le_of_ble_eq_true rfl, Nat.le_of_ble_eq_true rfl⟩) (pV (T := TX0) hP hK hD hT hG hS kb1 (by decide) rfl) rfl rfl hl.1 rfl (lv_room (Nat.le_of_ble_eq_true rfl)) dX11_restore_4 ⟨Nat.zero_le _, Nat.zero_le _⟩) hS (fun H locs hz2 hP hD hT hS => ?_)
  refine lv_if_eq (tgt := 16) hx hb dX11_restore_7 rfl (fun c3 => ?_) (fun c3 => ?_)
  · replace h := ite_t c3 h
    refine lv_aload_n hx hb dX11_restore_16 rfl (lv_at hl 0 rfl) ?_
    rcases hN4 : gR M a0 4 with _ | b4
    · exact absurd (oc_n hN4 h) (by simp)
    replace h := oc_s hN4 h
    have kb4 := hT.f k0 (k := 4) (t := 1) (n := 0) rfl hN4
    refine r_get (T := TX11) (v := .ref (ad b4)) hx hb hts in11 hown hK hP k0 (by decide) rfl 4 (by decide) (hts (.fieldLink RX11 39 "StoneWalk" "scout" "LStoneWalk$Journey;") (List.mem_of_getElem? (i := 2) (by decide +kernel))) rfl (t := 2) rfl (by show va_rf _ = _; rw [hN4]; rfl) dX11_restore_17 ?_
    refine lv_lload_n hx hb dX11_restore_20 rfl (lv_at hl 1 rfl) ?_
    refine lv_aload_n hx hb dX11_restore_21 rfl (lv_at hl 0 rfl) ?_
    rcases hN5 : gR M a0 5 with _ | b5
    · exact absurd (oc_n hN5 h) (by simp)
    replace h := oc_s hN5 h
    have kb5 := hT.f k0 (k := 5) (t := 0) (n := 0) rfl hN5
    refine r_get (T := TX11) (v := .ref (ad b5)) hx hb hts in11 hown hK hP k0 (by decide) rfl 5 (by decide) (hts (.fieldLink RX11 45 "StoneWalk" "island" "LStoneWalk$Island;") (List.mem_of_getElem? (i := 1) (by decide +kernel))) rfl (t := 2) rfl (by show va_rf _ = _; rw [hN5]; rfl) dX11_restore_22 ?_
    obtain ⟨z6, h6, h⟩ := ob_some h
    refine k_z (va_runV (As := [.long x1, .ref (ad b5)]) (rest := []) ⟨hx, hb, hml, hown, hts⟩ (c_X1_fromImage (l := l) M b4 x1 b5 kb4 kb5 h6) (cwV 2 hts gX11_restore_X1_fromImage rfl rfl rfl hdV_X1_fromImage ⟨Nat.le_of_ble_eq_true rfl, Nat.le_of_ble_eq_true rfl⟩) (pV (T := TX1) hP hK hD hT hG hS kb4 (by decide) rfl) rfl rfl hl.1 rfl (lv_room (Nat.le_of_ble_eq_true rfl)) dX11_restore_25 ⟨Nat.zero_le _, Nat.zero_le _⟩) hS (fun H locs hz6 hP hD hT hS => ?_)
    refine lv_if_ne (tgt := 37) hx hb dX11_restore_28 rfl (fun c7 => ?_) (fun c7 => ?_)
    · replace h := ite_f c7 h
      refine lv_aload_n hx hb dX11_restore_37 rfl (lv_at hl 0 rfl) ?_
      rcases hN8 : gR z6.2 a0 3 with _ | b8
      · exact absurd (oc_n hN8 h) (by simp)
      replace h := oc_s hN8 h
      have kb8 := hT.f k0 (k := 3) (t := 1) (n := 0) rfl hN8
      refine r_get (T := TX11) (v := .ref (ad b8)) hx hb hts in11 hown hK hP k0 (by decide) rfl 3 (by decide) (hts (.fieldLink RX11 35 "StoneWalk" "journey" "LStoneWalk$Journey;") (List.mem_of_getElem? (i := 3) (by decide +kernel))) rfl (t := 2) rfl (by show va_rf _ = _; rw [hN8]; rfl) dX11_restore_38 ?_
      refine lv_astore_n (lv' := [(3, .ref (ad b8)), (0, .ref (ad a0)), (1, .long x1)]) hx hb dX11_restore_41 rfl hl (by decide) rfl (fun ls hl => ?_)
      refine lv_aload_n hx hb dX11_restore_42 rfl (lv_at hl 1 rfl) ?_
      refine lv_aload_n hx hb dX11_restore_43 rfl (lv_at hl 1 rfl) ?_
      rcases hN9 : gR z6.2 a0 4 with _ | b9
      · exact absurd (oc_n hN9 h) (by simp)
      replace h := oc_s hN9 h
      have kb9 := hT.f k0 (k := 4) (t := 1) (n := 0) rfl hN9
      refine r_get (T := TX11) (v := .ref (ad b9)) hx hb hts in11 hown hK hP k0 (by decide) rfl 4 (by decide) (hts (.fieldLink RX11 39 "StoneWalk" "scout" "LStoneWalk$Journey;") (List.mem_of_getElem? (i := 2) (by decide +kernel))) rfl (t := 2) rfl (by show va_rf _ = _; rw [hN9]; rfl) dX11_restore_44 ?_
      refine r_putR (T := TX11) (v := b9) hx hb hts in11 tyX11 tyX11_ok nmX11 hown hK hP hD hT hS k0 (by decide) rfl 3 (by decide) (hts (.fieldLink RX11 35 "StoneWalk" "journey" "LStoneWalk$Journey;") (List.mem_of_getElem? (i := 3) (by decide +kernel))) rfl rfl (tyX11_ok 3 (by decide)) rfl (fun t n ht => by cases ht; exact kb9) rfl dX11_restore_47 (fun H locs hP hD hT hS => ?_)
      refine lv_aload_n hx hb dX11_restore_50 rfl (lv_at hl 1 rfl) ?_
      refine lv_aload_n hx hb dX11_restore_51 rfl (lv_at hl 0 rfl) ?_
      refine r_putR (T := TX11) (v := b8) hx hb hts in11 tyX11 tyX11_ok nmX11 hown hK hP hD hT hS k0 (by decide) rfl 4 (by decide) (hts (.fieldLink RX11 39 "StoneWalk" "scout" "LStoneWalk$Journey;") (List.mem_of_getElem? (i := 2) (by decide +kernel))) rfl rfl (tyX11_ok 4 (by decide)) rfl (fun t n ht => by cases ht; exact kb8) rfl dX11_restore_52 (fun H locs hP hD hT hS => ?_)
      refine lv_aload_n hx hb dX11_restore_55 rfl (lv_at hl 1 rfl) ?_
      obtain ⟨z10, h10, h⟩ := ob_some h
      refine k_z (va_runV (As := []) (rest := []) ⟨hx, hb, hml, hown, hts⟩ (c_X11_allowed (l := l) (pR (pR z6.2 a0 3 (some b9)) a0 4 (some b8)) a0 k0 h10) (cwV 0 hts gX11_restore_X11_allowed rfl rfl rfl hdV_X11_allowed ⟨Nat.le_of_ble_eq_true rfl, Nat.le_of_ble_eq_true rfl⟩) (pV (T := TX11) hP hK hD hT hG hS k0 (by decide) rfl) rfl rfl hl.1 rfl (lv_room (Nat.le_of_ble_eq_true rfl)) dX11_restore_56 ⟨Nat.zero_le _, Nat.zero_le _⟩) hS (fun H locs hz10 hP hD hT hS => ?_)
      have hZ := Option.some.inj h
      have hZ1 := congrArg Prod.fst hZ
      have hZ2 := congrArg Prod.snd hZ
      exact r_zret hx hb hr hlocks hP hK hD hT hG hS hz10 hZ1 hZ2 dX11_restore_59
    · replace h := ite_t c7 h
      refine lv_aload_n hx hb dX11_restore_31 rfl (lv_at hl 0 rfl) ?_
      refine lv_iconst (v := 2) hx hb dX11_restore_32 rfl ?_
      obtain ⟨z11, h11, h⟩ := ob_some h
      refine k_z (va_runV (As := [.int 2]) (rest := []) ⟨hx, hb, hml, hown, hts⟩ (c_X11_denied (l := l) z6.2 a0 2 k0 h11) (cwV 1 hts gX11_restore_X11_denied rfl rfl rfl hdV_X11_denied ⟨Nat.le_of_ble_eq_true rfl, Nat.le_of_ble_eq_true rfl⟩) (pV (T := TX11) hP hK hD hT hG hS k0 (by decide) rfl) rfl rfl hl.1 rfl (lv_room (Nat.le_of_ble_eq_true rfl)) dX11_restore_33 ⟨Nat.zero_le _, Nat.zero_le _⟩) hS (fun H locs hz11 hP hD hT hS => ?_)
      have hZ := Option.some.inj h
      have hZ1 := congrArg Prod.fst hZ
      have hZ2 := congrArg Prod.snd hZ
      exact r_zret hx hb hr hlocks hP hK hD hT hG hS hz11 hZ1 hZ2 dX11_restore_36
  · replace h := ite_f c3 h
    refine lv_aload_n hx hb dX11_restore_10 rfl (lv_at hl 0 rfl) ?_
    refine lv_iconst (v := 1) hx hb dX11_restore_11 rfl ?_
    obtain ⟨z12, h12, h⟩ := ob_some h
    refine k_z (va_runV (As := [.int 1]) (rest := []) ⟨hx, hb, hml, hown, hts⟩ (c_X11_denied (l := l) M a0 1 k0 h12) (cwV 1 hts gX11_restore_X11_denied rfl rfl rfl hdV_X11_denied ⟨Nat.le_of_ble_eq_true rfl, Nat.le_of_ble_eq_true rfl⟩) (pV (T := TX11) hP hK hD hT hG hS k0 (by decide) rfl) rfl rfl hl.1 rfl (lv_room (Nat.le_of_ble_eq_true rfl)) dX11_restore_12 ⟨Nat.zero_le _, Nat.zero_le _⟩) hS (fun H locs hz12 hP hD hT hS => ?_)
    have hZ := Option.some.inj h
    have hZ1 := congrArg Prod.fst hZ
    have hZ2 := congrArg Prod.snd hZ
    exact r_zret hx hb hr hlocks hP hK hD hT hG hS hz12 hZ1 hZ2 dX11_restore_15
set_option maxHeartbeats 4000000 in
set_option maxRecDepth 100000 in
theorem c_X11_odds {l : Launch} {D : va_G} {ad : Nat → Nat} {cy : Nat → ClassId} {A : Nat → Prop} {g : CG} {q : SE} (M : MM) (a0 : Nat) (x1 : Int32) (k0 : ok g a0 11 0) {Z : (Int64 × MM)} (h : f_X11_odds M a0 x1 = some Z) : Met l yX11_odds wsX11_odds ({ frames := 6, cells := 0, slots := 0, locals := 141 }) (va_Pc [.ref (ad a0), .int x1] (Wd D ad cy A g q M)) (va_Ql (fun r u => r = Z.1 ∧ u = Z.2) (Wd D ad cy A g q) A) 0 0 A := by
  refine Met.ofW (cc := cX11_odds) (maxL := 2) (ret := (some .long)) (by decide) rfl ?_
  intro p e s m args below meth c s₁ B hml hv
  obtain ⟨rfl, hP, hK, hD, hT, hG⟩ := hv
  have hx := B.exec
  have hb := B.bytes
  have hr := B.returns
  have hts := atoms_spec (ws := wsX11_odds) B.pre
  have hown : s.vm.findClass RX11 = some m.cls := findClass_of_methodNamed B.named
  have hlocks := B.notSynchronized
  have in11 : ∀ w ∈ u_ws RX11 TX11 8, w ∈ wsX11_odds := fun w h => List.mem_cons_of_mem _ (List.mem_append_left _ (List.mem_append_left _ (List.mem_append_left _ (List.mem_append_left _ (List.mem_append_left _ (List.mem_append_right _ h))))))
  have hS : va_S A s.heap s.heap [] := va_S.rf
  have hl := lv_entry ([.ref (ad a0), .int x1]) (n := 2) (Nat.le_of_ble_eq_true rfl)
  rw [lg_entry_eq]
  generalize (lg_sl ([.ref (ad a0), .int x1]) ++ List.replicate (2 - (lg_sl ([.ref (ad a0), .int x1])).length) Slot.unset).toArray = ls at hl ⊢
  have hl : lv_has ls 2 [(0, .ref (ad a0)), (1, .int x1)] := hl
  unfold f_X11_odds at h
  refine lv_aload_n hx hb dX11_odds_0 rfl (lv_at hl 0 rfl) ?_
  rcases hN1 : gR M a0 5 with _ | b1
  · exact absurd (oc_n hN1 h) (by simp)
  replace h := oc_s hN1 h
  have kb1 := hT.f k0 (k := 5) (t := 0) (n := 0) rfl hN1
  refine r_get (T := TX11) (v := .ref (ad b1)) hx hb hts in11 hown hK hP k0 (by decide) rfl 5 (by decide) (hts (.fieldLink RX11 45 "StoneWalk" "island" "LStoneWalk$Island;") (List.mem_of_getElem? (i := 1) (by decide +kernel))) rfl (t := 2) rfl (by show va_rf _ = _; rw [hN1]; rfl) dX11_odds_1 ?_
  obtain ⟨z2, h2, h⟩ := ob_some h
  refine k_z (va_runV (As := []) (rest := []) ⟨hx, hb, hml, hown, hts⟩ (c_X0_isBare (l := l) M b1 kb1 h2) (cwV 0 hts gX11_odds_X0_isBare rfl rfl rfl hdV_X0_isBare ⟨Nat.le_of_ble_eq_true rfl, Nat.le_of_ble_eq_true rfl⟩) (pV (T := TX0) hP hK hD hT hG hS kb1 (by decide) rfl) rfl rfl hl.1 rfl (lv_room (Nat.le_of_ble_eq_true rfl)) dX11_odds_4 ⟨Nat.zero_le _, Nat.zero_le _⟩) hS (fun H locs hz2 hP hD hT hS => ?_)
  refine lv_if_ne (tgt := 27) hx hb dX11_odds_7 rfl (fun c3 => ?_) (fun c3 => ?_)
  · replace h := ite_f c3 h
    refine lv_aload_n hx hb dX11_odds_27 rfl (lv_at hl 0 rfl) ?_
    refine lv_iconst (v := 1) hx hb dX11_odds_28 rfl ?_
    obtain ⟨z4, h4, h⟩ := ob_some h
    refine k_i (va_runV (As := [.int 1]) (rest := []) ⟨hx, hb, hml, hown, hts⟩ (c_X11_refused (l := l) M a0 1 k0 h4) (cwV 1 hts gX11_odds_X11_refused rfl rfl rfl hdV_X11_refused ⟨Nat.le_of_ble_eq_true rfl, Nat.le_of_ble_eq_true rfl⟩) (pV (T := TX11) hP hK hD hT hG hS k0 (by decide) rfl) rfl rfl hl.1 rfl (lv_room (Nat.le_of_ble_eq_true rfl)) dX11_odds_29 ⟨Nat.zero_le _, Nat.zero_le _⟩) hS (fun H locs hP hD hT hS => ?_)
    refine lv_i2l hx hb dX11_odds_32 rfl ?_
    have hZ := Option.some.inj h
    have hZ1 := congrArg Prod.fst hZ
    have hZ2 := congrArg Prod.snd hZ
    exact r_lret hx hb hr hlocks hP hK hD hT hG hS hZ1 hZ2 dX11_odds_33
  · replace h := ite_t c3 h
    refine lv_iload_n hx hb dX11_odds_10 rfl (lv_at hl 1 rfl) ?_
    refine lv_iconst (v := (-1)) hx hb dX11_odds_11 rfl ?_
    refine lv_icmp_eq (tgt := 34) hx hb dX11_odds_12 rfl (fun c5 => ?_) (fun c5 => ?_)
    · replace h := ite_t c5 h
      refine lv_aload_n hx hb dX11_odds_34 rfl (lv_at hl 0 rfl) ?_
      refine lv_iconst (v := 0) hx hb dX11_odds_35 rfl ?_
      refine r_putI (T := TX11) (ty := .int) (v := 0) hx hb hts in11 tyX11 tyX11_ok nmX11 hown hK hP hD hT hS k0 (by decide) rfl 7 (by decide) (hts (.fieldLink RX11 52 "StoneWalk" "trouble" "I") (List.mem_of_getElem? (i := 2) (by decide +kernel))) rfl rfl (tyX11_ok 7 (by decide)) rfl rfl rfl dX11_odds_36 (fun H locs hP hD hT hS => ?_)
      refine lv_iload_n hx hb dX11_odds_39 rfl (lv_at hl 1 rfl) ?_
      refine lv_iconst (v := (-1)) hx hb dX11_odds_40 rfl ?_
      refine lv_icmp_ne (tgt := 54) hx hb dX11_odds_41 rfl (fun c6 => ?_) (fun c6 => ?_)
      · replace h := ite_f c6 h
        refine lv_aload_n hx hb dX11_odds_54 rfl (lv_at hl 0 rfl) ?_
        rcases hN7 : gR (pI M a0 7 0) a0 5 with _ | b7
        · exact absurd (oc_n hN7 h) (by simp)
        replace h := oc_s hN7 h
        have kb7 := hT.f k0 (k := 5) (t := 0) (n := 0) rfl hN7
        refine r_get (T := TX11) (v := .ref (ad b7)) hx hb hts in11 hown hK hP k0 (by decide) rfl 5 (by decide) (hts (.fieldLink RX11 45 "StoneWalk" "island" "LStoneWalk$Island;") (List.mem_of_getElem? (i := 1) (by decide +kernel))) rfl (t := 2) rfl (by show va_rf _ = _; rw [hN7]; rfl) dX11_odds_55 ?_
        refine lv_iload_n hx hb dX11_odds_58 rfl (lv_at hl 1 rfl) ?_
        refine lv_iconst (v := (-1)) hx hb dX11_odds_59 rfl ?_
        obtain ⟨z8, h8, h⟩ := ob_some h
        refine k_l (va_runV (As := [.int x1, .int (-1)]) (rest := []) ⟨hx, hb, hml, hown, hts⟩ (c_X0_oddsOf (l := l) (pI M a0 7 0) b7 x1 (-1) kb7 h8) (cwV 2 hts gX11_odds_X0_oddsOf rfl rfl rfl hdV_X0_oddsOf ⟨Nat.le_of_ble_eq_true rfl, Nat.le_of_ble_eq_true rfl⟩) (pV (T := TX0) hP hK hD hT hG hS kb7 (by decide) rfl) rfl rfl hl.1 rfl (lv_room (Nat.le_of_ble_eq_true rfl)) dX11_odds_60 ⟨Nat.zero_le _, Nat.zero_le _⟩) hS (fun H locs hP hD hT hS => ?_)
        have hZ := Option.some.inj h
        have hZ1 := congrArg Prod.fst hZ
        have hZ2 := congrArg Prod.snd hZ
        exact r_lret hx hb hr hlocks hP hK hD hT hG hS hZ1 hZ2 dX11_odds_63
      · replace h := ite_t c6 h
        refine lv_aload_n hx hb dX11_odds_44 rfl (lv_at hl 0 rfl) ?_
        rcases hN9 : gR (pI M a0 7 0) a0 5 with _ | b9
        · exact absurd (oc_n hN9 h) (by simp)
        replace h := oc_s hN9 h
        have kb9 := hT.f k0 (k := 5) (t := 0) (n := 0) rfl hN9
        refine r_get (T := TX11) (v := .ref (ad b9)) hx hb hts in11 hown hK hP k0 (by decide) rfl 5 (by decide) (hts (.fieldLink RX11 45 "StoneWalk" "island" "LStoneWalk$Island;") (List.mem_of_getElem? (i := 1) (by decide +kernel))) rfl (t := 2) rfl (by show va_rf _ = _; rw [hN9]; rfl) dX11_odds_45 ?_
        obtain ⟨z10, h10, h⟩ := ob_some h
        refine k_l (va_runV (As := []) (rest := []) ⟨hx, hb, hml, hown, hts⟩ (c_X0_oddsOfAll (l := l) (pI M a0 7 0) b9 kb9 h10) (cwV 0 hts gX11_odds_X0_oddsOfAll rfl rfl rfl hdV_X0_oddsOfAll ⟨Nat.le_of_ble_eq_true rfl, Nat.le_of_ble_eq_true rfl⟩) (pV (T := TX0) hP hK hD hT hG hS kb9 (by decide) rfl) rfl rfl hl.1 rfl (lv_room (Nat.le_of_ble_eq_true rfl)) dX11_odds_48 ⟨Nat.zero_le _, Nat.zero_le _⟩) hS (fun H locs hP hD hT hS => ?_)
        refine lv_goto (tgt := 63) hx hb dX11_odds_51 rfl ?_
        have hZ := Option.some.inj h
        have hZ1 := congrArg Prod.fst hZ
        have hZ2 := congrArg Prod.snd hZ
        exact r_lret hx hb hr hlocks hP hK hD hT hG hS hZ1 hZ2 dX11_odds_63
    · replace h := ite_f c5 h
      refine lv_aload_n hx hb dX11_odds_15 rfl (lv_at hl 0 rfl) ?_
      rcases hN11 : gR M a0 5 with _ | b11
      · exact absurd (oc_n hN11 h) (by simp)
      replace h := oc_s hN11 h
      have kb11 := hT.f k0 (k := 5) (t := 0) (n := 0) rfl hN11
      refine r_get (T := TX11) (v := .ref (ad b11)) hx hb hts in11 hown hK hP k0 (by decide) rfl 5 (by decide) (hts (.fieldLink RX11 45 "StoneWalk" "island" "LStoneWalk$Island;") (List.mem_of_getElem? (i := 1) (by decide +kernel))) rfl (t := 2) rfl (by show va_rf _ = _; rw [hN11]; rfl) dX11_odds_16 ?_
      refine lv_iconst (v := 0) hx hb dX11_odds_19 rfl ?_
      refine lv_iload_n hx hb dX11_odds_20 rfl (lv_at hl 1 rfl) ?_
      obtain ⟨z12, h12, h⟩ := ob_some h
      refine k_z (va_runV (As := [.int 0, .int x1]) (rest := []) ⟨hx, hb, hml, hown, hts⟩ (c_X0_has (l := l) M b11 0 x1 kb11 h12) (cwV 2 hts gX11_odds_X0_has rfl rfl rfl hdV_X0_has ⟨Nat.le_of_ble_eq_true rfl, Nat.le_of_ble_eq_true rfl⟩) (pV (T := TX0) hP hK hD hT hG hS kb11 (by decide) rfl) rfl rfl hl.1 rfl (lv_room (Nat.le_of_ble_eq_true rfl)) dX11_odds_21 ⟨Nat.zero_le _, Nat.zero_le _⟩) hS (fun H locs hz12 hP hD hT hS => ?_)
      refine lv_if_ne (tgt := 34) hx hb dX11_odds_24 rfl (fun c13 => ?_) (fun c13 => ?_)
      · replace h := ite_f c13 h
        refine lv_aload_n hx hb dX11_odds_34 rfl (lv_at hl 0 rfl) ?_
        refine lv_iconst (v := 0) hx hb dX11_odds_35 rfl ?_
        refine r_putI (T := TX11) (ty := .int) (v := 0) hx hb hts in11 tyX11 tyX11_ok nmX11 hown hK hP hD hT hS k0 (by decide) rfl 7 (by decide) (hts (.fieldLink RX11 52 "StoneWalk" "trouble" "I") (List.mem_of_getElem? (i := 2) (by decide +kernel))) rfl rfl (tyX11_ok 7 (by decide)) rfl rfl rfl dX11_odds_36 (fun H locs hP hD hT hS => ?_)
        refine lv_iload_n hx hb dX11_odds_39 rfl (lv_at hl 1 rfl) ?_
        refine lv_iconst (v := (-1)) hx hb dX11_odds_40 rfl ?_
        refine lv_icmp_ne (tgt := 54) hx hb dX11_odds_41 rfl (fun c14 => ?_) (fun c14 => ?_)
        · replace h := ite_f c14 h
          refine lv_aload_n hx hb dX11_odds_54 rfl (lv_at hl 0 rfl) ?_
          rcases hN15 : gR (pI M a0 7 0) a0 5 with _ | b15
          · exact absurd (oc_n hN15 h) (by simp)
          replace h := oc_s hN15 h
          have kb15 := hT.f k0 (k := 5) (t := 0) (n := 0) rfl hN15
          refine r_get (T := TX11) (v := .ref (ad b15)) hx hb hts in11 hown hK hP k0 (by decide) rfl 5 (by decide) (hts (.fieldLink RX11 45 "StoneWalk" "island" "LStoneWalk$Island;") (List.mem_of_getElem? (i := 1) (by decide +kernel))) rfl (t := 2) rfl (by show va_rf _ = _; rw [hN15]; rfl) dX11_odds_55 ?_
          refine lv_iload_n hx hb dX11_odds_58 rfl (lv_at hl 1 rfl) ?_
          refine lv_iconst (v := (-1)) hx hb dX11_odds_59 rfl ?_
          obtain ⟨z16, h16, h⟩ := ob_some h
          refine k_l (va_runV (As := [.int x1, .int (-1)]) (rest := []) ⟨hx, hb, hml, hown, hts⟩ (c_X0_oddsOf (l := l) (pI M a0 7 0) b15 x1 (-1) kb15 h16) (cwV 2 hts gX11_odds_X0_oddsOf rfl rfl rfl hdV_X0_oddsOf ⟨Nat.le_of_ble_eq_true rfl, Nat.le_of_ble_eq_true rfl⟩) (pV (T := TX0) hP hK hD hT hG hS kb15 (by decide) rfl) rfl rfl hl.1 rfl (lv_room (Nat.le_of_ble_eq_true rfl)) dX11_odds_60 ⟨Nat.zero_le _, Nat.zero_le _⟩) hS (fun H locs hP hD hT hS => ?_)
          have hZ := Option.some.inj h
          have hZ1 := congrArg Prod.fst hZ
          have hZ2 := congrArg Prod.snd hZ
          exact r_lret hx hb hr hlocks hP hK hD hT hG hS hZ1 hZ2 dX11_odds_63
        · replace h := ite_t c14 h
          refine lv_aload_n hx hb dX11_odds_44 rfl (lv_at hl 0 rfl) ?_
          rcases hN17 : gR (pI M a0 7 0) a0 5 with _ | b17
          · exact absurd (oc_n hN17 h) (by simp)
          replace h := oc_s hN17 h
          have kb17 := hT.f k0 (k := 5) (t := 0) (n := 0) rfl hN17
          refine r_get (T := TX11) (v := .ref (ad b17)) hx hb hts in11 hown hK hP k0 (by decide) rfl 5 (by decide) (hts (.fieldLink RX11 45 "StoneWalk" "island" "LStoneWalk$Island;") (List.mem_of_getElem? (i := 1) (by decide +kernel))) rfl (t := 2) rfl (by show va_rf _ = _; rw [hN17]; rfl) dX11_odds_45 ?_
          obtain ⟨z18, h18, h⟩ := ob_some h
          refine k_l (va_runV (As := []) (rest := []) ⟨hx, hb, hml, hown, hts⟩ (c_X0_oddsOfAll (l := l) (pI M a0 7 0) b17 kb17 h18) (cwV 0 hts gX11_odds_X0_oddsOfAll rfl rfl rfl hdV_X0_oddsOfAll ⟨Nat.le_of_ble_eq_true rfl, Nat.le_of_ble_eq_true rfl⟩) (pV (T := TX0) hP hK hD hT hG hS kb17 (by decide) rfl) rfl rfl hl.1 rfl (lv_room (Nat.le_of_ble_eq_true rfl)) dX11_odds_48 ⟨Nat.zero_le _, Nat.zero_le _⟩) hS (fun H locs hP hD hT hS => ?_)
          refine lv_goto (tgt := 63) hx hb dX11_odds_51 rfl ?_
          have hZ := Option.some.inj h
          have hZ1 := congrArg Prod.fst hZ
          have hZ2 := congrArg Prod.snd hZ
          exact r_lret hx hb hr hlocks hP hK hD hT hG hS hZ1 hZ2 dX11_odds_63
      · replace h := ite_t c13 h
        refine lv_aload_n hx hb dX11_odds_27 rfl (lv_at hl 0 rfl) ?_
        refine lv_iconst (v := 1) hx hb dX11_odds_28 rfl ?_
        obtain ⟨z19, h19, h⟩ := ob_some h
        refine k_i (va_runV (As := [.int 1]) (rest := []) ⟨hx, hb, hml, hown, hts⟩ (c_X11_refused (l := l) M a0 1 k0 h19) (cwV 1 hts gX11_odds_X11_refused rfl rfl rfl hdV_X11_refused ⟨Nat.le_of_ble_eq_true rfl, Nat.le_of_ble_eq_true rfl⟩) (pV (T := TX11) hP hK hD hT hG hS k0 (by decide) rfl) rfl rfl hl.1 rfl (lv_room (Nat.le_of_ble_eq_true rfl)) dX11_odds_29 ⟨Nat.zero_le _, Nat.zero_le _⟩) hS (fun H locs hP hD hT hS => ?_)
        refine lv_i2l hx hb dX11_odds_32 rfl ?_
        have hZ := Option.some.inj h
        have hZ1 := congrArg Prod.fst hZ
        have hZ2 := congrArg Prod.snd hZ
        exact r_lret hx hb hr hlocks hP hK hD hT hG hS hZ1 hZ2 dX11_odds_33
set_option maxHeartbeats 4000000 in
set_option maxRecDepth 100000 in
theorem c_X11_likeliest {l : Launch} {D : va_G} {ad : Nat → Nat} {cy : Nat → ClassId} {A : Nat → Prop} {g : CG} {q : SE} (M : MM) (a0 : Nat) (k0 : ok g a0 11 0) {Z : (Int32 × MM)} (h : f_X11_likeliest M a0 = some Z) : Met l yX11_likeliest wsX11_likeliest ({ frames := 6, cells := 0, slots := 0, locals := 145 }) (va_Pc [.ref (ad a0)] (Wd D ad cy A g q M)) (va_Qi (fun r u => r = Z.1 ∧ u = Z.2) (Wd D ad cy A g q) A) 0 0 A := by
  refine Met.ofW (cc := cX11_likeliest) (maxL := 1) (ret := (some .int)) (by decide) rfl ?_
  intro p e s m args below meth c s₁ B hml hv
  obtain ⟨rfl, hP, hK, hD, hT, hG⟩ := hv
  have hx := B.exec
  have hb := B.bytes
  have hr := B.returns
  have hts := atoms_spec (ws := wsX11_likeliest) B.pre
  have hown : s.vm.findClass RX11 = some m.cls := findClass_of_methodNamed B.named
  have hlocks := B.notSynchronized
  have in11 : ∀ w ∈ u_ws RX11 TX11 8, w ∈ wsX11_likeliest := fun w h => List.mem_cons_of_mem _ (List.mem_append_left _ (List.mem_append_left _ (List.mem_append_left _ (List.mem_append_left _ (List.mem_append_left _ (List.mem_append_right _ h))))))
  have hS : va_S A s.heap s.heap [] := va_S.rf
  have hl := lv_entry ([.ref (ad a0)]) (n := 1) (Nat.le_of_ble_eq_true rfl)
  rw [lg_entry_eq]
  generalize (lg_sl ([.ref (ad a0)]) ++ List.replicate (1 - (lg_sl ([.ref (ad a0)])).length) Slot.unset).toArray = ls at hl ⊢
  have hl : lv_has ls 1 [(0, .ref (ad a0))] := hl
  unfold f_X11_likeliest at h
  refine lv_aload_n hx hb dX11_likeliest_0 rfl (lv_at hl 0 rfl) ?_
  rcases hN1 : gR M a0 5 with _ | b1
  · exact absurd (oc_n hN1 h) (by simp)
  replace h := oc_s hN1 h
  have kb1 := hT.f k0 (k := 5) (t := 0) (n := 0) rfl hN1
  refine r_get (T := TX11) (v := .ref (ad b1)) hx hb hts in11 hown hK hP k0 (by decide) rfl 5 (by decide) (hts (.fieldLink RX11 45 "StoneWalk" "island" "LStoneWalk$Island;") (List.mem_of_getElem? (i := 1) (by decide +kernel))) rfl (t := 2) rfl (by show va_rf _ = _; rw [hN1]; rfl) dX11_likeliest_1 ?_
  obtain ⟨z2, h2, h⟩ := ob_some h
  refine k_z (va_runV (As := []) (rest := []) ⟨hx, hb, hml, hown, hts⟩ (c_X0_isBare (l := l) M b1 kb1 h2) (cwV 0 hts gX11_likeliest_X0_isBare rfl rfl rfl hdV_X0_isBare ⟨Nat.le_of_ble_eq_true rfl, Nat.le_of_ble_eq_true rfl⟩) (pV (T := TX0) hP hK hD hT hG hS kb1 (by decide) rfl) rfl rfl hl.1 rfl (lv_room (Nat.le_of_ble_eq_true rfl)) dX11_likeliest_4 ⟨Nat.zero_le _, Nat.zero_le _⟩) hS (fun H locs hz2 hP hD hT hS => ?_)
  refine lv_if_eq (tgt := 16) hx hb dX11_likeliest_7 rfl (fun c3 => ?_) (fun c3 => ?_)
  · replace h := ite_t c3 h
    refine lv_aload_n hx hb dX11_likeliest_16 rfl (lv_at hl 0 rfl) ?_
    refine lv_aload_n hx hb dX11_likeliest_17 rfl (lv_at hl 0 rfl) ?_
    rcases hN4 : gR M a0 5 with _ | b4
    · exact absurd (oc_n hN4 h) (by simp)
    replace h := oc_s hN4 h
    have kb4 := hT.f k0 (k := 5) (t := 0) (n := 0) rfl hN4
    refine r_get (T := TX11) (v := .ref (ad b4)) hx hb hts in11 hown hK hP k0 (by decide) rfl 5 (by decide) (hts (.fieldLink RX11 45 "StoneWalk" "island" "LStoneWalk$Island;") (List.mem_of_getElem? (i := 1) (by decide +kernel))) rfl (t := 2) rfl (by show va_rf _ = _; rw [hN4]; rfl) dX11_likeliest_18 ?_
    refine lv_iconst (v := (-1)) hx hb dX11_likeliest_21 rfl ?_
    obtain ⟨z5, h5, h⟩ := ob_some h
    refine k_i (va_runV (As := [.int (-1)]) (rest := [.ref (ad a0)]) ⟨hx, hb, hml, hown, hts⟩ (c_X0_likeliestWay (l := l) M b4 (-1) kb4 h5) (cwV 1 hts gX11_likeliest_X0_likeliestWay rfl rfl rfl hdV_X0_likeliestWay ⟨Nat.le_of_ble_eq_true rfl, Nat.le_of_ble_eq_true rfl⟩) (pV (T := TX0) hP hK hD hT hG hS kb4 (by decide) rfl) rfl rfl hl.1 rfl (lv_room (Nat.le_of_ble_eq_true rfl)) dX11_likeliest_22 ⟨Nat.zero_le _, Nat.zero_le _⟩) hS (fun H locs hP hD hT hS => ?_)
    obtain ⟨z6, h6, h⟩ := ob_some h
    refine k_i (va_runV (As := [.int z5]) (rest := []) ⟨hx, hb, hml, hown, hts⟩ (c_X11_granted (l := l) M a0 z5 k0 h6) (cwV 1 hts gX11_likeliest_X11_granted rfl rfl rfl hdV_X11_granted ⟨Nat.le_of_ble_eq_true rfl, Nat.le_of_ble_eq_true rfl⟩) (pV (T := TX11) hP hK hD hT hG hS k0 (by decide) rfl) rfl rfl hl.1 rfl (lv_room (Nat.le_of_ble_eq_true rfl)) dX11_likeliest_25 ⟨Nat.zero_le _, Nat.zero_le _⟩) hS (fun H locs hP hD hT hS => ?_)
    have hZ := Option.some.inj h
    have hZ1 := congrArg Prod.fst hZ
    have hZ2 := congrArg Prod.snd hZ
    exact r_iret hx hb hr hlocks hP hK hD hT hG hS hZ1 hZ2 dX11_likeliest_28
  · replace h := ite_f c3 h
    refine lv_aload_n hx hb dX11_likeliest_10 rfl (lv_at hl 0 rfl) ?_
    refine lv_iconst (v := 1) hx hb dX11_likeliest_11 rfl ?_
    obtain ⟨z7, h7, h⟩ := ob_some h
    refine k_i (va_runV (As := [.int 1]) (rest := []) ⟨hx, hb, hml, hown, hts⟩ (c_X11_refused (l := l) M a0 1 k0 h7) (cwV 1 hts gX11_likeliest_X11_refused rfl rfl rfl hdV_X11_refused ⟨Nat.le_of_ble_eq_true rfl, Nat.le_of_ble_eq_true rfl⟩) (pV (T := TX11) hP hK hD hT hG hS k0 (by decide) rfl) rfl rfl hl.1 rfl (lv_room (Nat.le_of_ble_eq_true rfl)) dX11_likeliest_12 ⟨Nat.zero_le _, Nat.zero_le _⟩) hS (fun H locs hP hD hT hS => ?_)
    have hZ := Option.some.inj h
    have hZ1 := congrArg Prod.fst hZ
    have hZ2 := congrArg Prod.snd hZ
    exact r_iret hx hb hr hlocks hP hK hD hT hG hS hZ1 hZ2 dX11_likeliest_15
set_option maxHeartbeats 4000000 in
set_option maxRecDepth 100000 in
theorem c_X11_lies {l : Launch} {D : va_G} {ad : Nat → Nat} {cy : Nat → ClassId} {A : Nat → Prop} {g : CG} {q : SE} (M : MM) (a0 : Nat) (x1 : Int32) (x2 : Int32) (k0 : ok g a0 11 0) {Z : (Int32 × MM)} (h : f_X11_lies M a0 x1 x2 = some Z) : Met l yX11_lies wsX11_lies ({ frames := 2, cells := 0, slots := 0, locals := 44 }) (va_Pc [.ref (ad a0), .int x1, .int x2] (Wd D ad cy A g q M)) (va_Qi (fun r u => r = Z.1 ∧ u = Z.2) (Wd D ad cy A g q) A) 0 0 A := by
  refine Met.ofW (cc := cX11_lies) (maxL := 5) (ret := (some .int)) (by decide) rfl ?_
  intro p e s m args below meth c s₁ B hml hv
  obtain ⟨rfl, hP, hK, hD, hT, hG⟩ := hv
  have hx := B.exec
  have hb := B.bytes
  have hr := B.returns
  have hts := atoms_spec (ws := wsX11_lies) B.pre
  have hown : s.vm.findClass RX11 = some m.cls := findClass_of_methodNamed B.named
  have hlocks := B.notSynchronized
  have in5 : ∀ w ∈ u_ws RX5 TX5 8, w ∈ wsX11_lies := fun w h => List.mem_cons_of_mem _ (List.mem_append_left _ (List.mem_append_left _ (List.mem_append_right _ h)))
  have in11 : ∀ w ∈ u_ws RX11 TX11 8, w ∈ wsX11_lies := fun w h => List.mem_cons_of_mem _ (List.mem_append_left _ (List.mem_append_left _ (List.mem_append_left _ (List.mem_append_right _ h))))
  have hS : va_S A s.heap s.heap [] := va_S.rf
  have hl := lv_entry ([.ref (ad a0), .int x1, .int x2]) (n := 5) (Nat.le_of_ble_eq_true rfl)
  rw [lg_entry_eq]
  generalize (lg_sl ([.ref (ad a0), .int x1, .int x2]) ++ List.replicate (5 - (lg_sl ([.ref (ad a0), .int x1, .int x2])).length) Slot.unset).toArray = ls at hl ⊢
  have hl : lv_has ls 5 [(0, .ref (ad a0)), (1, .int x1), (2, .int x2)] := hl
  unfold f_X11_lies at h
  refine lv_aload_n hx hb dX11_lies_0 rfl (lv_at hl 0 rfl) ?_
  rcases hN1 : gR M a0 5 with _ | b1
  · exact absurd (oc_n hN1 h) (by simp)
  replace h := oc_s hN1 h
  have kb1 := hT.f k0 (k := 5) (t := 0) (n := 0) rfl hN1
  refine r_get (T := TX11) (v := .ref (ad b1)) hx hb hts in11 hown hK hP k0 (by decide) rfl 5 (by decide) (hts (.fieldLink RX11 45 "StoneWalk" "island" "LStoneWalk$Island;") (List.mem_of_getElem? (i := 1) (by decide +kernel))) rfl (t := 2) rfl (by show va_rf _ = _; rw [hN1]; rfl) dX11_lies_1 ?_
  refine lv_iload_n hx hb dX11_lies_4 rfl (lv_at hl 1 rfl) ?_
  obtain ⟨z2, h2, h⟩ := ob_some h
  refine k_q (va_runV (As := [.int x1]) (rest := []) ⟨hx, hb, hml, hown, hts⟩ (c_X0_wayAt (l := l) M b1 x1 kb1 h2) (cwV 1 hts gX11_lies_X0_wayAt rfl rfl rfl hdV_X0_wayAt ⟨Nat.le_of_ble_eq_true rfl, Nat.le_of_ble_eq_true rfl⟩) (pV (T := TX0) hP hK hD hT hG hS kb1 (by decide) rfl) rfl rfl hl.1 rfl (lv_room (Nat.le_of_ble_eq_true rfl)) dX11_lies_5 ⟨Nat.zero_le _, Nat.zero_le _⟩) hS (fun H locs hq2 hP hD hT hS => ?_)
  rcases hN2 : z2 with _ | b2
  · replace h := oc_n hN2 h
    show W _ _ _ _ _ _ _ _ _ _ _ _ _ _ _ (F0 _ _ _ (.null :: []))
    refine lv_astore_nN (lv' := [(3, .null), (0, .ref (ad a0)), (1, .int x1), (2, .int x2)]) hx hb dX11_lies_8 rfl hl (by decide) rfl (fun ls hl => ?_)
    refine lv_aload_n hx hb dX11_lies_9 rfl (lv_at hl 1 rfl) ?_
    rcases hN3 : gR M a0 5 with _ | b3
    · exact absurd (oc_n hN3 h) (by simp)
    replace h := oc_s hN3 h
    have kb3 := hT.f k0 (k := 5) (t := 0) (n := 0) rfl hN3
    refine r_get (T := TX11) (v := .ref (ad b3)) hx hb hts in11 hown hK hP k0 (by decide) rfl 5 (by decide) (hts (.fieldLink RX11 45 "StoneWalk" "island" "LStoneWalk$Island;") (List.mem_of_getElem? (i := 1) (by decide +kernel))) rfl (t := 2) rfl (by show va_rf _ = _; rw [hN3]; rfl) dX11_lies_10 ?_
    refine lv_iload_n hx hb dX11_lies_13 rfl (lv_at hl 3 rfl) ?_
    obtain ⟨z4, h4, h⟩ := ob_some h
    refine k_q (va_runV (As := [.int x2]) (rest := []) ⟨hx, hb, hml, hown, hts⟩ (c_X0_statueAt (l := l) M b3 x2 kb3 h4) (cwV 1 hts gX11_lies_X0_statueAt rfl rfl rfl hdV_X0_statueAt ⟨Nat.le_of_ble_eq_true rfl, Nat.le_of_ble_eq_true rfl⟩) (pV (T := TX0) hP hK hD hT hG hS kb3 (by decide) rfl) rfl rfl hl.1 rfl (lv_room (Nat.le_of_ble_eq_true rfl)) dX11_lies_14 ⟨Nat.zero_le _, Nat.zero_le _⟩) hS (fun H locs hq4 hP hD hT hS => ?_)
    rcases hN4 : z4 with _ | b4
    · replace h := oc_n hN4 h
      show W _ _ _ _ _ _ _ _ _ _ _ _ _ _ _ (F0 _ _ _ (.null :: []))
      refine lv_astoreN (lv' := [(4, .null), (3, .null), (0, .ref (ad a0)), (1, .int x1), (2, .int x2)]) hx hb dX11_lies_17 hl (by decide) rfl (fun ls hl => ?_)
      refine lv_aload_nN hx hb dX11_lies_19 rfl (lv_at hl 1 rfl) ?_
      refine lv_ifnullN (tgt := 36) hx hb dX11_lies_20 rfl ?_
      refine lv_aload_n hx hb dX11_lies_36 rfl (lv_at hl 2 rfl) ?_
      refine lv_iconst (v := 1) hx hb dX11_lies_37 rfl ?_
      obtain ⟨z5, h5, h⟩ := ob_some h
      refine k_i (va_runV (As := [.int 1]) (rest := []) ⟨hx, hb, hml, hown, hts⟩ (c_X11_refused (l := l) M a0 1 k0 h5) (cwV 1 hts gX11_lies_X11_refused rfl rfl rfl hdV_X11_refused ⟨Nat.le_of_ble_eq_true rfl, Nat.le_of_ble_eq_true rfl⟩) (pV (T := TX11) hP hK hD hT hG hS k0 (by decide) rfl) rfl rfl hl.1 rfl (lv_room (Nat.le_of_ble_eq_true rfl)) dX11_lies_38 ⟨Nat.zero_le _, Nat.zero_le _⟩) hS (fun H locs hP hD hT hS => ?_)
      have hZ := Option.some.inj h
      have hZ1 := congrArg Prod.fst hZ
      have hZ2 := congrArg Prod.snd hZ
      exact r_iret hx hb hr hlocks hP hK hD hT hG hS hZ1 hZ2 dX11_lies_41
    · replace h := oc_s hN4 h
      have kb4 := hq4 _ hN4
      show W _ _ _ _ _ _ _ _ _ _ _ _ _ _ _ (F0 _ _ _ (.ref (ad b4) :: []))
      refine lv_astore (lv' := [(4, .ref (ad b4)), (3, .null), (0, .ref (ad a0)), (1, .int x1), (2, .int x2)]) hx hb dX11_lies_17 hl (by decide) rfl (fun ls hl => ?_)
      refine lv_aload_nN hx hb dX11_lies_19 rfl (lv_at hl 1 rfl) ?_
      refine lv_ifnullN (tgt := 36) hx hb dX11_lies_20 rfl ?_
      refine lv_aload_n hx hb dX11_lies_36 rfl (lv_at hl 2 rfl) ?_
      refine lv_iconst (v := 1) hx hb dX11_lies_37 rfl ?_
      obtain ⟨z6, h6, h⟩ := ob_some h
      refine k_i (va_runV (As := [.int 1]) (rest := []) ⟨hx, hb, hml, hown, hts⟩ (c_X11_refused (l := l) M a0 1 k0 h6) (cwV 1 hts gX11_lies_X11_refused rfl rfl rfl hdV_X11_refused ⟨Nat.le_of_ble_eq_true rfl, Nat.le_of_ble_eq_true rfl⟩) (pV (T := TX11) hP hK hD hT hG hS k0 (by decide) rfl) rfl rfl hl.1 rfl (lv_room (Nat.le_of_ble_eq_true rfl)) dX11_lies_38 ⟨Nat.zero_le _, Nat.zero_le _⟩) hS (fun H locs hP hD hT hS => ?_)
      have hZ := Option.some.inj h
      have hZ1 := congrArg Prod.fst hZ
      have hZ2 := congrArg Prod.snd hZ
      exact r_iret hx hb hr hlocks hP hK hD hT hG hS hZ1 hZ2 dX11_lies_41
  · replace h := oc_s hN2 h
    have kb2 := hq2 _ hN2
    show W _ _ _ _ _ _ _ _ _ _ _ _ _ _ _ (F0 _ _ _ (.ref (ad b2) :: []))
    refine lv_astore_n (lv' := [(3, .ref (ad b2)), (0, .ref (ad a0)), (1, .int x1), (2, .int x2)]) hx hb dX11_lies_8 rfl hl (by decide) rfl (fun ls hl => ?_)
    refine lv_aload_n hx hb dX11_lies_9 rfl (lv_at hl 1 rfl) ?_
    rcases hN7 : gR M a0 5 with _ | b7
    · exact absurd (oc_n hN7 h) (by simp)
    replace h := oc_s hN7 h
    have kb7 := hT.f k0 (k := 5) (t := 0) (n := 0) rfl hN7
    refine r_get (T := TX11) (v := .ref (ad b7)) hx hb hts in11 hown hK hP k0 (by decide) rfl 5 (by decide) (hts (.fieldLink RX11 45 "StoneWalk" "island" "LStoneWalk$Island;") (List.mem_of_getElem? (i := 1) (by decide +kernel))) rfl (t := 2) rfl (by show va_rf _ = _; rw [hN7]; rfl) dX11_lies_10 ?_
    refine lv_iload_n hx hb dX11_lies_13 rfl (lv_at hl 3 rfl) ?_
    obtain ⟨z8, h8, h⟩ := ob_some h
    refine k_q (va_runV (As := [.int x2]) (rest := []) ⟨hx, hb, hml, hown, hts⟩ (c_X0_statueAt (l := l) M b7 x2 kb7 h8) (cwV 1 hts gX11_lies_X0_statueAt rfl rfl rfl hdV_X0_statueAt ⟨Nat.le_of_ble_eq_true rfl, Nat.le_of_ble_eq_true rfl⟩) (pV (T := TX0) hP hK hD hT hG hS kb7 (by decide) rfl) rfl rfl hl.1 rfl (lv_room (Nat.le_of_ble_eq_true rfl)) dX11_lies_14 ⟨Nat.zero_le _, Nat.zero_le _⟩) hS (fun H locs hq8 hP hD hT hS => ?_)
    rcases hN8 : z8 with _ | b8
    · replace h := oc_n hN8 h
      show W _ _ _ _ _ _ _ _ _ _ _ _ _ _ _ (F0 _ _ _ (.null :: []))
      refine lv_astoreN (lv' := [(4, .null), (3, .ref (ad b2)), (0, .ref (ad a0)), (1, .int x1), (2, .int x2)]) hx hb dX11_lies_17 hl (by decide) rfl (fun ls hl => ?_)
      refine lv_aload_n hx hb dX11_lies_19 rfl (lv_at hl 1 rfl) ?_
      refine lv_ifnull hx hb dX11_lies_20 ?_
      refine lv_aloadN hx hb dX11_lies_23 (lv_at hl 0 rfl) ?_
      refine lv_ifnullN (tgt := 36) hx hb dX11_lies_25 rfl ?_
      refine lv_aload_n hx hb dX11_lies_36 rfl (lv_at hl 2 rfl) ?_
      refine lv_iconst (v := 1) hx hb dX11_lies_37 rfl ?_
      obtain ⟨z9, h9, h⟩ := ob_some h
      refine k_i (va_runV (As := [.int 1]) (rest := []) ⟨hx, hb, hml, hown, hts⟩ (c_X11_refused (l := l) M a0 1 k0 h9) (cwV 1 hts gX11_lies_X11_refused rfl rfl rfl hdV_X11_refused ⟨Nat.le_of_ble_eq_true rfl, Nat.le_of_ble_eq_true rfl⟩) (pV (T := TX11) hP hK hD hT hG hS k0 (by decide) rfl) rfl rfl hl.1 rfl (lv_room (Nat.le_of_ble_eq_true rfl)) dX11_lies_38 ⟨Nat.zero_le _, Nat.zero_le _⟩) hS (fun H locs hP hD hT hS => ?_)
      have hZ := Option.some.inj h
      have hZ1 := congrArg Prod.fst hZ
      have hZ2 := congrArg Prod.snd hZ
      exact r_iret hx hb hr hlocks hP hK hD hT hG hS hZ1 hZ2 dX11_lies_41
    · replace h := oc_s hN8 h
      have kb8 := hq8 _ hN8
      show W _ _ _ _ _ _ _ _ _ _ _ _ _ _ _ (F0 _ _ _ (.ref (ad b8) :: []))
      refine lv_astore (lv' := [(4, .ref (ad b8)), (3, .ref (ad b2)), (0, .ref (ad a0)), (1, .int x1), (2, .int x2)]) hx hb dX11_lies_17 hl (by decide) rfl (fun ls hl => ?_)
      refine lv_aload_n hx hb dX11_lies_19 rfl (lv_at hl 1 rfl) ?_
      refine lv_ifnull hx hb dX11_lies_20 ?_
      refine lv_aload hx hb dX11_lies_23 (lv_at hl 0 rfl) ?_
      refine lv_ifnull hx hb dX11_lies_25 ?_
      refine lv_aload hx hb dX11_lies_28 (lv_at hl 0 rfl) ?_
      obtain ⟨z10, h10, h⟩ := ob_some h
      refine k_z (va_runV (As := []) (rest := []) ⟨hx, hb, hml, hown, hts⟩ (c_X5_isLying (l := l) M b8 kb8 h10) (cwV 0 hts gX11_lies_X5_isLying rfl rfl rfl hdV_X5_isLying ⟨Nat.le_of_ble_eq_true rfl, Nat.le_of_ble_eq_true rfl⟩) (pV (T := TX5) hP hK hD hT hG hS kb8 (by decide) rfl) rfl rfl hl.1 rfl (lv_room (Nat.le_of_ble_eq_true rfl)) dX11_lies_30 ⟨Nat.zero_le _, Nat.zero_le _⟩) hS (fun H locs hz10 hP hD hT hS => ?_)
      refine lv_if_ne (tgt := 42) hx hb dX11_lies_33 rfl (fun c11 => ?_) (fun c11 => ?_)
      · replace h := ite_f c11 h
        refine lv_aload_n hx hb dX11_lies_42 rfl (lv_at hl 2 rfl) ?_
        refine lv_aload_n hx hb dX11_lies_43 rfl (lv_at hl 1 rfl) ?_
        refine lv_aload hx hb dX11_lies_44 (lv_at hl 0 rfl) ?_
        refine r_get (T := TX5) (v := .int (gI M b8 7)) hx hb hts in5 hown hK hP kb8 (by decide) rfl 7 (by decide) (hts (.fieldLink RX11 233 "StoneWalk$Stone" "slope" "I") (List.mem_of_getElem? (i := 2) (by decide +kernel))) rfl (t := 0) rfl rfl dX11_lies_46 ?_
        refine lv_aload hx hb dX11_lies_49 (lv_at hl 0 rfl) ?_
        refine r_get (T := TX5) (v := .int (gI M b8 4)) hx hb hts in5 hown hK hP kb8 (by decide) rfl 4 (by decide) (hts (.fieldLink RX11 236 "StoneWalk$Stone" "lie" "I") (List.mem_of_getElem? (i := 3) (by decide +kernel))) rfl (t := 0) rfl rfl dX11_lies_51 ?_
        obtain ⟨z12, h12, h⟩ := ob_some h
        refine k_i (va_runV (As := [.int (gI M b8 7), .int (gI M b8 4)]) (rest := [.ref (ad a0)]) ⟨hx, hb, hml, hown, hts⟩ (c_X10_tenths (l := l) M b2 (gI M b8 7) (gI M b8 4) kb2 h12) (cwV 2 hts gX11_lies_X10_tenths rfl rfl rfl hdV_X10_tenths ⟨Nat.le_of_ble_eq_true rfl, Nat.le_of_ble_eq_true rfl⟩) (pV (T := TX10) hP hK hD hT hG hS kb2 (by decide) rfl) rfl rfl hl.1 rfl (lv_room (Nat.le_of_ble_eq_true rfl)) dX11_lies_54 ⟨Nat.zero_le _, Nat.zero_le _⟩) hS (fun H locs hP hD hT hS => ?_)
        obtain ⟨z13, h13, h⟩ := ob_some h
        refine k_i (va_runV (As := [.int z12]) (rest := []) ⟨hx, hb, hml, hown, hts⟩ (c_X11_granted (l := l) M a0 z12 k0 h13) (cwV 1 hts gX11_lies_X11_granted rfl rfl rfl hdV_X11_granted ⟨Nat.le_of_ble_eq_true rfl, Nat.le_of_ble_eq_true rfl⟩) (pV (T := TX11) hP hK hD hT hG hS k0 (by decide) rfl) rfl rfl hl.1 rfl (lv_room (Nat.le_of_ble_eq_true rfl)) dX11_lies_57 ⟨Nat.zero_le _, Nat.zero_le _⟩) hS (fun H locs hP hD hT hS => ?_)
        have hZ := Option.some.inj h
        have hZ1 := congrArg Prod.fst hZ
        have hZ2 := congrArg Prod.snd hZ
        exact r_iret hx hb hr hlocks hP hK hD hT hG hS hZ1 hZ2 dX11_lies_60
      · replace h := ite_t c11 h
        refine lv_aload_n hx hb dX11_lies_36 rfl (lv_at hl 2 rfl) ?_
        refine lv_iconst (v := 1) hx hb dX11_lies_37 rfl ?_
        obtain ⟨z14, h14, h⟩ := ob_some h
        refine k_i (va_runV (As := [.int 1]) (rest := []) ⟨hx, hb, hml, hown, hts⟩ (c_X11_refused (l := l) M a0 1 k0 h14) (cwV 1 hts gX11_lies_X11_refused rfl rfl rfl hdV_X11_refused ⟨Nat.le_of_ble_eq_true rfl, Nat.le_of_ble_eq_true rfl⟩) (pV (T := TX11) hP hK hD hT hG hS k0 (by decide) rfl) rfl rfl hl.1 rfl (lv_room (Nat.le_of_ble_eq_true rfl)) dX11_lies_38 ⟨Nat.zero_le _, Nat.zero_le _⟩) hS (fun H locs hP hD hT hS => ?_)
        have hZ := Option.some.inj h
        have hZ1 := congrArg Prod.fst hZ
        have hZ2 := congrArg Prod.snd hZ
        exact r_iret hx hb hr hlocks hP hK hD hT hG hS hZ1 hZ2 dX11_lies_41
set_option maxHeartbeats 4000000 in
set_option maxRecDepth 100000 in
theorem c_X11_hollow {l : Launch} {D : va_G} {ad : Nat → Nat} {cy : Nat → ClassId} {A : Nat → Prop} {g : CG} {q : SE} (M : MM) (a0 : Nat) (x1 : Int32) (x2 : Int32) (k0 : ok g a0 11 0) {Z : (Int32 × MM)} (h : f_X11_hollow M a0 x1 x2 = some Z) : Met l yX11_hollow wsX11_hollow ({ frames := 2, cells := 0, slots := 0, locals := 43 }) (va_Pc [.ref (ad a0), .int x1, .int x2] (Wd D ad cy A g q M)) (va_Qi (fun r u => r = Z.1 ∧ u = Z.2) (Wd D ad cy A g q) A) 0 0 A := by
  refine Met.ofW (cc := cX11_hollow) (maxL := 5) (ret := (some .int)) (by decide) rfl ?_
  intro p e s m args below meth c s₁ B hml hv
  obtain ⟨rfl, hP, hK, hD, hT, hG⟩ := hv
  have hx := B.exec
  have hb := B.bytes
  have hr := B.returns
  have hts := atoms_spec (ws := wsX11_hollow) B.pre
  have hown : s.vm.findClass RX11 = some m.cls := findClass_of_methodNamed B.named
  have hlocks := B.notSynchronized
  have in3 : ∀ w ∈ u_ws RX3 TX3 3, w ∈ wsX11_hollow := fun w h => List.mem_cons_of_mem _ (List.mem_append_left _ (List.mem_append_left _ (List.mem_append_right _ h)))
  have in11 : ∀ w ∈ u_ws RX11 TX11 8, w ∈ wsX11_hollow := fun w h => List.mem_cons_of_mem _ (List.mem_append_left _ (List.mem_append_left _ (List.mem_append_left _ (List.mem_append_right _ h))))
  have hS : va_S A s.heap s.heap [] := va_S.rf
  have hl := lv_entry ([.ref (ad a0), .int x1, .int x2]) (n := 5) (Nat.le_of_ble_eq_true rfl)
  rw [lg_entry_eq]
  generalize (lg_sl ([.ref (ad a0), .int x1, .int x2]) ++ List.replicate (5 - (lg_sl ([.ref (ad a0), .int x1, .int x2])).length) Slot.unset).toArray = ls at hl ⊢
  have hl : lv_has ls 5 [(0, .ref (ad a0)), (1, .int x1), (2, .int x2)] := hl
  unfold f_X11_hollow at h
  refine lv_aload_n hx hb dX11_hollow_0 rfl (lv_at hl 0 rfl) ?_
  rcases hN1 : gR M a0 5 with _ | b1
  · exact absurd (oc_n hN1 h) (by simp)
  replace h := oc_s hN1 h
  have kb1 := hT.f k0 (k := 5) (t := 0) (n := 0) rfl hN1
  refine r_get (T := TX11) (v := .ref (ad b1)) hx hb hts in11 hown hK hP k0 (by decide) rfl 5 (by decide) (hts (.fieldLink RX11 45 "StoneWalk" "island" "LStoneWalk$Island;") (List.mem_of_getElem? (i := 1) (by decide +kernel))) rfl (t := 2) rfl (by show va_rf _ = _; rw [hN1]; rfl) dX11_hollow_1 ?_
  refine lv_iload_n hx hb dX11_hollow_4 rfl (lv_at hl 1 rfl) ?_
  obtain ⟨z2, h2, h⟩ := ob_some h
  refine k_q (va_runV (As := [.int x1]) (rest := []) ⟨hx, hb, hml, hown, hts⟩ (c_X0_wayAt (l := l) M b1 x1 kb1 h2) (cwV 1 hts gX11_hollow_X0_wayAt rfl rfl rfl hdV_X0_wayAt ⟨Nat.le_of_ble_eq_true rfl, Nat.le_of_ble_eq_true rfl⟩) (pV (T := TX0) hP hK hD hT hG hS kb1 (by decide) rfl) rfl rfl hl.1 rfl (lv_room (Nat.le_of_ble_eq_true rfl)) dX11_hollow_5 ⟨Nat.zero_le _, Nat.zero_le _⟩) hS (fun H locs hq2 hP hD hT hS => ?_)
  rcases hN2 : z2 with _ | b2
  · replace h := oc_n hN2 h
    show W _ _ _ _ _ _ _ _ _ _ _ _ _ _ _ (F0 _ _ _ (.null :: []))
    refine lv_astore_nN (lv' := [(3, .null), (0, .ref (ad a0)), (1, .int x1), (2, .int x2)]) hx hb dX11_hollow_8 rfl hl (by decide) rfl (fun ls hl => ?_)
    refine lv_aload_n hx hb dX11_hollow_9 rfl (lv_at hl 1 rfl) ?_
    rcases hN3 : gR M a0 5 with _ | b3
    · exact absurd (oc_n hN3 h) (by simp)
    replace h := oc_s hN3 h
    have kb3 := hT.f k0 (k := 5) (t := 0) (n := 0) rfl hN3
    refine r_get (T := TX11) (v := .ref (ad b3)) hx hb hts in11 hown hK hP k0 (by decide) rfl 5 (by decide) (hts (.fieldLink RX11 45 "StoneWalk" "island" "LStoneWalk$Island;") (List.mem_of_getElem? (i := 1) (by decide +kernel))) rfl (t := 2) rfl (by show va_rf _ = _; rw [hN3]; rfl) dX11_hollow_10 ?_
    refine lv_iload_n hx hb dX11_hollow_13 rfl (lv_at hl 3 rfl) ?_
    obtain ⟨z4, h4, h⟩ := ob_some h
    refine k_q (va_runV (As := [.int x2]) (rest := []) ⟨hx, hb, hml, hown, hts⟩ (c_X0_roadAt (l := l) M b3 x2 kb3 h4) (cwV 1 hts gX11_hollow_X0_roadAt rfl rfl rfl hdV_X0_roadAt ⟨Nat.le_of_ble_eq_true rfl, Nat.le_of_ble_eq_true rfl⟩) (pV (T := TX0) hP hK hD hT hG hS kb3 (by decide) rfl) rfl rfl hl.1 rfl (lv_room (Nat.le_of_ble_eq_true rfl)) dX11_hollow_14 ⟨Nat.zero_le _, Nat.zero_le _⟩) hS (fun H locs hq4 hP hD hT hS => ?_)
    rcases hN4 : z4 with _ | b4
    · replace h := oc_n hN4 h
      show W _ _ _ _ _ _ _ _ _ _ _ _ _ _ _ (F0 _ _ _ (.null :: []))
      refine lv_astoreN (lv' := [(4, .null), (3, .null), (0, .ref (ad a0)), (1, .int x1), (2, .int x2)]) hx hb dX11_hollow_17 hl (by decide) rfl (fun ls hl => ?_)
      refine lv_aload_nN hx hb dX11_hollow_19 rfl (lv_at hl 1 rfl) ?_
      refine lv_ifnullN (tgt := 28) hx hb dX11_hollow_20 rfl ?_
      refine lv_aload_n hx hb dX11_hollow_28 rfl (lv_at hl 2 rfl) ?_
      refine lv_iconst (v := 1) hx hb dX11_hollow_29 rfl ?_
      obtain ⟨z5, h5, h⟩ := ob_some h
      refine k_i (va_runV (As := [.int 1]) (rest := []) ⟨hx, hb, hml, hown, hts⟩ (c_X11_refused (l := l) M a0 1 k0 h5) (cwV 1 hts gX11_hollow_X11_refused rfl rfl rfl hdV_X11_refused ⟨Nat.le_of_ble_eq_true rfl, Nat.le_of_ble_eq_true rfl⟩) (pV (T := TX11) hP hK hD hT hG hS k0 (by decide) rfl) rfl rfl hl.1 rfl (lv_room (Nat.le_of_ble_eq_true rfl)) dX11_hollow_30 ⟨Nat.zero_le _, Nat.zero_le _⟩) hS (fun H locs hP hD hT hS => ?_)
      have hZ := Option.some.inj h
      have hZ1 := congrArg Prod.fst hZ
      have hZ2 := congrArg Prod.snd hZ
      exact r_iret hx hb hr hlocks hP hK hD hT hG hS hZ1 hZ2 dX11_hollow_33
    · replace h := oc_s hN4 h
      have kb4 := hq4 _ hN4
      show W _ _ _ _ _ _ _ _ _ _ _ _ _ _ _ (F0 _ _ _ (.ref (ad b4) :: []))
      refine lv_astore (lv' := [(4, .ref (ad b4)), (3, .null), (0, .ref (ad a0)), (1, .int x1), (2, .int x2)]) hx hb dX11_hollow_17 hl (by decide) rfl (fun ls hl => ?_)
      refine lv_aload_nN hx hb dX11_hollow_19 rfl (lv_at hl 1 rfl) ?_
      refine lv_ifnullN (tgt := 28) hx hb dX11_hollow_20 rfl ?_
      refine lv_aload_n hx hb dX11_hollow_28 rfl (lv_at hl 2 rfl) ?_
      refine lv_iconst (v := 1) hx hb dX11_hollow_29 rfl ?_
      obtain ⟨z6, h6, h⟩ := ob_some h
      refine k_i (va_runV (As := [.int 1]) (rest := []) ⟨hx, hb, hml, hown, hts⟩ (c_X11_refused (l := l) M a0 1 k0 h6) (cwV 1 hts gX11_hollow_X11_refused rfl rfl rfl hdV_X11_refused ⟨Nat.le_of_ble_eq_true rfl, Nat.le_of_ble_eq_true rfl⟩) (pV (T := TX11) hP hK hD hT hG hS k0 (by decide) rfl) rfl rfl hl.1 rfl (lv_room (Nat.le_of_ble_eq_true rfl)) dX11_hollow_30 ⟨Nat.zero_le _, Nat.zero_le _⟩) hS (fun H locs hP hD hT hS => ?_)
      have hZ := Option.some.inj h
      have hZ1 := congrArg Prod.fst hZ
      have hZ2 := congrArg Prod.snd hZ
      exact r_iret hx hb hr hlocks hP hK hD hT hG hS hZ1 hZ2 dX11_hollow_33
  · replace h := oc_s hN2 h
    have kb2 := hq2 _ hN2
    show W _ _ _ _ _ _ _ _ _ _ _ _ _ _ _ (F0 _ _ _ (.ref (ad b2) :: []))
    refine lv_astore_n (lv' := [(3, .ref (ad b2)), (0, .ref (ad a0)), (1, .int x1), (2, .int x2)]) hx hb dX11_hollow_8 rfl hl (by decide) rfl (fun ls hl => ?_)
    refine lv_aload_n hx hb dX11_hollow_9 rfl (lv_at hl 1 rfl) ?_
    rcases hN7 : gR M a0 5 with _ | b7
    · exact absurd (oc_n hN7 h) (by simp)
    replace h := oc_s hN7 h
    have kb7 := hT.f k0 (k := 5) (t := 0) (n := 0) rfl hN7
    refine r_get (T := TX11) (v := .ref (ad b7)) hx hb hts in11 hown hK hP k0 (by decide) rfl 5 (by decide) (hts (.fieldLink RX11 45 "StoneWalk" "island" "LStoneWalk$Island;") (List.mem_of_getElem? (i := 1) (by decide +kernel))) rfl (t := 2) rfl (by show va_rf _ = _; rw [hN7]; rfl) dX11_hollow_10 ?_
    refine lv_iload_n hx hb dX11_hollow_13 rfl (lv_at hl 3 rfl) ?_
    obtain ⟨z8, h8, h⟩ := ob_some h
    refine k_q (va_runV (As := [.int x2]) (rest := []) ⟨hx, hb, hml, hown, hts⟩ (c_X0_roadAt (l := l) M b7 x2 kb7 h8) (cwV 1 hts gX11_hollow_X0_roadAt rfl rfl rfl hdV_X0_roadAt ⟨Nat.le_of_ble_eq_true rfl, Nat.le_of_ble_eq_true rfl⟩) (pV (T := TX0) hP hK hD hT hG hS kb7 (by decide) rfl) rfl rfl hl.1 rfl (lv_room (Nat.le_of_ble_eq_true rfl)) dX11_hollow_14 ⟨Nat.zero_le _, Nat.zero_le _⟩) hS (fun H locs hq8 hP hD hT hS => ?_)
    rcases hN8 : z8 with _ | b8
    · replace h := oc_n hN8 h
      show W _ _ _ _ _ _ _ _ _ _ _ _ _ _ _ (F0 _ _ _ (.null :: []))
      refine lv_astoreN (lv' := [(4, .null), (3, .ref (ad b2)), (0, .ref (ad a0)), (1, .int x1), (2, .int x2)]) hx hb dX11_hollow_17 hl (by decide) rfl (fun ls hl => ?_)
      refine lv_aload_n hx hb dX11_hollow_19 rfl (lv_at hl 1 rfl) ?_
      refine lv_ifnull hx hb dX11_hollow_20 ?_
      refine lv_aloadN hx hb dX11_hollow_23 (lv_at hl 0 rfl) ?_
      refine lv_ifnonnullN hx hb dX11_hollow_25 ?_
      refine lv_aload_n hx hb dX11_hollow_28 rfl (lv_at hl 2 rfl) ?_
      refine lv_iconst (v := 1) hx hb dX11_hollow_29 rfl ?_
      obtain ⟨z9, h9, h⟩ := ob_some h
      refine k_i (va_runV (As := [.int 1]) (rest := []) ⟨hx, hb, hml, hown, hts⟩ (c_X11_refused (l := l) M a0 1 k0 h9) (cwV 1 hts gX11_hollow_X11_refused rfl rfl rfl hdV_X11_refused ⟨Nat.le_of_ble_eq_true rfl, Nat.le_of_ble_eq_true rfl⟩) (pV (T := TX11) hP hK hD hT hG hS k0 (by decide) rfl) rfl rfl hl.1 rfl (lv_room (Nat.le_of_ble_eq_true rfl)) dX11_hollow_30 ⟨Nat.zero_le _, Nat.zero_le _⟩) hS (fun H locs hP hD hT hS => ?_)
      have hZ := Option.some.inj h
      have hZ1 := congrArg Prod.fst hZ
      have hZ2 := congrArg Prod.snd hZ
      exact r_iret hx hb hr hlocks hP hK hD hT hG hS hZ1 hZ2 dX11_hollow_33
    · replace h := oc_s hN8 h
      have kb8 := hq8 _ hN8
      show W _ _ _ _ _ _ _ _ _ _ _ _ _ _ _ (F0 _ _ _ (.ref (ad b8) :: []))
      refine lv_astore (lv' := [(4, .ref (ad b8)), (3, .ref (ad b2)), (0, .ref (ad a0)), (1, .int x1), (2, .int x2)]) hx hb dX11_hollow_17 hl (by decide) rfl (fun ls hl => ?_)
      refine lv_aload_n hx hb dX11_hollow_19 rfl (lv_at hl 1 rfl) ?_
      refine lv_ifnull hx hb dX11_hollow_20 ?_
      refine lv_aload hx hb dX11_hollow_23 (lv_at hl 0 rfl) ?_
      refine lv_ifnonnull (tgt := 34) hx hb dX11_hollow_25 rfl ?_
      refine lv_aload_n hx hb dX11_hollow_34 rfl (lv_at hl 2 rfl) ?_
      refine lv_aload_n hx hb dX11_hollow_35 rfl (lv_at hl 1 rfl) ?_
      refine lv_aload hx hb dX11_hollow_36 (lv_at hl 0 rfl) ?_
      refine r_get (T := TX3) (v := .int (gI M b8 0)) hx hb hts in3 hown hK hP kb8 (by decide) rfl 0 (by decide) (hts (.fieldLink RX11 239 "StoneWalk$Road" "hollow" "I") (List.mem_of_getElem? (i := 2) (by decide +kernel))) rfl (t := 0) rfl rfl dX11_hollow_38 ?_
      obtain ⟨z10, h10, h⟩ := ob_some h
      refine k_i (va_runV (As := [.int (gI M b8 0)]) (rest := [.ref (ad a0)]) ⟨hx, hb, hml, hown, hts⟩ (c_X10_hollowed (l := l) M b2 (gI M b8 0) kb2 h10) (cwV 1 hts gX11_hollow_X10_hollowed rfl rfl rfl hdV_X10_hollowed ⟨Nat.le_of_ble_eq_true rfl, Nat.le_of_ble_eq_true rfl⟩) (pV (T := TX10) hP hK hD hT hG hS kb2 (by decide) rfl) rfl rfl hl.1 rfl (lv_room (Nat.le_of_ble_eq_true rfl)) dX11_hollow_41 ⟨Nat.zero_le _, Nat.zero_le _⟩) hS (fun H locs hP hD hT hS => ?_)
      obtain ⟨z11, h11, h⟩ := ob_some h
      refine k_i (va_runV (As := [.int z10]) (rest := []) ⟨hx, hb, hml, hown, hts⟩ (c_X11_granted (l := l) M a0 z10 k0 h11) (cwV 1 hts gX11_hollow_X11_granted rfl rfl rfl hdV_X11_granted ⟨Nat.le_of_ble_eq_true rfl, Nat.le_of_ble_eq_true rfl⟩) (pV (T := TX11) hP hK hD hT hG hS k0 (by decide) rfl) rfl rfl hl.1 rfl (lv_room (Nat.le_of_ble_eq_true rfl)) dX11_hollow_44 ⟨Nat.zero_le _, Nat.zero_le _⟩) hS (fun H locs hP hD hT hS => ?_)
      have hZ := Option.some.inj h
      have hZ1 := congrArg Prod.fst hZ
      have hZ2 := congrArg Prod.snd hZ
      exact r_iret hx hb hr hlocks hP hK hD hT hG hS hZ1 hZ2 dX11_hollow_47
set_option maxHeartbeats 4000000 in
set_option maxRecDepth 100000 in
theorem c_X11_shape {l : Launch} {D : va_G} {ad : Nat → Nat} {cy : Nat → ClassId} {A : Nat → Prop} {g : CG} {q : SE} (M : MM) (a0 : Nat) (x1 : Int32) (k0 : ok g a0 11 0) {Z : (Int32 × MM)} (h : f_X11_shape M a0 x1 = some Z) : Met l yX11_shape wsX11_shape ({ frames := 4, cells := 0, slots := 0, locals := 91 }) (va_Pc [.ref (ad a0), .int x1] (Wd D ad cy A g q M)) (va_Qi (fun r u => r = Z.1 ∧ u = Z.2) (Wd D ad cy A g q) A) 0 0 A := by
  refine Met.ofW (cc := cX11_shape) (maxL := 3) (ret := (some .int)) (by decide) rfl ?_
  intro p e s m args below meth c s₁ B hml hv
  obtain ⟨rfl, hP, hK, hD, hT, hG⟩ := hv
  have hx := B.exec
  have hb := B.bytes
  have hr := B.returns
  have hts := atoms_spec (ws := wsX11_shape) B.pre
  have hown : s.vm.findClass RX11 = some m.cls := findClass_of_methodNamed B.named
  have hlocks := B.notSynchronized
  have in11 : ∀ w ∈ u_ws RX11 TX11 8, w ∈ wsX11_shape := fun w h => List.mem_cons_of_mem _ (List.mem_append_left _ (List.mem_append_left _ (List.mem_append_left _ (List.mem_append_right _ h))))
  have hS : va_S A s.heap s.heap [] := va_S.rf
  have hl := lv_entry ([.ref (ad a0), .int x1]) (n := 3) (Nat.le_of_ble_eq_true rfl)
  rw [lg_entry_eq]
  generalize (lg_sl ([.ref (ad a0), .int x1]) ++ List.replicate (3 - (lg_sl ([.ref (ad a0), .int x1])).length) Slot.unset).toArray = ls at hl ⊢
  have hl : lv_has ls 3 [(0, .ref (ad a0)), (1, .int x1)] := hl
  unfold f_X11_shape at h
  refine lv_aload_n hx hb dX11_shape_0 rfl (lv_at hl 0 rfl) ?_
  rcases hN1 : gR M a0 5 with _ | b1
  · exact absurd (oc_n hN1 h) (by simp)
  replace h := oc_s hN1 h
  have kb1 := hT.f k0 (k := 5) (t := 0) (n := 0) rfl hN1
  refine r_get (T := TX11) (v := .ref (ad b1)) hx hb hts in11 hown hK hP k0 (by decide) rfl 5 (by decide) (hts (.fieldLink RX11 45 "StoneWalk" "island" "LStoneWalk$Island;") (List.mem_of_getElem? (i := 1) (by decide +kernel))) rfl (t := 2) rfl (by show va_rf _ = _; rw [hN1]; rfl) dX11_shape_1 ?_
  refine lv_iload_n hx hb dX11_shape_4 rfl (lv_at hl 1 rfl) ?_
  obtain ⟨z2, h2, h⟩ := ob_some h
  refine k_q (va_runV (As := [.int x1]) (rest := []) ⟨hx, hb, hml, hown, hts⟩ (c_X0_wayAt (l := l) M b1 x1 kb1 h2) (cwV 1 hts gX11_shape_X0_wayAt rfl rfl rfl hdV_X0_wayAt ⟨Nat.le_of_ble_eq_true rfl, Nat.le_of_ble_eq_true rfl⟩) (pV (T := TX0) hP hK hD hT hG hS kb1 (by decide) rfl) rfl rfl hl.1 rfl (lv_room (Nat.le_of_ble_eq_true rfl)) dX11_shape_5 ⟨Nat.zero_le _, Nat.zero_le _⟩) hS (fun H locs hq2 hP hD hT hS => ?_)
  rcases hN2 : z2 with _ | b2
  · replace h := oc_n hN2 h
    show W _ _ _ _ _ _ _ _ _ _ _ _ _ _ _ (F0 _ _ _ (.null :: []))
    refine lv_astore_nN (lv' := [(2, .null), (0, .ref (ad a0)), (1, .int x1)]) hx hb dX11_shape_8 rfl hl (by decide) rfl (fun ls hl => ?_)
    refine lv_aload_nN hx hb dX11_shape_9 rfl (lv_at hl 0 rfl) ?_
    refine lv_ifnonnullN hx hb dX11_shape_10 ?_
    refine lv_aload_n hx hb dX11_shape_13 rfl (lv_at hl 1 rfl) ?_
    refine lv_iconst (v := 1) hx hb dX11_shape_14 rfl ?_
    obtain ⟨z3, h3, h⟩ := ob_some h
    refine k_i (va_runV (As := [.int 1]) (rest := []) ⟨hx, hb, hml, hown, hts⟩ (c_X11_refused (l := l) M a0 1 k0 h3) (cwV 1 hts gX11_shape_X11_refused rfl rfl rfl hdV_X11_refused ⟨Nat.le_of_ble_eq_true rfl, Nat.le_of_ble_eq_true rfl⟩) (pV (T := TX11) hP hK hD hT hG hS k0 (by decide) rfl) rfl rfl hl.1 rfl (lv_room (Nat.le_of_ble_eq_true rfl)) dX11_shape_15 ⟨Nat.zero_le _, Nat.zero_le _⟩) hS (fun H locs hP hD hT hS => ?_)
    have hZ := Option.some.inj h
    have hZ1 := congrArg Prod.fst hZ
    have hZ2 := congrArg Prod.snd hZ
    exact r_iret hx hb hr hlocks hP hK hD hT hG hS hZ1 hZ2 dX11_shape_18
  · replace h := oc_s hN2 h
    have kb2 := hq2 _ hN2
    show W _ _ _ _ _ _ _ _ _ _ _ _ _ _ _ (F0 _ _ _ (.ref (ad b2) :: []))
    refine lv_astore_n (lv' := [(2, .ref (ad b2)), (0, .ref (ad a0)), (1, .int x1)]) hx hb dX11_shape_8 rfl hl (by decide) rfl (fun ls hl => ?_)
    refine lv_aload_n hx hb dX11_shape_9 rfl (lv_at hl 0 rfl) ?_
    refine lv_ifnonnull (tgt := 19) hx hb dX11_shape_10 rfl ?_
    refine lv_aload_n hx hb dX11_shape_19 rfl (lv_at hl 1 rfl) ?_
    refine lv_aload_n hx hb dX11_shape_20 rfl (lv_at hl 0 rfl) ?_
    refine lv_aload_n hx hb dX11_shape_21 rfl (lv_at hl 1 rfl) ?_
    rcases hN4 : gR M a0 5 with _ | b4
    · exact absurd (oc_n hN4 h) (by simp)
    replace h := oc_s hN4 h
    have kb4 := hT.f k0 (k := 5) (t := 0) (n := 0) rfl hN4
    refine r_get (T := TX11) (v := .ref (ad b4)) hx hb hts in11 hown hK hP k0 (by decide) rfl 5 (by decide) (hts (.fieldLink RX11 45 "StoneWalk" "island" "LStoneWalk$Island;") (List.mem_of_getElem? (i := 1) (by decide +kernel))) rfl (t := 2) rfl (by show va_rf _ = _; rw [hN4]; rfl) dX11_shape_22 ?_
    refine lv_iconst (v := (-1)) hx hb dX11_shape_25 rfl ?_
    obtain ⟨z5, h5, h⟩ := ob_some h
    refine k_i (va_runV (As := [.int (-1)]) (rest := [.ref (ad b2), .ref (ad a0)]) ⟨hx, hb, hml, hown, hts⟩ (c_X0_leanChange (l := l) M b4 (-1) kb4 h5) (cwV 1 hts gX11_shape_X0_leanChange rfl rfl rfl hdV_X0_leanChange ⟨Nat.le_of_ble_eq_true rfl, Nat.le_of_ble_eq_true rfl⟩) (pV (T := TX0) hP hK hD hT hG hS kb4 (by decide) rfl) rfl rfl hl.1 rfl (lv_room (Nat.le_of_ble_eq_true rfl)) dX11_shape_26 ⟨Nat.zero_le _, Nat.zero_le _⟩) hS (fun H locs hP hD hT hS => ?_)
    obtain ⟨z6, h6, h⟩ := ob_some h
    refine k_i (va_runV (As := [.int z5]) (rest := [.ref (ad a0)]) ⟨hx, hb, hml, hown, hts⟩ (c_X10_shaped (l := l) M b2 z5 kb2 h6) (cwV 1 hts gX11_shape_X10_shaped rfl rfl rfl hdV_X10_shaped ⟨Nat.le_of_ble_eq_true rfl, Nat.le_of_ble_eq_true rfl⟩) (pV (T := TX10) hP hK hD hT hG hS kb2 (by decide) rfl) rfl rfl hl.1 rfl (lv_room (Nat.le_of_ble_eq_true rfl)) dX11_shape_29 ⟨Nat.zero_le _, Nat.zero_le _⟩) hS (fun H locs hP hD hT hS => ?_)
    obtain ⟨z7, h7, h⟩ := ob_some h
    refine k_i (va_runV (As := [.int z6]) (rest := []) ⟨hx, hb, hml, hown, hts⟩ (c_X11_granted (l := l) M a0 z6 k0 h7) (cwV 1 hts gX11_shape_X11_granted rfl rfl rfl hdV_X11_granted ⟨Nat.le_of_ble_eq_true rfl, Nat.le_of_ble_eq_true rfl⟩) (pV (T := TX11) hP hK hD hT hG hS k0 (by decide) rfl) rfl rfl hl.1 rfl (lv_room (Nat.le_of_ble_eq_true rfl)) dX11_shape_32 ⟨Nat.zero_le _, Nat.zero_le _⟩) hS (fun H locs hP hD hT hS => ?_)
    have hZ := Option.some.inj h
    have hZ1 := congrArg Prod.fst hZ
    have hZ2 := congrArg Prod.snd hZ
    exact r_iret hx hb hr hlocks hP hK hD hT hG hS hZ1 hZ2 dX11_shape_35
set_option maxHeartbeats 4000000 in
set_option maxRecDepth 100000 in
theorem c_X11_changed {l : Launch} {D : va_G} {ad : Nat → Nat} {cy : Nat → ClassId} {A : Nat → Prop} {g : CG} {q : SE} (M : MM) (a0 : Nat) (k0 : ok g a0 11 0) {Z : (Int32 × MM)} (h : f_X11_changed M a0 = some Z) : Met l yX11_changed wsX11_changed ({ frames := 4, cells := 0, slots := 0, locals := 91 }) (va_Pc [.ref (ad a0)] (Wd D ad cy A g q M)) (va_Qi (fun r u => r = Z.1 ∧ u = Z.2) (Wd D ad cy A g q) A) 0 0 A := by
  refine Met.ofW (cc := cX11_changed) (maxL := 2) (ret := (some .int)) (by decide) rfl ?_
  intro p e s m args below meth c s₁ B hml hv
  obtain ⟨rfl, hP, hK, hD, hT, hG⟩ := hv
  have hx := B.exec
  have hb := B.bytes
  have hr := B.returns
  have hts := atoms_spec (ws := wsX11_changed) B.pre
  have hown : s.vm.findClass RX11 = some m.cls := findClass_of_methodNamed B.named
  have hlocks := B.notSynchronized
  have in11 : ∀ w ∈ u_ws RX11 TX11 8, w ∈ wsX11_changed := fun w h => List.mem_cons_of_mem _ (List.mem_append_left _ (List.mem_append_left _ (List.mem_append_right _ h)))
  have hS : va_S A s.heap s.heap [] := va_S.rf
  have hl := lv_entry ([.ref (ad a0)]) (n := 2) (Nat.le_of_ble_eq_true rfl)
  rw [lg_entry_eq]
  generalize (lg_sl ([.ref (ad a0)]) ++ List.replicate (2 - (lg_sl ([.ref (ad a0)])).length) Slot.unset).toArray = ls at hl ⊢
  have hl : lv_has ls 2 [(0, .ref (ad a0))] := hl
  unfold f_X11_changed at h
  refine lv_aload_n hx hb dX11_changed_0 rfl (lv_at hl 0 rfl) ?_
  rcases hN1 : gR M a0 5 with _ | b1
  · exact absurd (oc_n hN1 h) (by simp)
  replace h := oc_s hN1 h
  have kb1 := hT.f k0 (k := 5) (t := 0) (n := 0) rfl hN1
  refine r_get (T := TX11) (v := .ref (ad b1)) hx hb hts in11 hown hK hP k0 (by decide) rfl 5 (by decide) (hts (.fieldLink RX11 45 "StoneWalk" "island" "LStoneWalk$Island;") (List.mem_of_getElem? (i := 1) (by decide +kernel))) rfl (t := 2) rfl (by show va_rf _ = _; rw [hN1]; rfl) dX11_changed_1 ?_
  obtain ⟨z2, h2, h⟩ := ob_some h
  refine k_z (va_runV (As := []) (rest := []) ⟨hx, hb, hml, hown, hts⟩ (c_X0_isBare (l := l) M b1 kb1 h2) (cwV 0 hts gX11_changed_X0_isBare rfl rfl rfl hdV_X0_isBare ⟨Nat.le_of_ble_eq_true rfl, Nat.le_of_ble_eq_true rfl⟩) (pV (T := TX0) hP hK hD hT hG hS kb1 (by decide) rfl) rfl rfl hl.1 rfl (lv_room (Nat.le_of_ble_eq_true rfl)) dX11_changed_4 ⟨Nat.zero_le _, Nat.zero_le _⟩) hS (fun H locs hz2 hP hD hT hS => ?_)
  refine lv_if_eq (tgt := 16) hx hb dX11_changed_7 rfl (fun c3 => ?_) (fun c3 => ?_)
  · replace h := ite_t c3 h
    refine lv_aload_n hx hb dX11_changed_16 rfl (lv_at hl 0 rfl) ?_
    rcases hN4 : gR M a0 5 with _ | b4
    · exact absurd (oc_n hN4 h) (by simp)
    replace h := oc_s hN4 h
    have kb4 := hT.f k0 (k := 5) (t := 0) (n := 0) rfl hN4
    refine r_get (T := TX11) (v := .ref (ad b4)) hx hb hts in11 hown hK hP k0 (by decide) rfl 5 (by decide) (hts (.fieldLink RX11 45 "StoneWalk" "island" "LStoneWalk$Island;") (List.mem_of_getElem? (i := 1) (by decide +kernel))) rfl (t := 2) rfl (by show va_rf _ = _; rw [hN4]; rfl) dX11_changed_17 ?_
    refine lv_iconst (v := (-1)) hx hb dX11_changed_20 rfl ?_
    obtain ⟨z5, h5, h⟩ := ob_some h
    refine k_i (va_runV (As := [.int (-1)]) (rest := []) ⟨hx, hb, hml, hown, hts⟩ (c_X0_leanChange (l := l) M b4 (-1) kb4 h5) (cwV 1 hts gX11_changed_X0_leanChange rfl rfl rfl hdV_X0_leanChange ⟨Nat.le_of_ble_eq_true rfl, Nat.le_of_ble_eq_true rfl⟩) (pV (T := TX0) hP hK hD hT hG hS kb4 (by decide) rfl) rfl rfl hl.1 rfl (lv_room (Nat.le_of_ble_eq_true rfl)) dX11_changed_21 ⟨Nat.zero_le _, Nat.zero_le _⟩) hS (fun H locs hP hD hT hS => ?_)
    refine lv_istore_n (lv' := [(1, .int z5), (0, .ref (ad a0))]) hx hb dX11_changed_24 rfl hl (by decide) rfl (fun ls hl => ?_)
    refine lv_iload_n hx hb dX11_changed_25 rfl (lv_at hl 0 rfl) ?_
    refine lv_sipush (v := (-1000)) hx hb dX11_changed_26 rfl ?_
    refine lv_icmp_ne (tgt := 41) hx hb dX11_changed_29 rfl (fun c6 => ?_) (fun c6 => ?_)
    · replace h := ite_f c6 h
      refine lv_aload_n hx hb dX11_changed_41 rfl (lv_at hl 1 rfl) ?_
      refine lv_iload_n hx hb dX11_changed_42 rfl (lv_at hl 0 rfl) ?_
      obtain ⟨z7, h7, h⟩ := ob_some h
      refine k_i (va_runV (As := [.int z5]) (rest := []) ⟨hx, hb, hml, hown, hts⟩ (c_X11_granted (l := l) M a0 z5 k0 h7) (cwV 1 hts gX11_changed_X11_granted rfl rfl rfl hdV_X11_granted ⟨Nat.le_of_ble_eq_true rfl, Nat.le_of_ble_eq_true rfl⟩) (pV (T := TX11) hP hK hD hT hG hS k0 (by decide) rfl) rfl rfl hl.1 rfl (lv_room (Nat.le_of_ble_eq_true rfl)) dX11_changed_43 ⟨Nat.zero_le _, Nat.zero_le _⟩) hS (fun H locs hP hD hT hS => ?_)
      have hZ := Option.some.inj h
      have hZ1 := congrArg Prod.fst hZ
      have hZ2 := congrArg Prod.snd hZ
      exact r_iret hx hb hr hlocks hP hK hD hT hG hS hZ1 hZ2 dX11_changed_46
    · replace h := ite_t c6 h
      refine lv_aload_n hx hb dX11_changed_32 rfl (lv_at hl 1 rfl) ?_
      refine lv_bipush (v := 6) hx hb dX11_changed_33 rfl ?_
      obtain ⟨z8, h8, h⟩ := ob_some h
      refine k_i (va_runV (As := [.int 6]) (rest := []) ⟨hx, hb, hml, hown, hts⟩ (c_X11_unknown (l := l) M a0 6 k0 h8) (cwV 1 hts gX11_changed_X11_unknown rfl rfl rfl hdV_X11_unknown ⟨Nat.le_of_ble_eq_true rfl, Nat.le_of_ble_eq_true rfl⟩) (pV (T := TX11) hP hK hD hT hG hS k0 (by decide) rfl) rfl rfl hl.1 rfl (lv_room (Nat.le_of_ble_eq_true rfl)) dX11_changed_35 ⟨Nat.zero_le _, Nat.zero_le _⟩) hS (fun H locs hP hD hT hS => ?_)
      refine lv_goto (tgt := 46) hx hb dX11_changed_38 rfl ?_
      have hZ := Option.some.inj h
      have hZ1 := congrArg Prod.fst hZ
      have hZ2 := congrArg Prod.snd hZ
      exact r_iret hx hb hr hlocks hP hK hD hT hG hS hZ1 hZ2 dX11_changed_46
  · replace h := ite_f c3 h
    refine lv_aload_n hx hb dX11_changed_10 rfl (lv_at hl 0 rfl) ?_
    refine lv_iconst (v := 1) hx hb dX11_changed_11 rfl ?_
    obtain ⟨z9, h9, h⟩ := ob_some h
    refine k_i (va_runV (As := [.int 1]) (rest := []) ⟨hx, hb, hml, hown, hts⟩ (c_X11_unknown (l := l) M a0 1 k0 h9) (cwV 1 hts gX11_changed_X11_unknown rfl rfl rfl hdV_X11_unknown ⟨Nat.le_of_ble_eq_true rfl, Nat.le_of_ble_eq_true rfl⟩) (pV (T := TX11) hP hK hD hT hG hS k0 (by decide) rfl) rfl rfl hl.1 rfl (lv_room (Nat.le_of_ble_eq_true rfl)) dX11_changed_12 ⟨Nat.zero_le _, Nat.zero_le _⟩) hS (fun H locs hP hD hT hS => ?_)
    have hZ := Option.some.inj h
    have hZ1 := congrArg Prod.fst hZ
    have hZ2 := congrArg Prod.snd hZ
    exact r_iret hx hb hr hlocks hP hK hD hT hG hS hZ1 hZ2 dX11_changed_15
set_option maxHeartbeats 4000000 in
set_option maxRecDepth 100000 in
theorem c_X11_told {l : Launch} {D : va_G} {ad : Nat → Nat} {cy : Nat → ClassId} {A : Nat → Prop} {g : CG} {q : SE} (M : MM) (a0 : Nat) (x1 : Int32) (x2 : Int32) (k0 : ok g a0 11 0) {Z : (Int32 × MM)} (h : f_X11_told M a0 x1 x2 = some Z) : Met l yX11_told wsX11_told ({ frames := 3, cells := 0, slots := 0, locals := 64 }) (va_Pc [.ref (ad a0), .int x1, .int x2] (Wd D ad cy A g q M)) (va_Qi (fun r u => r = Z.1 ∧ u = Z.2) (Wd D ad cy A g q) A) 0 0 A := by
  refine Met.ofW (cc := cX11_told) (maxL := 4) (ret := (some .int)) (by decide) rfl ?_
  intro p e s m args below meth c s₁ B hml hv
  obtain ⟨rfl, hP, hK, hD, hT, hG⟩ := hv
  have hx := B.exec
  have hb := B.bytes
  have hr := B.returns
  have hts := atoms_spec (ws := wsX11_told) B.pre
  have hown : s.vm.findClass RX11 = some m.cls := findClass_of_methodNamed B.named
  have hlocks := B.notSynchronized
  have in11 : ∀ w ∈ u_ws RX11 TX11 8, w ∈ wsX11_told := fun w h => List.mem_cons_of_mem _ (List.mem_append_left _ (List.mem_append_left _ (List.mem_append_right _ h)))
  have hS : va_S A s.heap s.heap [] := va_S.rf
  have hl := lv_entry ([.ref (ad a0), .int x1, .int x2]) (n := 4) (Nat.le_of_ble_eq_true rfl)
  rw [lg_entry_eq]
  generalize (lg_sl ([.ref (ad a0), .int x1, .int x2]) ++ List.replicate (4 - (lg_sl ([.ref (ad a0), .int x1, .int x2])).length) Slot.unset).toArray = ls at hl ⊢
  have hl : lv_has ls 4 [(0, .ref (ad a0)), (1, .int x1), (2, .int x2)] := hl
  unfold f_X11_told at h
  refine lv_aload_n hx hb dX11_told_0 rfl (lv_at hl 0 rfl) ?_
  rcases hN1 : gR M a0 5 with _ | b1
  · exact absurd (oc_n hN1 h) (by simp)
  replace h := oc_s hN1 h
  have kb1 := hT.f k0 (k := 5) (t := 0) (n := 0) rfl hN1
  refine r_get (T := TX11) (v := .ref (ad b1)) hx hb hts in11 hown hK hP k0 (by decide) rfl 5 (by decide) (hts (.fieldLink RX11 45 "StoneWalk" "island" "LStoneWalk$Island;") (List.mem_of_getElem? (i := 1) (by decide +kernel))) rfl (t := 2) rfl (by show va_rf _ = _; rw [hN1]; rfl) dX11_told_1 ?_
  refine lv_iload_n hx hb dX11_told_4 rfl (lv_at hl 2 rfl) ?_
  obtain ⟨z2, h2, h⟩ := ob_some h
  refine k_q (va_runV (As := [.int x2]) (rest := []) ⟨hx, hb, hml, hown, hts⟩ (c_X0_tellerAt (l := l) M b1 x2 kb1 h2) (cwV 1 hts gX11_told_X0_tellerAt rfl rfl rfl hdV_X0_tellerAt ⟨Nat.le_of_ble_eq_true rfl, Nat.le_of_ble_eq_true rfl⟩) (pV (T := TX0) hP hK hD hT hG hS kb1 (by decide) rfl) rfl rfl hl.1 rfl (lv_room (Nat.le_of_ble_eq_true rfl)) dX11_told_5 ⟨Nat.zero_le _, Nat.zero_le _⟩) hS (fun H locs hq2 hP hD hT hS => ?_)
  rcases hN2 : z2 with _ | b2
  · replace h := oc_n hN2 h
    show W _ _ _ _ _ _ _ _ _ _ _ _ _ _ _ (F0 _ _ _ (.null :: []))
    refine lv_astore_nN (lv' := [(3, .null), (0, .ref (ad a0)), (1, .int x1), (2, .int x2)]) hx hb dX11_told_8 rfl hl (by decide) rfl (fun ls hl => ?_)
    refine lv_aload_n hx hb dX11_told_9 rfl (lv_at hl 1 rfl) ?_
    rcases hN3 : gR M a0 5 with _ | b3
    · exact absurd (oc_n hN3 h) (by simp)
    replace h := oc_s hN3 h
    have kb3 := hT.f k0 (k := 5) (t := 0) (n := 0) rfl hN3
    refine r_get (T := TX11) (v := .ref (ad b3)) hx hb hts in11 hown hK hP k0 (by decide) rfl 5 (by decide) (hts (.fieldLink RX11 45 "StoneWalk" "island" "LStoneWalk$Island;") (List.mem_of_getElem? (i := 1) (by decide +kernel))) rfl (t := 2) rfl (by show va_rf _ = _; rw [hN3]; rfl) dX11_told_10 ?_
    refine lv_iconst (v := 0) hx hb dX11_told_13 rfl ?_
    refine lv_iload_n hx hb dX11_told_14 rfl (lv_at hl 2 rfl) ?_
    obtain ⟨z4, h4, h⟩ := ob_some h
    refine k_z (va_runV (As := [.int 0, .int x1]) (rest := []) ⟨hx, hb, hml, hown, hts⟩ (c_X0_has (l := l) M b3 0 x1 kb3 h4) (cwV 2 hts gX11_told_X0_has rfl rfl rfl hdV_X0_has ⟨Nat.le_of_ble_eq_true rfl, Nat.le_of_ble_eq_true rfl⟩) (pV (T := TX0) hP hK hD hT hG hS kb3 (by decide) rfl) rfl rfl hl.1 rfl (lv_room (Nat.le_of_ble_eq_true rfl)) dX11_told_15 ⟨Nat.zero_le _, Nat.zero_le _⟩) hS (fun H locs hz4 hP hD hT hS => ?_)
    refine lv_if_eq (tgt := 25) hx hb dX11_told_18 rfl (fun c5 => ?_) (fun c5 => ?_)
    · replace h := ite_t c5 h
      refine lv_aload_n hx hb dX11_told_25 rfl (lv_at hl 1 rfl) ?_
      refine lv_iconst (v := 1) hx hb dX11_told_26 rfl ?_
      obtain ⟨z6, h6, h⟩ := ob_some h
      refine k_i (va_runV (As := [.int 1]) (rest := []) ⟨hx, hb, hml, hown, hts⟩ (c_X11_refused (l := l) M a0 1 k0 h6) (cwV 1 hts gX11_told_X11_refused rfl rfl rfl hdV_X11_refused ⟨Nat.le_of_ble_eq_true rfl, Nat.le_of_ble_eq_true rfl⟩) (pV (T := TX11) hP hK hD hT hG hS k0 (by decide) rfl) rfl rfl hl.1 rfl (lv_room (Nat.le_of_ble_eq_true rfl)) dX11_told_27 ⟨Nat.zero_le _, Nat.zero_le _⟩) hS (fun H locs hP hD hT hS => ?_)
      have hZ := Option.some.inj h
      have hZ1 := congrArg Prod.fst hZ
      have hZ2 := congrArg Prod.snd hZ
      exact r_iret hx hb hr hlocks hP hK hD hT hG hS hZ1 hZ2 dX11_told_30
    · replace h := ite_f c5 h
      refine lv_aload_nN hx hb dX11_told_21 rfl (lv_at hl 0 rfl) ?_
      refine lv_ifnonnullN hx hb dX11_told_22 ?_
      refine lv_aload_n hx hb dX11_told_25 rfl (lv_at hl 1 rfl) ?_
      refine lv_iconst (v := 1) hx hb dX11_told_26 rfl ?_
      obtain ⟨z7, h7, h⟩ := ob_some h
      refine k_i (va_runV (As := [.int 1]) (rest := []) ⟨hx, hb, hml, hown, hts⟩ (c_X11_refused (l := l) M a0 1 k0 h7) (cwV 1 hts gX11_told_X11_refused rfl rfl rfl hdV_X11_refused ⟨Nat.le_of_ble_eq_true rfl, Nat.le_of_ble_eq_true rfl⟩) (pV (T := TX11) hP hK hD hT hG hS k0 (by decide) rfl) rfl rfl hl.1 rfl (lv_room (Nat.le_of_ble_eq_true rfl)) dX11_told_27 ⟨Nat.zero_le _, Nat.zero_le _⟩) hS (fun H locs hP hD hT hS => ?_)
      have hZ := Option.some.inj h
      have hZ1 := congrArg Prod.fst hZ
      have hZ2 := congrArg Prod.snd hZ
      exact r_iret hx hb hr hlocks hP hK hD hT hG hS hZ1 hZ2 dX11_told_30
  · replace h := oc_s hN2 h
    have kb2 := hq2 _ hN2
    show W _ _ _ _ _ _ _ _ _ _ _ _ _ _ _ (F0 _ _ _ (.ref (ad b2) :: []))
    refine lv_astore_n (lv' := [(3, .ref (ad b2)), (0, .ref (ad a0)), (1, .int x1), (2, .int x2)]) hx hb dX11_told_8 rfl hl (by decide) rfl (fun ls hl => ?_)
    refine lv_aload_n hx hb dX11_told_9 rfl (lv_at hl 1 rfl) ?_
    rcases hN8 : gR M a0 5 with _ | b8
    · exact absurd (oc_n hN8 h) (by simp)
    replace h := oc_s hN8 h
    have kb8 := hT.f k0 (k := 5) (t := 0) (n := 0) rfl hN8
    refine r_get (T := TX11) (v := .ref (ad b8)) hx hb hts in11 hown hK hP k0 (by decide) rfl 5 (by decide) (hts (.fieldLink RX11 45 "StoneWalk" "island" "LStoneWalk$Island;") (List.mem_of_getElem? (i := 1) (by decide +kernel))) rfl (t := 2) rfl (by show va_rf _ = _; rw [hN8]; rfl) dX11_told_10 ?_
    refine lv_iconst (v := 0) hx hb dX11_told_13 rfl ?_
    refine lv_iload_n hx hb dX11_told_14 rfl (lv_at hl 2 rfl) ?_
    obtain ⟨z9, h9, h⟩ := ob_some h
    refine k_z (va_runV (As := [.int 0, .int x1]) (rest := []) ⟨hx, hb, hml, hown, hts⟩ (c_X0_has (l := l) M b8 0 x1 kb8 h9) (cwV 2 hts gX11_told_X0_has rfl rfl rfl hdV_X0_has ⟨Nat.le_of_ble_eq_true rfl, Nat.le_of_ble_eq_true rfl⟩) (pV (T := TX0) hP hK hD hT hG hS kb8 (by decide) rfl) rfl rfl hl.1 rfl (lv_room (Nat.le_of_ble_eq_true rfl)) dX11_told_15 ⟨Nat.zero_le _, Nat.zero_le _⟩) hS (fun H locs hz9 hP hD hT hS => ?_)
    refine lv_if_eq (tgt := 25) hx hb dX11_told_18 rfl (fun c10 => ?_) (fun c10 => ?_)
    · replace h := ite_t c10 h
      refine lv_aload_n hx hb dX11_told_25 rfl (lv_at hl 1 rfl) ?_
      refine lv_iconst (v := 1) hx hb dX11_told_26 rfl ?_
      obtain ⟨z11, h11, h⟩ := ob_some h
      refine k_i (va_runV (As := [.int 1]) (rest := []) ⟨hx, hb, hml, hown, hts⟩ (c_X11_refused (l := l) M a0 1 k0 h11) (cwV 1 hts gX11_told_X11_refused rfl rfl rfl hdV_X11_refused ⟨Nat.le_of_ble_eq_true rfl, Nat.le_of_ble_eq_true rfl⟩) (pV (T := TX11) hP hK hD hT hG hS k0 (by decide) rfl) rfl rfl hl.1 rfl (lv_room (Nat.le_of_ble_eq_true rfl)) dX11_told_27 ⟨Nat.zero_le _, Nat.zero_le _⟩) hS (fun H locs hP hD hT hS => ?_)
      have hZ := Option.some.inj h
      have hZ1 := congrArg Prod.fst hZ
      have hZ2 := congrArg Prod.snd hZ
      exact r_iret hx hb hr hlocks hP hK hD hT hG hS hZ1 hZ2 dX11_told_30
    · replace h := ite_f c10 h
      refine lv_aload_n hx hb dX11_told_21 rfl (lv_at hl 0 rfl) ?_
      refine lv_ifnonnull (tgt := 31) hx hb dX11_told_22 rfl ?_
      refine lv_aload_n hx hb dX11_told_31 rfl (lv_at hl 1 rfl) ?_
      refine lv_aload_n hx hb dX11_told_32 rfl (lv_at hl 0 rfl) ?_
      refine lv_iload_n hx hb dX11_told_33 rfl (lv_at hl 2 rfl) ?_
      obtain ⟨z12, h12, h⟩ := ob_some h
      refine k_i (va_runV (As := [.int x1]) (rest := [.ref (ad a0)]) ⟨hx, hb, hml, hown, hts⟩ (c_X8_favour (l := l) M b2 x1 kb2 h12) (cwV 1 hts gX11_told_X8_favour rfl rfl rfl hdV_X8_favour ⟨Nat.le_of_ble_eq_true rfl, Nat.le_of_ble_eq_true rfl⟩) (pV (T := TX8) hP hK hD hT hG hS kb2 (by decide) rfl) rfl rfl hl.1 rfl (lv_room (Nat.le_of_ble_eq_true rfl)) dX11_told_34 ⟨Nat.zero_le _, Nat.zero_le _⟩) hS (fun H locs hP hD hT hS => ?_)
      obtain ⟨z13, h13, h⟩ := ob_some h
      refine k_i (va_runV (As := [.int z12]) (rest := []) ⟨hx, hb, hml, hown, hts⟩ (c_X11_granted (l := l) M a0 z12 k0 h13) (cwV 1 hts gX11_told_X11_granted rfl rfl rfl hdV_X11_granted ⟨Nat.le_of_ble_eq_true rfl, Nat.le_of_ble_eq_true rfl⟩) (pV (T := TX11) hP hK hD hT hG hS k0 (by decide) rfl) rfl rfl hl.1 rfl (lv_room (Nat.le_of_ble_eq_true rfl)) dX11_told_37 ⟨Nat.zero_le _, Nat.zero_le _⟩) hS (fun H locs hP hD hT hS => ?_)
      have hZ := Option.some.inj h
      have hZ1 := congrArg Prod.fst hZ
      have hZ2 := congrArg Prod.snd hZ
      exact r_iret hx hb hr hlocks hP hK hD hT hG hS hZ1 hZ2 dX11_told_40
set_option maxHeartbeats 4000000 in
set_option maxRecDepth 100000 in
theorem c_X11_turn {l : Launch} {D : va_G} {ad : Nat → Nat} {cy : Nat → ClassId} {A : Nat → Prop} {g : CG} {q : SE} (M : MM) (a0 : Nat) (x1 : Int32) (x2 : Int32) (k0 : ok g a0 11 0) {Z : (Int32 × MM)} (h : f_X11_turn M a0 x1 x2 = some Z) : Met l yX11_turn wsX11_turn ({ frames := 1, cells := 0, slots := 0, locals := 21 }) (va_Pc [.ref (ad a0), .int x1, .int x2] (Wd D ad cy A g q M)) (va_Qi (fun r u => r = Z.1 ∧ u = Z.2 ∧ zb r) (Wd D ad cy A g q) A) 0 0 A := by
  refine Met.ofW (cc := cX11_turn) (maxL := 4) (ret := (some .boolean)) (by decide) rfl ?_
  intro p e s m args below meth c s₁ B hml hv
  obtain ⟨rfl, hP, hK, hD, hT, hG⟩ := hv
  have hx := B.exec
  have hb := B.bytes
  have hr := B.returns
  have hts := atoms_spec (ws := wsX11_turn) B.pre
  have hown : s.vm.findClass RX11 = some m.cls := findClass_of_methodNamed B.named
  have hlocks := B.notSynchronized
  have in5 : ∀ w ∈ u_ws RX5 TX5 8, w ∈ wsX11_turn := fun w h => List.mem_cons_of_mem _ (List.mem_append_left _ (List.mem_append_right _ h))
  have in11 : ∀ w ∈ u_ws RX11 TX11 8, w ∈ wsX11_turn := fun w h => List.mem_cons_of_mem _ (List.mem_append_left _ (List.mem_append_left _ (List.mem_append_right _ h)))
  have hS : va_S A s.heap s.heap [] := va_S.rf
  have hl := lv_entry ([.ref (ad a0), .int x1, .int x2]) (n := 4) (Nat.le_of_ble_eq_true rfl)
  rw [lg_entry_eq]
  generalize (lg_sl ([.ref (ad a0), .int x1, .int x2]) ++ List.replicate (4 - (lg_sl ([.ref (ad a0), .int x1, .int x2])).length) Slot.unset).toArray = ls at hl ⊢
  have hl : lv_has ls 4 [(0, .ref (ad a0)), (1, .int x1), (2, .int x2)] := hl
  unfold f_X11_turn at h
  refine lv_aload_n hx hb dX11_turn_0 rfl (lv_at hl 0 rfl) ?_
  rcases hN1 : gR M a0 5 with _ | b1
  · exact absurd (oc_n hN1 h) (by simp)
  replace h := oc_s hN1 h
  have kb1 := hT.f k0 (k := 5) (t := 0) (n := 0) rfl hN1
  refine r_get (T := TX11) (v := .ref (ad b1)) hx hb hts in11 hown hK hP k0 (by decide) rfl 5 (by decide) (hts (.fieldLink RX11 45 "StoneWalk" "island" "LStoneWalk$Island;") (List.mem_of_getElem? (i := 1) (by decide +kernel))) rfl (t := 2) rfl (by show va_rf _ = _; rw [hN1]; rfl) dX11_turn_1 ?_
  refine lv_iload_n hx hb dX11_turn_4 rfl (lv_at hl 1 rfl) ?_
  obtain ⟨z2, h2, h⟩ := ob_some h
  refine k_q (va_runV (As := [.int x1]) (rest := []) ⟨hx, hb, hml, hown, hts⟩ (c_X0_statueAt (l := l) M b1 x1 kb1 h2) (cwV 1 hts gX11_turn_X0_statueAt rfl rfl rfl hdV_X0_statueAt ⟨Nat.le_of_ble_eq_true rfl, Nat.le_of_ble_eq_true rfl⟩) (pV (T := TX0) hP hK hD hT hG hS kb1 (by decide) rfl) rfl rfl hl.1 rfl (lv_room (Nat.le_of_ble_eq_true rfl)) dX11_turn_5 ⟨Nat.zero_le _, Nat.zero_le _⟩) hS (fun H locs hq2 hP hD hT hS => ?_)
  rcases hN2 : z2 with _ | b2
  · replace h := oc_n hN2 h
    show W _ _ _ _ _ _ _ _ _ _ _ _ _ _ _ (F0 _ _ _ (.null :: []))
    refine lv_astore_nN (lv' := [(3, .null), (0, .ref (ad a0)), (1, .int x1), (2, .int x2)]) hx hb dX11_turn_8 rfl hl (by decide) rfl (fun ls hl => ?_)
    refine lv_aload_nN hx hb dX11_turn_9 rfl (lv_at hl 0 rfl) ?_
    refine lv_ifnullN (tgt := 20) hx hb dX11_turn_10 rfl ?_
    refine lv_aload_n hx hb dX11_turn_20 rfl (lv_at hl 1 rfl) ?_
    refine lv_iconst (v := 1) hx hb dX11_turn_21 rfl ?_
    obtain ⟨z3, h3, h⟩ := ob_some h
    refine k_z (va_runV (As := [.int 1]) (rest := []) ⟨hx, hb, hml, hown, hts⟩ (c_X11_denied (l := l) M a0 1 k0 h3) (cwV 1 hts gX11_turn_X11_denied rfl rfl rfl hdV_X11_denied ⟨Nat.le_of_ble_eq_true rfl, Nat.le_of_ble_eq_true rfl⟩) (pV (T := TX11) hP hK hD hT hG hS k0 (by decide) rfl) rfl rfl hl.1 rfl (lv_room (Nat.le_of_ble_eq_true rfl)) dX11_turn_22 ⟨Nat.zero_le _, Nat.zero_le _⟩) hS (fun H locs hz3 hP hD hT hS => ?_)
    have hZ := Option.some.inj h
    have hZ1 := congrArg Prod.fst hZ
    have hZ2 := congrArg Prod.snd hZ
    exact r_zret hx hb hr hlocks hP hK hD hT hG hS hz3 hZ1 hZ2 dX11_turn_25
  · replace h := oc_s hN2 h
    have kb2 := hq2 _ hN2
    show W _ _ _ _ _ _ _ _ _ _ _ _ _ _ _ (F0 _ _ _ (.ref (ad b2) :: []))
    refine lv_astore_n (lv' := [(3, .ref (ad b2)), (0, .ref (ad a0)), (1, .int x1), (2, .int x2)]) hx hb dX11_turn_8 rfl hl (by decide) rfl (fun ls hl => ?_)
    refine lv_aload_n hx hb dX11_turn_9 rfl (lv_at hl 0 rfl) ?_
    refine lv_ifnull hx hb dX11_turn_10 ?_
    refine lv_iload_n hx hb dX11_turn_13 rfl (lv_at hl 3 rfl) ?_
    obtain ⟨z4, h4, h⟩ := ob_some h
    refine k_z (va_runS (As := [.int x2]) (rest := []) ⟨hx, hb, hml, hown, hts⟩ (c_X11_isLie (l := l) M x2 h4) (va_cwS 1 hts gX11_turn_X11_isLie rfl rfl rfl hdS_X11_isLie ⟨Nat.le_of_ble_eq_true rfl, Nat.le_of_ble_eq_true rfl⟩) (pS hP hK hD hT hG hS) rfl rfl hl.1 rfl (lv_room (Nat.le_of_ble_eq_true rfl)) dX11_turn_14 ⟨Nat.zero_le _, Nat.zero_le _⟩) hS (fun H locs hz4 hP hD hT hS => ?_)
    refine lv_if_ne (tgt := 26) hx hb dX11_turn_17 rfl (fun c5 => ?_) (fun c5 => ?_)
    · replace h := ite_f c5 h
      refine lv_aload_n hx hb dX11_turn_26 rfl (lv_at hl 0 rfl) ?_
      obtain ⟨z6, h6, h⟩ := ob_some h
      refine k_z (va_runV (As := []) (rest := []) ⟨hx, hb, hml, hown, hts⟩ (c_X5_isLying (l := l) M b2 kb2 h6) (cwV 0 hts gX11_turn_X5_isLying rfl rfl rfl hdV_X5_isLying ⟨Nat.le_of_ble_eq_true rfl, Nat.le_of_ble_eq_true rfl⟩) (pV (T := TX5) hP hK hD hT hG hS kb2 (by decide) rfl) rfl rfl hl.1 rfl (lv_room (Nat.le_of_ble_eq_true rfl)) dX11_turn_27 ⟨Nat.zero_le _, Nat.zero_le _⟩) hS (fun H locs hz6 hP hD hT hS => ?_)
      refine lv_if_ne (tgt := 39) hx hb dX11_turn_30 rfl (fun c7 => ?_) (fun c7 => ?_)
      · replace h := ite_f c7 h
        refine lv_aload_n hx hb dX11_turn_39 rfl (lv_at hl 0 rfl) ?_
        refine lv_iload_n hx hb dX11_turn_40 rfl (lv_at hl 3 rfl) ?_
        refine r_putI (T := TX5) (ty := .int) (v := x2) hx hb hts in5 tyX5 tyX5_ok nmX5 hown hK hP hD hT hS kb2 (by decide) rfl 4 (by decide) (hts (.fieldLink RX11 236 "StoneWalk$Stone" "lie" "I") (List.mem_of_getElem? (i := 2) (by decide +kernel))) rfl rfl (tyX5_ok 4 (by decide)) rfl rfl rfl dX11_turn_41 (fun H locs hP hD hT hS => ?_)
        refine lv_aload_n hx hb dX11_turn_44 rfl (lv_at hl 1 rfl) ?_
        obtain ⟨z8, h8, h⟩ := ob_some h
        refine k_z (va_runV (As := []) (rest := []) ⟨hx, hb, hml, hown, hts⟩ (c_X11_allowed (l := l) (pI M b2 4 x2) a0 k0 h8) (cwV 0 hts gX11_turn_X11_allowed rfl rfl rfl hdV_X11_allowed ⟨Nat.le_of_ble_eq_true rfl, Nat.le_of_ble_eq_true rfl⟩) (pV (T := TX11) hP hK hD hT hG hS k0 (by decide) rfl) rfl rfl hl.1 rfl (lv_room (Nat.le_of_ble_eq_true rfl)) dX11_turn_45 ⟨Nat.zero_le _, Nat.zero_le _⟩) hS (fun H locs hz8 hP hD hT hS => ?_)
        have hZ := Option.some.inj h
        have hZ1 := congrArg Prod.fst hZ
        have hZ2 := congrArg Prod.snd hZ
        exact r_zret hx hb hr hlocks hP hK hD hT hG hS hz8 hZ1 hZ2 dX11_turn_48
      · replace h := ite_t c7 h
        refine lv_aload_n hx hb dX11_turn_33 rfl (lv_at hl 1 rfl) ?_
        refine lv_iconst (v := 5) hx hb dX11_turn_34 rfl ?_
        obtain ⟨z9, h9, h⟩ := ob_some h
        refine k_z (va_runV (As := [.int 5]) (rest := []) ⟨hx, hb, hml, hown, hts⟩ (c_X11_denied (l := l) M a0 5 k0 h9) (cwV 1 hts gX11_turn_X11_denied rfl rfl rfl hdV_X11_denied ⟨Nat.le_of_ble_eq_true rfl, Nat.le_of_ble_eq_true rfl⟩) (pV (T := TX11) hP hK hD hT hG hS k0 (by decide) rfl) rfl rfl hl.1 rfl (lv_room (Nat.le_of_ble_eq_true rfl)) dX11_turn_35 ⟨Nat.zero_le _, Nat.zero_le _⟩) hS (fun H locs hz9 hP hD hT hS => ?_)
        have hZ := Option.some.inj h
        have hZ1 := congrArg Prod.fst hZ
        have hZ2 := congrArg Prod.snd hZ
        exact r_zret hx hb hr hlocks hP hK hD hT hG hS hz9 hZ1 hZ2 dX11_turn_38
    · replace h := ite_t c5 h
      refine lv_aload_n hx hb dX11_turn_20 rfl (lv_at hl 1 rfl) ?_
      refine lv_iconst (v := 1) hx hb dX11_turn_21 rfl ?_
      obtain ⟨z10, h10, h⟩ := ob_some h
      refine k_z (va_runV (As := [.int 1]) (rest := []) ⟨hx, hb, hml, hown, hts⟩ (c_X11_denied (l := l) M a0 1 k0 h10) (cwV 1 hts gX11_turn_X11_denied rfl rfl rfl hdV_X11_denied ⟨Nat.le_of_ble_eq_true rfl, Nat.le_of_ble_eq_true rfl⟩) (pV (T := TX11) hP hK hD hT hG hS k0 (by decide) rfl) rfl rfl hl.1 rfl (lv_room (Nat.le_of_ble_eq_true rfl)) dX11_turn_22 ⟨Nat.zero_le _, Nat.zero_le _⟩) hS (fun H locs hz10 hP hD hT hS => ?_)
      have hZ := Option.some.inj h
      have hZ1 := congrArg Prod.fst hZ
      have hZ2 := congrArg Prod.snd hZ
      exact r_zret hx hb hr hlocks hP hK hD hT hG hS hz10 hZ1 hZ2 dX11_turn_25
set_option maxHeartbeats 4000000 in
set_option maxRecDepth 100000 in
theorem c_X11_hangs {l : Launch} {D : va_G} {ad : Nat → Nat} {cy : Nat → ClassId} {A : Nat → Prop} {g : CG} {q : SE} (M : MM) (a0 : Nat) (k0 : ok g a0 11 0) {Z : (Int32 × MM)} (h : f_X11_hangs M a0 = some Z) : Met l yX11_hangs wsX11_hangs ({ frames := 7, cells := 0, slots := 0, locals := 168 }) (va_Pc [.ref (ad a0)] (Wd D ad cy A g q M)) (va_Qi (fun r u => r = Z.1 ∧ u = Z.2) (Wd D ad cy A g q) A) 0 0 A := by
  refine Met.ofW (cc := cX11_hangs) (maxL := 1) (ret := (some .int)) (by decide) rfl ?_
  intro p e s m args below meth c s₁ B hml hv
  obtain ⟨rfl, hP, hK, hD, hT, hG⟩ := hv
  have hx := B.exec
  have hb := B.bytes
  have hr := B.returns
  have hts := atoms_spec (ws := wsX11_hangs) B.pre
  have hown : s.vm.findClass RX11 = some m.cls := findClass_of_methodNamed B.named
  have hlocks := B.notSynchronized
  have in11 : ∀ w ∈ u_ws RX11 TX11 8, w ∈ wsX11_hangs := fun w h => List.mem_cons_of_mem _ (List.mem_append_left _ (List.mem_append_left _ (List.mem_append_left _ (List.mem_append_left _ (List.mem_append_left _ (List.mem_append_right _ h))))))
  have hS : va_S A s.heap s.heap [] := va_S.rf
  have hl := lv_entry ([.ref (ad a0)]) (n := 1) (Nat.le_of_ble_eq_true rfl)
  rw [lg_entry_eq]
  generalize (lg_sl ([.ref (ad a0)]) ++ List.replicate (1 - (lg_sl ([.ref (ad a0)])).length) Slot.unset).toArray = ls at hl ⊢
  have hl : lv_has ls 1 [(0, .ref (ad a0))] := hl
  unfold f_X11_hangs at h
  refine lv_aload_n hx hb dX11_hangs_0 rfl (lv_at hl 0 rfl) ?_
  rcases hN1 : gR M a0 5 with _ | b1
  · exact absurd (oc_n hN1 h) (by simp)
  replace h := oc_s hN1 h
  have kb1 := hT.f k0 (k := 5) (t := 0) (n := 0) rfl hN1
  refine r_get (T := TX11) (v := .ref (ad b1)) hx hb hts in11 hown hK hP k0 (by decide) rfl 5 (by decide) (hts (.fieldLink RX11 45 "StoneWalk" "island" "LStoneWalk$Island;") (List.mem_of_getElem? (i := 1) (by decide +kernel))) rfl (t := 2) rfl (by show va_rf _ = _; rw [hN1]; rfl) dX11_hangs_1 ?_
  obtain ⟨z2, h2, h⟩ := ob_some h
  refine k_z (va_runV (As := []) (rest := []) ⟨hx, hb, hml, hown, hts⟩ (c_X0_isBare (l := l) M b1 kb1 h2) (cwV 0 hts gX11_hangs_X0_isBare rfl rfl rfl hdV_X0_isBare ⟨Nat.le_of_ble_eq_true rfl, Nat.le_of_ble_eq_true rfl⟩) (pV (T := TX0) hP hK hD hT hG hS kb1 (by decide) rfl) rfl rfl hl.1 rfl (lv_room (Nat.le_of_ble_eq_true rfl)) dX11_hangs_4 ⟨Nat.zero_le _, Nat.zero_le _⟩) hS (fun H locs hz2 hP hD hT hS => ?_)
  refine lv_if_eq (tgt := 16) hx hb dX11_hangs_7 rfl (fun c3 => ?_) (fun c3 => ?_)
  · replace h := ite_t c3 h
    refine lv_aload_n hx hb dX11_hangs_16 rfl (lv_at hl 0 rfl) ?_
    refine lv_aload_n hx hb dX11_hangs_17 rfl (lv_at hl 0 rfl) ?_
    rcases hN4 : gR M a0 5 with _ | b4
    · exact absurd (oc_n hN4 h) (by simp)
    replace h := oc_s hN4 h
    have kb4 := hT.f k0 (k := 5) (t := 0) (n := 0) rfl hN4
    refine r_get (T := TX11) (v := .ref (ad b4)) hx hb hts in11 hown hK hP k0 (by decide) rfl 5 (by decide) (hts (.fieldLink RX11 45 "StoneWalk" "island" "LStoneWalk$Island;") (List.mem_of_getElem? (i := 1) (by decide +kernel))) rfl (t := 2) rfl (by show va_rf _ = _; rw [hN4]; rfl) dX11_hangs_18 ?_
    obtain ⟨z5, h5, h⟩ := ob_some h
    refine k_i (va_runV (As := []) (rest := [.ref (ad a0)]) ⟨hx, hb, hml, hown, hts⟩ (c_X0_decidingStatue (l := l) M b4 kb4 h5) (cwV 0 hts gX11_hangs_X0_decidingStatue rfl rfl rfl hdV_X0_decidingStatue ⟨Nat.le_of_ble_eq_true rfl, Nat.le_of_ble_eq_true rfl⟩) (pV (T := TX0) hP hK hD hT hG hS kb4 (by decide) rfl) rfl rfl hl.1 rfl (lv_room (Nat.le_of_ble_eq_true rfl)) dX11_hangs_21 ⟨Nat.zero_le _, Nat.zero_le _⟩) hS (fun H locs hP hD hT hS => ?_)
    obtain ⟨z6, h6, h⟩ := ob_some h
    refine k_i (va_runV (As := [.int z5]) (rest := []) ⟨hx, hb, hml, hown, hts⟩ (c_X11_granted (l := l) M a0 z5 k0 h6) (cwV 1 hts gX11_hangs_X11_granted rfl rfl rfl hdV_X11_granted ⟨Nat.le_of_ble_eq_true rfl, Nat.le_of_ble_eq_true rfl⟩) (pV (T := TX11) hP hK hD hT hG hS k0 (by decide) rfl) rfl rfl hl.1 rfl (lv_room (Nat.le_of_ble_eq_true rfl)) dX11_hangs_24 ⟨Nat.zero_le _, Nat.zero_le _⟩) hS (fun H locs hP hD hT hS => ?_)
    have hZ := Option.some.inj h
    have hZ1 := congrArg Prod.fst hZ
    have hZ2 := congrArg Prod.snd hZ
    exact r_iret hx hb hr hlocks hP hK hD hT hG hS hZ1 hZ2 dX11_hangs_27
  · replace h := ite_f c3 h
    refine lv_aload_n hx hb dX11_hangs_10 rfl (lv_at hl 0 rfl) ?_
    refine lv_iconst (v := 1) hx hb dX11_hangs_11 rfl ?_
    obtain ⟨z7, h7, h⟩ := ob_some h
    refine k_i (va_runV (As := [.int 1]) (rest := []) ⟨hx, hb, hml, hown, hts⟩ (c_X11_refused (l := l) M a0 1 k0 h7) (cwV 1 hts gX11_hangs_X11_refused rfl rfl rfl hdV_X11_refused ⟨Nat.le_of_ble_eq_true rfl, Nat.le_of_ble_eq_true rfl⟩) (pV (T := TX11) hP hK hD hT hG hS k0 (by decide) rfl) rfl rfl hl.1 rfl (lv_room (Nat.le_of_ble_eq_true rfl)) dX11_hangs_12 ⟨Nat.zero_le _, Nat.zero_le _⟩) hS (fun H locs hP hD hT hS => ?_)
    have hZ := Option.some.inj h
    have hZ1 := congrArg Prod.fst hZ
    have hZ2 := congrArg Prod.snd hZ
    exact r_iret hx hb hr hlocks hP hK hD hT hG hS hZ1 hZ2 dX11_hangs_15
set_option maxHeartbeats 4000000 in
set_option maxRecDepth 100000 in
theorem c_X11_tryout {l : Launch} {D : va_G} {ad : Nat → Nat} {cy : Nat → ClassId} {A : Nat → Prop} {g : CG} {q : SE} (M : MM) (a0 : Nat) (k0 : ok g a0 11 0) {Z : (Int32 × MM)} (h : f_X11_tryout M a0 = some Z) : Met l yX11_tryout wsX11_tryout ({ frames := 7, cells := 0, slots := 0, locals := 173 }) (va_Pc [.ref (ad a0)] (Wd D ad cy A g q M)) (va_Qi (fun r u => r = Z.1 ∧ u = Z.2) (Wd D ad cy A g q) A) 0 0 A := by
  refine Met.ofW (cc := cX11_tryout) (maxL := 2) (ret := (some .int)) (by decide) rfl ?_
  intro p e s m args below meth c s₁ B hml hv
  obtain ⟨rfl, hP, hK, hD, hT, hG⟩ := hv
  have hx := B.exec
  have hb := B.bytes
  have hr := B.returns
  have hts := atoms_spec (ws := wsX11_tryout) B.pre
  have hown : s.vm.findClass RX11 = some m.cls := findClass_of_methodNamed B.named
  have hlocks := B.notSynchronized
  have in11 : ∀ w ∈ u_ws RX11 TX11 8, w ∈ wsX11_tryout := fun w h => List.mem_cons_of_mem _ (List.mem_append_left _ (List.mem_append_left _ (List.mem_append_left _ (List.mem_append_left _ (List.mem_append_left _ (List.mem_append_right _ h))))))
  have hS : va_S A s.heap s.heap [] := va_S.rf
  have hl := lv_entry ([.ref (ad a0)]) (n := 2) (Nat.le_of_ble_eq_true rfl)
  rw [lg_entry_eq]
  generalize (lg_sl ([.ref (ad a0)]) ++ List.replicate (2 - (lg_sl ([.ref (ad a0)])).length) Slot.unset).toArray = ls at hl ⊢
  have hl : lv_has ls 2 [(0, .ref (ad a0))] := hl
  unfold f_X11_tryout at h
  refine lv_aload_n hx hb dX11_tryout_0 rfl (lv_at hl 0 rfl) ?_
  rcases hN1 : gR M a0 5 with _ | b1
  · exact absurd (oc_n hN1 h) (by simp)
  replace h := oc_s hN1 h
  have kb1 := hT.f k0 (k := 5) (t := 0) (n := 0) rfl hN1
  refine r_get (T := TX11) (v := .ref (ad b1)) hx hb hts in11 hown hK hP k0 (by decide) rfl 5 (by decide) (hts (.fieldLink RX11 45 "StoneWalk" "island" "LStoneWalk$Island;") (List.mem_of_getElem? (i := 1) (by decide +kernel))) rfl (t := 2) rfl (by show va_rf _ = _; rw [hN1]; rfl) dX11_tryout_1 ?_
  obtain ⟨z2, h2, h⟩ := ob_some h
  refine k_z (va_runV (As := []) (rest := []) ⟨hx, hb, hml, hown, hts⟩ (c_X0_isBare (l := l) M b1 kb1 h2) (cwV 0 hts gX11_tryout_X0_isBare rfl rfl rfl hdV_X0_isBare ⟨Nat.le_of_ble_eq_true rfl, Nat.le_of_ble_eq_true rfl⟩) (pV (T := TX0) hP hK hD hT hG hS kb1 (by decide) rfl) rfl rfl hl.1 rfl (lv_room (Nat.le_of_ble_eq_true rfl)) dX11_tryout_4 ⟨Nat.zero_le _, Nat.zero_le _⟩) hS (fun H locs hz2 hP hD hT hS => ?_)
  refine lv_if_eq (tgt := 16) hx hb dX11_tryout_7 rfl (fun c3 => ?_) (fun c3 => ?_)
  · replace h := ite_t c3 h
    refine lv_aload_n hx hb dX11_tryout_16 rfl (lv_at hl 0 rfl) ?_
    rcases hN4 : gR M a0 5 with _ | b4
    · exact absurd (oc_n hN4 h) (by simp)
    replace h := oc_s hN4 h
    have kb4 := hT.f k0 (k := 5) (t := 0) (n := 0) rfl hN4
    refine r_get (T := TX11) (v := .ref (ad b4)) hx hb hts in11 hown hK hP k0 (by decide) rfl 5 (by decide) (hts (.fieldLink RX11 45 "StoneWalk" "island" "LStoneWalk$Island;") (List.mem_of_getElem? (i := 1) (by decide +kernel))) rfl (t := 2) rfl (by show va_rf _ = _; rw [hN4]; rfl) dX11_tryout_17 ?_
    obtain ⟨z5, h5, h⟩ := ob_some h
    refine k_i (va_runV (As := []) (rest := []) ⟨hx, hb, hml, hown, hts⟩ (c_X0_bestThing (l := l) M b4 kb4 h5) (cwV 0 hts gX11_tryout_X0_bestThing rfl rfl rfl hdV_X0_bestThing ⟨Nat.le_of_ble_eq_true rfl, Nat.le_of_ble_eq_true rfl⟩) (pV (T := TX0) hP hK hD hT hG hS kb4 (by decide) rfl) rfl rfl hl.1 rfl (lv_room (Nat.le_of_ble_eq_true rfl)) dX11_tryout_20 ⟨Nat.zero_le _, Nat.zero_le _⟩) hS (fun H locs hP hD hT hS => ?_)
    refine lv_istore_n (lv' := [(1, .int z5), (0, .ref (ad a0))]) hx hb dX11_tryout_23 rfl hl (by decide) rfl (fun ls hl => ?_)
    refine lv_iload_n hx hb dX11_tryout_24 rfl (lv_at hl 0 rfl) ?_
    refine lv_iconst (v := (-1)) hx hb dX11_tryout_25 rfl ?_
    refine lv_icmp_ne (tgt := 38) hx hb dX11_tryout_26 rfl (fun c6 => ?_) (fun c6 => ?_)
    · replace h := ite_f c6 h
      refine lv_aload_n hx hb dX11_tryout_38 rfl (lv_at hl 1 rfl) ?_
      refine lv_iload_n hx hb dX11_tryout_39 rfl (lv_at hl 0 rfl) ?_
      obtain ⟨z7, h7, h⟩ := ob_some h
      refine k_i (va_runV (As := [.int z5]) (rest := []) ⟨hx, hb, hml, hown, hts⟩ (c_X11_granted (l := l) M a0 z5 k0 h7) (cwV 1 hts gX11_tryout_X11_granted rfl rfl rfl hdV_X11_granted ⟨Nat.le_of_ble_eq_true rfl, Nat.le_of_ble_eq_true rfl⟩) (pV (T := TX11) hP hK hD hT hG hS k0 (by decide) rfl) rfl rfl hl.1 rfl (lv_room (Nat.le_of_ble_eq_true rfl)) dX11_tryout_40 ⟨Nat.zero_le _, Nat.zero_le _⟩) hS (fun H locs hP hD hT hS => ?_)
      have hZ := Option.some.inj h
      have hZ1 := congrArg Prod.fst hZ
      have hZ2 := congrArg Prod.snd hZ
      exact r_iret hx hb hr hlocks hP hK hD hT hG hS hZ1 hZ2 dX11_tryout_43
    · replace h := ite_t c6 h
      refine lv_aload_n hx hb dX11_tryout_29 rfl (lv_at hl 1 rfl) ?_
      refine lv_bipush (v := 6) hx hb dX11_tryout_30 rfl ?_
      obtain ⟨z8, h8, h⟩ := ob_some h
      refine k_i (va_runV (As := [.int 6]) (rest := []) ⟨hx, hb, hml, hown, hts⟩ (c_X11_refused (l := l) M a0 6 k0 h8) (cwV 1 hts gX11_tryout_X11_refused rfl rfl rfl hdV_X11_refused ⟨Nat.le_of_ble_eq_true rfl, Nat.le_of_ble_eq_true rfl⟩) (pV (T := TX11) hP hK hD hT hG hS k0 (by decide) rfl) rfl rfl hl.1 rfl (lv_room (Nat.le_of_ble_eq_true rfl)) dX11_tryout_32 ⟨Nat.zero_le _, Nat.zero_le _⟩) hS (fun H locs hP hD hT hS => ?_)
      refine lv_goto (tgt := 43) hx hb dX11_tryout_35 rfl ?_
      have hZ := Option.some.inj h
      have hZ1 := congrArg Prod.fst hZ
      have hZ2 := congrArg Prod.snd hZ
      exact r_iret hx hb hr hlocks hP hK hD hT hG hS hZ1 hZ2 dX11_tryout_43
  · replace h := ite_f c3 h
    refine lv_aload_n hx hb dX11_tryout_10 rfl (lv_at hl 0 rfl) ?_
    refine lv_iconst (v := 1) hx hb dX11_tryout_11 rfl ?_
    obtain ⟨z9, h9, h⟩ := ob_some h
    refine k_i (va_runV (As := [.int 1]) (rest := []) ⟨hx, hb, hml, hown, hts⟩ (c_X11_refused (l := l) M a0 1 k0 h9) (cwV 1 hts gX11_tryout_X11_refused rfl rfl rfl hdV_X11_refused ⟨Nat.le_of_ble_eq_true rfl, Nat.le_of_ble_eq_true rfl⟩) (pV (T := TX11) hP hK hD hT hG hS k0 (by decide) rfl) rfl rfl hl.1 rfl (lv_room (Nat.le_of_ble_eq_true rfl)) dX11_tryout_12 ⟨Nat.zero_le _, Nat.zero_le _⟩) hS (fun H locs hP hD hT hS => ?_)
    have hZ := Option.some.inj h
    have hZ1 := congrArg Prod.fst hZ
    have hZ2 := congrArg Prod.snd hZ
    exact r_iret hx hb hr hlocks hP hK hD hT hG hS hZ1 hZ2 dX11_tryout_15
set_option maxHeartbeats 4000000 in
set_option maxRecDepth 100000 in
theorem c_X11_people {l : Launch} {D : va_G} {ad : Nat → Nat} {cy : Nat → ClassId} {A : Nat → Prop} {g : CG} {q : SE} (M : MM) (a0 : Nat) (x1 : Int32) (x2 : Int32) (x3 : Int32) (k0 : ok g a0 11 0) {Z : (Int32 × MM)} (h : f_X11_people M a0 x1 x2 x3 = some Z) : Met l yX11_people wsX11_people ({ frames := 3, cells := 0, slots := 0, locals := 72 }) (va_Pc [.ref (ad a0), .int x1, .int x2, .int x3] (Wd D ad cy A g q M)) (va_Qi (fun r u => r = Z.1 ∧ u = Z.2) (Wd D ad cy A g q) A) 0 0 A := by
  refine Met.ofW (cc := cX11_people) (maxL := 5) (ret := (some .int)) (by decide) rfl ?_
  intro p e s m args below meth c s₁ B hml hv
  obtain ⟨rfl, hP, hK, hD, hT, hG⟩ := hv
  have hx := B.exec
  have hb := B.bytes
  have hr := B.returns
  have hts := atoms_spec (ws := wsX11_people) B.pre
  have hown : s.vm.findClass RX11 = some m.cls := findClass_of_methodNamed B.named
  have hlocks := B.notSynchronized
  have in11 : ∀ w ∈ u_ws RX11 TX11 8, w ∈ wsX11_people := fun w h => List.mem_cons_of_mem _ (List.mem_append_left _ (List.mem_append_left _ (List.mem_append_right _ h)))
  have hS : va_S A s.heap s.heap [] := va_S.rf
  have hl := lv_entry ([.ref (ad a0), .int x1, .int x2, .int x3]) (n := 5) (Nat.le_of_ble_eq_true rfl)
  rw [lg_entry_eq]
  generalize (lg_sl ([.ref (ad a0), .int x1, .int x2, .int x3]) ++ List.replicate (5 - (lg_sl ([.ref (ad a0), .int x1, .int x2, .int x3])).length) Slot.unset).toArray = ls at hl ⊢
  have hl : lv_has ls 5 [(0, .ref (ad a0)), (1, .int x1), (2, .int x2), (3, .int x3)] := hl
  unfold f_X11_people at h
  refine lv_aload_n hx hb dX11_people_0 rfl (lv_at hl 0 rfl) ?_
  rcases hN1 : gR M a0 5 with _ | b1
  · exact absurd (oc_n hN1 h) (by simp)
  replace h := oc_s hN1 h
  have kb1 := hT.f k0 (k := 5) (t := 0) (n := 0) rfl hN1
  refine r_get (T := TX11) (v := .ref (ad b1)) hx hb hts in11 hown hK hP k0 (by decide) rfl 5 (by decide) (hts (.fieldLink RX11 45 "StoneWalk" "island" "LStoneWalk$Island;") (List.mem_of_getElem? (i := 1) (by decide +kernel))) rfl (t := 2) rfl (by show va_rf _ = _; rw [hN1]; rfl) dX11_people_1 ?_
  refine lv_iconst (v := 0) hx hb dX11_people_4 rfl ?_
  refine lv_iload_n hx hb dX11_people_5 rfl (lv_at hl 1 rfl) ?_
  obtain ⟨z2, h2, h⟩ := ob_some h
  refine k_z (va_runV (As := [.int 0, .int x1]) (rest := []) ⟨hx, hb, hml, hown, hts⟩ (c_X0_has (l := l) M b1 0 x1 kb1 h2) (cwV 2 hts gX11_people_X0_has rfl rfl rfl hdV_X0_has ⟨Nat.le_of_ble_eq_true rfl, Nat.le_of_ble_eq_true rfl⟩) (pV (T := TX0) hP hK hD hT hG hS kb1 (by decide) rfl) rfl rfl hl.1 rfl (lv_room (Nat.le_of_ble_eq_true rfl)) dX11_people_6 ⟨Nat.zero_le _, Nat.zero_le _⟩) hS (fun H locs hz2 hP hD hT hS => ?_)
  refine lv_if_ne (tgt := 18) hx hb dX11_people_9 rfl (fun c3 => ?_) (fun c3 => ?_)
  · replace h := ite_f c3 h
    refine lv_iload_n hx hb dX11_people_18 rfl (lv_at hl 2 rfl) ?_
    refine lv_iconst (v := 1) hx hb dX11_people_19 rfl ?_
    refine lv_icmp_lt (tgt := 30) hx hb dX11_people_20 rfl (fun c4 => ?_) (fun c4 => ?_)
    · replace h := ite_t c4 h
      refine lv_aload_n hx hb dX11_people_30 rfl (lv_at hl 0 rfl) ?_
      refine lv_iconst (v := 2) hx hb dX11_people_31 rfl ?_
      obtain ⟨z5, h5, h⟩ := ob_some h
      refine k_i (va_runV (As := [.int 2]) (rest := []) ⟨hx, hb, hml, hown, hts⟩ (c_X11_refused (l := l) M a0 2 k0 h5) (cwV 1 hts gX11_people_X11_refused rfl rfl rfl hdV_X11_refused ⟨Nat.le_of_ble_eq_true rfl, Nat.le_of_ble_eq_true rfl⟩) (pV (T := TX11) hP hK hD hT hG hS k0 (by decide) rfl) rfl rfl hl.1 rfl (lv_room (Nat.le_of_ble_eq_true rfl)) dX11_people_32 ⟨Nat.zero_le _, Nat.zero_le _⟩) hS (fun H locs hP hD hT hS => ?_)
      have hZ := Option.some.inj h
      have hZ1 := congrArg Prod.fst hZ
      have hZ2 := congrArg Prod.snd hZ
      exact r_iret hx hb hr hlocks hP hK hD hT hG hS hZ1 hZ2 dX11_people_35
    · replace h := ite_f c4 h
      refine lv_iload_n hx hb dX11_people_23 rfl (lv_at hl 2 rfl) ?_
      refine lv_sipush (v := 400) hx hb dX11_people_24 rfl ?_
      refine lv_icmp_le (tgt := 36) hx hb dX11_people_27 rfl (fun c6 => ?_) (fun c6 => ?_)
      · replace h := ite_t c6 h
        refine lv_aload_n hx hb dX11_people_36 rfl (lv_at hl 0 rfl) ?_
        rcases hN7 : gR M a0 5 with _ | b7
        · exact absurd (oc_n hN7 h) (by simp)
        replace h := oc_s hN7 h
        have kb7 := hT.f k0 (k := 5) (t := 0) (n := 0) rfl hN7
        refine r_get (T := TX11) (v := .ref (ad b7)) hx hb hts in11 hown hK hP k0 (by decide) rfl 5 (by decide) (hts (.fieldLink RX11 45 "StoneWalk" "island" "LStoneWalk$Island;") (List.mem_of_getElem? (i := 1) (by decide +kernel))) rfl (t := 2) rfl (by show va_rf _ = _; rw [hN7]; rfl) dX11_people_37 ?_
        refine lv_iload_n hx hb dX11_people_40 rfl (lv_at hl 1 rfl) ?_
        refine lv_iload_n hx hb dX11_people_41 rfl (lv_at hl 2 rfl) ?_
        refine lv_iload_n hx hb dX11_people_42 rfl (lv_at hl 3 rfl) ?_
        obtain ⟨z8, h8, h⟩ := ob_some h
        refine k_i (va_runV (As := [.int x1, .int x2, .int x3]) (rest := []) ⟨hx, hb, hml, hown, hts⟩ (c_X0_peopleByTrials (l := l) M b7 x1 x2 x3 kb7 h8) (cwV 3 hts gX11_people_X0_peopleByTrials rfl rfl rfl hdV_X0_peopleByTrials ⟨Nat.le_of_ble_eq_true rfl, Nat.le_of_ble_eq_true rfl⟩) (pV (T := TX0) hP hK hD hT hG hS kb7 (by decide) rfl) rfl rfl hl.1 rfl (lv_room (Nat.le_of_ble_eq_true rfl)) dX11_people_43 ⟨Nat.zero_le _, Nat.zero_le _⟩) hS (fun H locs hP hD hT hS => ?_)
        refine lv_istore (lv' := [(4, .int z8), (0, .ref (ad a0)), (1, .int x1), (2, .int x2), (3, .int x3)]) hx hb dX11_people_46 hl (by decide) rfl (fun ls hl => ?_)
        refine lv_iload hx hb dX11_people_48 (lv_at hl 0 rfl) ?_
        refine lv_iconst (v := (-1)) hx hb dX11_people_50 rfl ?_
        refine lv_icmp_ne (tgt := 63) hx hb dX11_people_51 rfl (fun c9 => ?_) (fun c9 => ?_)
        · replace h := ite_f c9 h
          refine lv_aload_n hx hb dX11_people_63 rfl (lv_at hl 1 rfl) ?_
          refine lv_iload hx hb dX11_people_64 (lv_at hl 0 rfl) ?_
          obtain ⟨z10, h10, h⟩ := ob_some h
          refine k_i (va_runV (As := [.int z8]) (rest := []) ⟨hx, hb, hml, hown, hts⟩ (c_X11_granted (l := l) M a0 z8 k0 h10) (cwV 1 hts gX11_people_X11_granted rfl rfl rfl hdV_X11_granted ⟨Nat.le_of_ble_eq_true rfl, Nat.le_of_ble_eq_true rfl⟩) (pV (T := TX11) hP hK hD hT hG hS k0 (by decide) rfl) rfl rfl hl.1 rfl (lv_room (Nat.le_of_ble_eq_true rfl)) dX11_people_66 ⟨Nat.zero_le _, Nat.zero_le _⟩) hS (fun H locs hP hD hT hS => ?_)
          have hZ := Option.some.inj h
          have hZ1 := congrArg Prod.fst hZ
          have hZ2 := congrArg Prod.snd hZ
          exact r_iret hx hb hr hlocks hP hK hD hT hG hS hZ1 hZ2 dX11_people_69
        · replace h := ite_t c9 h
          refine lv_aload_n hx hb dX11_people_54 rfl (lv_at hl 1 rfl) ?_
          refine lv_bipush (v := 6) hx hb dX11_people_55 rfl ?_
          obtain ⟨z11, h11, h⟩ := ob_some h
          refine k_i (va_runV (As := [.int 6]) (rest := []) ⟨hx, hb, hml, hown, hts⟩ (c_X11_refused (l := l) M a0 6 k0 h11) (cwV 1 hts gX11_people_X11_refused rfl rfl rfl hdV_X11_refused ⟨Nat.le_of_ble_eq_true rfl, Nat.le_of_ble_eq_true rfl⟩) (pV (T := TX11) hP hK hD hT hG hS k0 (by decide) rfl) rfl rfl hl.1 rfl (lv_room (Nat.le_of_ble_eq_true rfl)) dX11_people_57 ⟨Nat.zero_le _, Nat.zero_le _⟩) hS (fun H locs hP hD hT hS => ?_)
          refine lv_goto (tgt := 69) hx hb dX11_people_60 rfl ?_
          have hZ := Option.some.inj h
          have hZ1 := congrArg Prod.fst hZ
          have hZ2 := congrArg Prod.snd hZ
          exact r_iret hx hb hr hlocks hP hK hD hT hG hS hZ1 hZ2 dX11_people_69
      · replace h := ite_f c6 h
        refine lv_aload_n hx hb dX11_people_30 rfl (lv_at hl 0 rfl) ?_
        refine lv_iconst (v := 2) hx hb dX11_people_31 rfl ?_
        obtain ⟨z12, h12, h⟩ := ob_some h
        refine k_i (va_runV (As := [.int 2]) (rest := []) ⟨hx, hb, hml, hown, hts⟩ (c_X11_refused (l := l) M a0 2 k0 h12) (cwV 1 hts gX11_people_X11_refused rfl rfl rfl hdV_X11_refused ⟨Nat.le_of_ble_eq_true rfl, Nat.le_of_ble_eq_true rfl⟩) (pV (T := TX11) hP hK hD hT hG hS k0 (by decide) rfl) rfl rfl hl.1 rfl (lv_room (Nat.le_of_ble_eq_true rfl)) dX11_people_32 ⟨Nat.zero_le _, Nat.zero_le _⟩) hS (fun H locs hP hD hT hS => ?_)
        have hZ := Option.some.inj h
        have hZ1 := congrArg Prod.fst hZ
        have hZ2 := congrArg Prod.snd hZ
        exact r_iret hx hb hr hlocks hP hK hD hT hG hS hZ1 hZ2 dX11_people_35
  · replace h := ite_t c3 h
    refine lv_aload_n hx hb dX11_people_12 rfl (lv_at hl 0 rfl) ?_
    refine lv_iconst (v := 1) hx hb dX11_people_13 rfl ?_
    obtain ⟨z13, h13, h⟩ := ob_some h
    refine k_i (va_runV (As := [.int 1]) (rest := []) ⟨hx, hb, hml, hown, hts⟩ (c_X11_refused (l := l) M a0 1 k0 h13) (cwV 1 hts gX11_people_X11_refused rfl rfl rfl hdV_X11_refused ⟨Nat.le_of_ble_eq_true rfl, Nat.le_of_ble_eq_true rfl⟩) (pV (T := TX11) hP hK hD hT hG hS k0 (by decide) rfl) rfl rfl hl.1 rfl (lv_room (Nat.le_of_ble_eq_true rfl)) dX11_people_14 ⟨Nat.zero_le _, Nat.zero_le _⟩) hS (fun H locs hP hD hT hS => ?_)
    have hZ := Option.some.inj h
    have hZ1 := congrArg Prod.fst hZ
    have hZ2 := congrArg Prod.snd hZ
    exact r_iret hx hb hr hlocks hP hK hD hT hG hS hZ1 hZ2 dX11_people_17
set_option maxHeartbeats 4000000 in
set_option maxRecDepth 100000 in
theorem c_X11_takes {l : Launch} {D : va_G} {ad : Nat → Nat} {cy : Nat → ClassId} {A : Nat → Prop} {g : CG} {q : SE} (M : MM) (a0 : Nat) (x1 : Int32) (x2 : Int32) (x3 : Int32) (k0 : ok g a0 11 0) {Z : (Int32 × MM)} (h : f_X11_takes M a0 x1 x2 x3 = some Z) : Met l yX11_takes wsX11_takes ({ frames := 3, cells := 0, slots := 0, locals := 71 }) (va_Pc [.ref (ad a0), .int x1, .int x2, .int x3] (Wd D ad cy A g q M)) (va_Qi (fun r u => r = Z.1 ∧ u = Z.2) (Wd D ad cy A g q) A) 0 0 A := by
  refine Met.ofW (cc := cX11_takes) (maxL := 5) (ret := (some .int)) (by decide) rfl ?_
  intro p e s m args below meth c s₁ B hml hv
  obtain ⟨rfl, hP, hK, hD, hT, hG⟩ := hv
  have hx := B.exec
  have hb := B.bytes
  have hr := B.returns
  have hts := atoms_spec (ws := wsX11_takes) B.pre
  have hown : s.vm.findClass RX11 = some m.cls := findClass_of_methodNamed B.named
  have hlocks := B.notSynchronized
  have in11 : ∀ w ∈ u_ws RX11 TX11 8, w ∈ wsX11_takes := fun w h => List.mem_cons_of_mem _ (List.mem_append_left _ (List.mem_append_left _ (List.mem_append_right _ h)))
  have hS : va_S A s.heap s.heap [] := va_S.rf
  have hl := lv_entry ([.ref (ad a0), .int x1, .int x2, .int x3]) (n := 5) (Nat.le_of_ble_eq_true rfl)
  rw [lg_entry_eq]
  generalize (lg_sl ([.ref (ad a0), .int x1, .int x2, .int x3]) ++ List.replicate (5 - (lg_sl ([.ref (ad a0), .int x1, .int x2, .int x3])).length) Slot.unset).toArray = ls at hl ⊢
  have hl : lv_has ls 5 [(0, .ref (ad a0)), (1, .int x1), (2, .int x2), (3, .int x3)] := hl
  unfold f_X11_takes at h
  refine lv_aload_n hx hb dX11_takes_0 rfl (lv_at hl 0 rfl) ?_
  rcases hN1 : gR M a0 5 with _ | b1
  · exact absurd (oc_n hN1 h) (by simp)
  replace h := oc_s hN1 h
  have kb1 := hT.f k0 (k := 5) (t := 0) (n := 0) rfl hN1
  refine r_get (T := TX11) (v := .ref (ad b1)) hx hb hts in11 hown hK hP k0 (by decide) rfl 5 (by decide) (hts (.fieldLink RX11 45 "StoneWalk" "island" "LStoneWalk$Island;") (List.mem_of_getElem? (i := 1) (by decide +kernel))) rfl (t := 2) rfl (by show va_rf _ = _; rw [hN1]; rfl) dX11_takes_1 ?_
  refine lv_iconst (v := 0) hx hb dX11_takes_4 rfl ?_
  refine lv_iload_n hx hb dX11_takes_5 rfl (lv_at hl 1 rfl) ?_
  obtain ⟨z2, h2, h⟩ := ob_some h
  refine k_z (va_runV (As := [.int 0, .int x1]) (rest := []) ⟨hx, hb, hml, hown, hts⟩ (c_X0_has (l := l) M b1 0 x1 kb1 h2) (cwV 2 hts gX11_takes_X0_has rfl rfl rfl hdV_X0_has ⟨Nat.le_of_ble_eq_true rfl, Nat.le_of_ble_eq_true rfl⟩) (pV (T := TX0) hP hK hD hT hG hS kb1 (by decide) rfl) rfl rfl hl.1 rfl (lv_room (Nat.le_of_ble_eq_true rfl)) dX11_takes_6 ⟨Nat.zero_le _, Nat.zero_le _⟩) hS (fun H locs hz2 hP hD hT hS => ?_)
  refine lv_if_ne (tgt := 18) hx hb dX11_takes_9 rfl (fun c3 => ?_) (fun c3 => ?_)
  · replace h := ite_f c3 h
    refine lv_iload_n hx hb dX11_takes_18 rfl (lv_at hl 2 rfl) ?_
    refine lv_iconst (v := 1) hx hb dX11_takes_19 rfl ?_
    refine lv_icmp_lt (tgt := 30) hx hb dX11_takes_20 rfl (fun c4 => ?_) (fun c4 => ?_)
    · replace h := ite_t c4 h
      refine lv_aload_n hx hb dX11_takes_30 rfl (lv_at hl 0 rfl) ?_
      refine lv_iconst (v := 2) hx hb dX11_takes_31 rfl ?_
      obtain ⟨z5, h5, h⟩ := ob_some h
      refine k_i (va_runV (As := [.int 2]) (rest := []) ⟨hx, hb, hml, hown, hts⟩ (c_X11_refused (l := l) M a0 2 k0 h5) (cwV 1 hts gX11_takes_X11_refused rfl rfl rfl hdV_X11_refused ⟨Nat.le_of_ble_eq_true rfl, Nat.le_of_ble_eq_true rfl⟩) (pV (T := TX11) hP hK hD hT hG hS k0 (by decide) rfl) rfl rfl hl.1 rfl (lv_room (Nat.le_of_ble_eq_true rfl)) dX11_takes_32 ⟨Nat.zero_le _, Nat.zero_le _⟩) hS (fun H locs hP hD hT hS => ?_)
      have hZ := Option.some.inj h
      have hZ1 := congrArg Prod.fst hZ
      have hZ2 := congrArg Prod.snd hZ
      exact r_iret hx hb hr hlocks hP hK hD hT hG hS hZ1 hZ2 dX11_takes_35
    · replace h := ite_f c4 h
      refine lv_iload_n hx hb dX11_takes_23 rfl (lv_at hl 2 rfl) ?_
      refine lv_sipush (v := 9999) hx hb dX11_takes_24 rfl ?_
      refine lv_icmp_le (tgt := 36) hx hb dX11_takes_27 rfl (fun c6 => ?_) (fun c6 => ?_)
      · replace h := ite_t c6 h
        refine lv_aload_n hx hb dX11_takes_36 rfl (lv_at hl 0 rfl) ?_
        rcases hN7 : gR M a0 5 with _ | b7
        · exact absurd (oc_n hN7 h) (by simp)
        replace h := oc_s hN7 h
        have kb7 := hT.f k0 (k := 5) (t := 0) (n := 0) rfl hN7
        refine r_get (T := TX11) (v := .ref (ad b7)) hx hb hts in11 hown hK hP k0 (by decide) rfl 5 (by decide) (hts (.fieldLink RX11 45 "StoneWalk" "island" "LStoneWalk$Island;") (List.mem_of_getElem? (i := 1) (by decide +kernel))) rfl (t := 2) rfl (by show va_rf _ = _; rw [hN7]; rfl) dX11_takes_37 ?_
        refine lv_iload_n hx hb dX11_takes_40 rfl (lv_at hl 1 rfl) ?_
        refine lv_iload_n hx hb dX11_takes_41 rfl (lv_at hl 2 rfl) ?_
        refine lv_iload_n hx hb dX11_takes_42 rfl (lv_at hl 3 rfl) ?_
        obtain ⟨z8, h8, h⟩ := ob_some h
        refine k_i (va_runV (As := [.int x1, .int x2, .int x3]) (rest := []) ⟨hx, hb, hml, hown, hts⟩ (c_X0_minutesByTrials (l := l) M b7 x1 x2 x3 kb7 h8) (cwV 3 hts gX11_takes_X0_minutesByTrials rfl rfl rfl hdV_X0_minutesByTrials ⟨Nat.le_of_ble_eq_true rfl, Nat.le_of_ble_eq_true rfl⟩) (pV (T := TX0) hP hK hD hT hG hS kb7 (by decide) rfl) rfl rfl hl.1 rfl (lv_room (Nat.le_of_ble_eq_true rfl)) dX11_takes_43 ⟨Nat.zero_le _, Nat.zero_le _⟩) hS (fun H locs hP hD hT hS => ?_)
        refine lv_istore (lv' := [(4, .int z8), (0, .ref (ad a0)), (1, .int x1), (2, .int x2), (3, .int x3)]) hx hb dX11_takes_46 hl (by decide) rfl (fun ls hl => ?_)
        refine lv_iload hx hb dX11_takes_48 (lv_at hl 0 rfl) ?_
        refine lv_iconst (v := (-1)) hx hb dX11_takes_50 rfl ?_
        refine lv_icmp_ne (tgt := 63) hx hb dX11_takes_51 rfl (fun c9 => ?_) (fun c9 => ?_)
        · replace h := ite_f c9 h
          refine lv_aload_n hx hb dX11_takes_63 rfl (lv_at hl 1 rfl) ?_
          refine lv_iload hx hb dX11_takes_64 (lv_at hl 0 rfl) ?_
          obtain ⟨z10, h10, h⟩ := ob_some h
          refine k_i (va_runV (As := [.int z8]) (rest := []) ⟨hx, hb, hml, hown, hts⟩ (c_X11_granted (l := l) M a0 z8 k0 h10) (cwV 1 hts gX11_takes_X11_granted rfl rfl rfl hdV_X11_granted ⟨Nat.le_of_ble_eq_true rfl, Nat.le_of_ble_eq_true rfl⟩) (pV (T := TX11) hP hK hD hT hG hS k0 (by decide) rfl) rfl rfl hl.1 rfl (lv_room (Nat.le_of_ble_eq_true rfl)) dX11_takes_66 ⟨Nat.zero_le _, Nat.zero_le _⟩) hS (fun H locs hP hD hT hS => ?_)
          have hZ := Option.some.inj h
          have hZ1 := congrArg Prod.fst hZ
          have hZ2 := congrArg Prod.snd hZ
          exact r_iret hx hb hr hlocks hP hK hD hT hG hS hZ1 hZ2 dX11_takes_69
        · replace h := ite_t c9 h
          refine lv_aload_n hx hb dX11_takes_54 rfl (lv_at hl 1 rfl) ?_
          refine lv_bipush (v := 6) hx hb dX11_takes_55 rfl ?_
          obtain ⟨z11, h11, h⟩ := ob_some h
          refine k_i (va_runV (As := [.int 6]) (rest := []) ⟨hx, hb, hml, hown, hts⟩ (c_X11_refused (l := l) M a0 6 k0 h11) (cwV 1 hts gX11_takes_X11_refused rfl rfl rfl hdV_X11_refused ⟨Nat.le_of_ble_eq_true rfl, Nat.le_of_ble_eq_true rfl⟩) (pV (T := TX11) hP hK hD hT hG hS k0 (by decide) rfl) rfl rfl hl.1 rfl (lv_room (Nat.le_of_ble_eq_true rfl)) dX11_takes_57 ⟨Nat.zero_le _, Nat.zero_le _⟩) hS (fun H locs hP hD hT hS => ?_)
          refine lv_goto (tgt := 69) hx hb dX11_takes_60 rfl ?_
          have hZ := Option.some.inj h
          have hZ1 := congrArg Prod.fst hZ
          have hZ2 := congrArg Prod.snd hZ
          exact r_iret hx hb hr hlocks hP hK hD hT hG hS hZ1 hZ2 dX11_takes_69
      · replace h := ite_f c6 h
        refine lv_aload_n hx hb dX11_takes_30 rfl (lv_at hl 0 rfl) ?_
        refine lv_iconst (v := 2) hx hb dX11_takes_31 rfl ?_
        obtain ⟨z12, h12, h⟩ := ob_some h
        refine k_i (va_runV (As := [.int 2]) (rest := []) ⟨hx, hb, hml, hown, hts⟩ (c_X11_refused (l := l) M a0 2 k0 h12) (cwV 1 hts gX11_takes_X11_refused rfl rfl rfl hdV_X11_refused ⟨Nat.le_of_ble_eq_true rfl, Nat.le_of_ble_eq_true rfl⟩) (pV (T := TX11) hP hK hD hT hG hS k0 (by decide) rfl) rfl rfl hl.1 rfl (lv_room (Nat.le_of_ble_eq_true rfl)) dX11_takes_32 ⟨Nat.zero_le _, Nat.zero_le _⟩) hS (fun H locs hP hD hT hS => ?_)
        have hZ := Option.some.inj h
        have hZ1 := congrArg Prod.fst hZ
        have hZ2 := congrArg Prod.snd hZ
        exact r_iret hx hb hr hlocks hP hK hD hT hG hS hZ1 hZ2 dX11_takes_35
  · replace h := ite_t c3 h
    refine lv_aload_n hx hb dX11_takes_12 rfl (lv_at hl 0 rfl) ?_
    refine lv_iconst (v := 1) hx hb dX11_takes_13 rfl ?_
    obtain ⟨z13, h13, h⟩ := ob_some h
    refine k_i (va_runV (As := [.int 1]) (rest := []) ⟨hx, hb, hml, hown, hts⟩ (c_X11_refused (l := l) M a0 1 k0 h13) (cwV 1 hts gX11_takes_X11_refused rfl rfl rfl hdV_X11_refused ⟨Nat.le_of_ble_eq_true rfl, Nat.le_of_ble_eq_true rfl⟩) (pV (T := TX11) hP hK hD hT hG hS k0 (by decide) rfl) rfl rfl hl.1 rfl (lv_room (Nat.le_of_ble_eq_true rfl)) dX11_takes_14 ⟨Nat.zero_le _, Nat.zero_le _⟩) hS (fun H locs hP hD hT hS => ?_)
    have hZ := Option.some.inj h
    have hZ1 := congrArg Prod.fst hZ
    have hZ2 := congrArg Prod.snd hZ
    exact r_iret hx hb hr hlocks hP hK hD hT hG hS hZ1 hZ2 dX11_takes_17
set_option maxHeartbeats 4000000 in
set_option maxRecDepth 100000 in
theorem c_X11_off {l : Launch} {D : va_G} {ad : Nat → Nat} {cy : Nat → ClassId} {A : Nat → Prop} {g : CG} {q : SE} (M : MM) (a0 : Nat) (x1 : Int32) (k0 : ok g a0 11 0) {Z : (Int32 × MM)} (h : f_X11_off M a0 x1 = some Z) : Met l yX11_off wsX11_off ({ frames := 2, cells := 0, slots := 0, locals := 46 }) (va_Pc [.ref (ad a0), .int x1] (Wd D ad cy A g q M)) (va_Qi (fun r u => r = Z.1 ∧ u = Z.2) (Wd D ad cy A g q) A) 0 0 A := by
  refine Met.ofW (cc := cX11_off) (maxL := 4) (ret := (some .int)) (by decide) rfl ?_
  intro p e s m args below meth c s₁ B hml hv
  obtain ⟨rfl, hP, hK, hD, hT, hG⟩ := hv
  have hx := B.exec
  have hb := B.bytes
  have hr := B.returns
  have hts := atoms_spec (ws := wsX11_off) B.pre
  have hown : s.vm.findClass RX11 = some m.cls := findClass_of_methodNamed B.named
  have hlocks := B.notSynchronized
  have in9 : ∀ w ∈ u_ws RX9 TX9 5, w ∈ wsX11_off := fun w h => List.mem_cons_of_mem _ (List.mem_append_left _ (List.mem_append_left _ (List.mem_append_right _ h)))
  have in11 : ∀ w ∈ u_ws RX11 TX11 8, w ∈ wsX11_off := fun w h => List.mem_cons_of_mem _ (List.mem_append_left _ (List.mem_append_left _ (List.mem_append_left _ (List.mem_append_right _ h))))
  have hS : va_S A s.heap s.heap [] := va_S.rf
  have hl := lv_entry ([.ref (ad a0), .int x1]) (n := 4) (Nat.le_of_ble_eq_true rfl)
  rw [lg_entry_eq]
  generalize (lg_sl ([.ref (ad a0), .int x1]) ++ List.replicate (4 - (lg_sl ([.ref (ad a0), .int x1])).length) Slot.unset).toArray = ls at hl ⊢
  have hl : lv_has ls 4 [(0, .ref (ad a0)), (1, .int x1)] := hl
  unfold f_X11_off at h
  refine lv_aload_n hx hb dX11_off_0 rfl (lv_at hl 0 rfl) ?_
  rcases hN1 : gR M a0 5 with _ | b1
  · exact absurd (oc_n hN1 h) (by simp)
  replace h := oc_s hN1 h
  have kb1 := hT.f k0 (k := 5) (t := 0) (n := 0) rfl hN1
  refine r_get (T := TX11) (v := .ref (ad b1)) hx hb hts in11 hown hK hP k0 (by decide) rfl 5 (by decide) (hts (.fieldLink RX11 45 "StoneWalk" "island" "LStoneWalk$Island;") (List.mem_of_getElem? (i := 1) (by decide +kernel))) rfl (t := 2) rfl (by show va_rf _ = _; rw [hN1]; rfl) dX11_off_1 ?_
  refine lv_iload_n hx hb dX11_off_4 rfl (lv_at hl 1 rfl) ?_
  obtain ⟨z2, h2, h⟩ := ob_some h
  refine k_q (va_runV (As := [.int x1]) (rest := []) ⟨hx, hb, hml, hown, hts⟩ (c_X0_trialAt (l := l) M b1 x1 kb1 h2) (cwV 1 hts gX11_off_X0_trialAt rfl rfl rfl hdV_X0_trialAt ⟨Nat.le_of_ble_eq_true rfl, Nat.le_of_ble_eq_true rfl⟩) (pV (T := TX0) hP hK hD hT hG hS kb1 (by decide) rfl) rfl rfl hl.1 rfl (lv_room (Nat.le_of_ble_eq_true rfl)) dX11_off_5 ⟨Nat.zero_le _, Nat.zero_le _⟩) hS (fun H locs hq2 hP hD hT hS => ?_)
  rcases hN2 : z2 with _ | b2
  · replace h := oc_n hN2 h
    show W _ _ _ _ _ _ _ _ _ _ _ _ _ _ _ (F0 _ _ _ (.null :: []))
    refine lv_astore_nN (lv' := [(2, .null), (0, .ref (ad a0)), (1, .int x1)]) hx hb dX11_off_8 rfl hl (by decide) rfl (fun ls hl => ?_)
    refine lv_aload_nN hx hb dX11_off_9 rfl (lv_at hl 0 rfl) ?_
    refine lv_ifnonnullN hx hb dX11_off_10 ?_
    refine lv_null hx hb dX11_off_13 ?_
    refine lv_goto (tgt := 28) hx hb dX11_off_14 rfl ?_
    refine lv_astore_nN (lv' := [(3, .null), (2, .null), (0, .ref (ad a0)), (1, .int x1)]) hx hb dX11_off_28 rfl hl (by decide) rfl (fun ls hl => ?_)
    refine lv_aload_nN hx hb dX11_off_29 rfl (lv_at hl 1 rfl) ?_
    refine lv_ifnullN (tgt := 37) hx hb dX11_off_30 rfl ?_
    refine lv_aload_n hx hb dX11_off_37 rfl (lv_at hl 2 rfl) ?_
    refine lv_iconst (v := 1) hx hb dX11_off_38 rfl ?_
    obtain ⟨z3, h3, h⟩ := ob_some h
    refine k_i (va_runV (As := [.int 1]) (rest := []) ⟨hx, hb, hml, hown, hts⟩ (c_X11_unknown (l := l) M a0 1 k0 h3) (cwV 1 hts gX11_off_X11_unknown rfl rfl rfl hdV_X11_unknown ⟨Nat.le_of_ble_eq_true rfl, Nat.le_of_ble_eq_true rfl⟩) (pV (T := TX11) hP hK hD hT hG hS k0 (by decide) rfl) rfl rfl hl.1 rfl (lv_room (Nat.le_of_ble_eq_true rfl)) dX11_off_39 ⟨Nat.zero_le _, Nat.zero_le _⟩) hS (fun H locs hP hD hT hS => ?_)
    have hZ := Option.some.inj h
    have hZ1 := congrArg Prod.fst hZ
    have hZ2 := congrArg Prod.snd hZ
    exact r_iret hx hb hr hlocks hP hK hD hT hG hS hZ1 hZ2 dX11_off_42
  · replace h := oc_s hN2 h
    have kb2 := hq2 _ hN2
    show W _ _ _ _ _ _ _ _ _ _ _ _ _ _ _ (F0 _ _ _ (.ref (ad b2) :: []))
    refine lv_astore_n (lv' := [(2, .ref (ad b2)), (0, .ref (ad a0)), (1, .int x1)]) hx hb dX11_off_8 rfl hl (by decide) rfl (fun ls hl => ?_)
    refine lv_aload_n hx hb dX11_off_9 rfl (lv_at hl 0 rfl) ?_
    refine lv_ifnonnull (tgt := 17) hx hb dX11_off_10 rfl ?_
    refine lv_aload_n hx hb dX11_off_17 rfl (lv_at hl 1 rfl) ?_
    rcases hN4 : gR M a0 5 with _ | b4
    · exact absurd (oc_n hN4 h) (by simp)
    replace h := oc_s hN4 h
    have kb4 := hT.f k0 (k := 5) (t := 0) (n := 0) rfl hN4
    refine r_get (T := TX11) (v := .ref (ad b4)) hx hb hts in11 hown hK hP k0 (by decide) rfl 5 (by decide) (hts (.fieldLink RX11 45 "StoneWalk" "island" "LStoneWalk$Island;") (List.mem_of_getElem? (i := 1) (by decide +kernel))) rfl (t := 2) rfl (by show va_rf _ = _; rw [hN4]; rfl) dX11_off_18 ?_
    refine lv_aload_n hx hb dX11_off_21 rfl (lv_at hl 0 rfl) ?_
    refine r_get (T := TX9) (v := .int (gI M b2 0)) hx hb hts in9 hown hK hP kb2 (by decide) rfl 0 (by decide) (hts (.fieldLink RX11 280 "StoneWalk$Trial" "way" "I") (List.mem_of_getElem? (i := 2) (by decide +kernel))) rfl (t := 0) rfl rfl dX11_off_22 ?_
    obtain ⟨z5, h5, h⟩ := ob_some h
    refine k_q (va_runV (As := [.int (gI M b2 0)]) (rest := []) ⟨hx, hb, hml, hown, hts⟩ (c_X0_wayAt (l := l) M b4 (gI M b2 0) kb4 h5) (cwV 1 hts gX11_off_X0_wayAt rfl rfl rfl hdV_X0_wayAt ⟨Nat.le_of_ble_eq_true rfl, Nat.le_of_ble_eq_true rfl⟩) (pV (T := TX0) hP hK hD hT hG hS kb4 (by decide) rfl) rfl rfl hl.1 rfl (lv_room (Nat.le_of_ble_eq_true rfl)) dX11_off_25 ⟨Nat.zero_le _, Nat.zero_le _⟩) hS (fun H locs hq5 hP hD hT hS => ?_)
    rcases hN5 : z5 with _ | b5
    · replace h := oc_n hN5 h
      show W _ _ _ _ _ _ _ _ _ _ _ _ _ _ _ (F0 _ _ _ (.null :: []))
      refine lv_astore_nN (lv' := [(3, .null), (2, .ref (ad b2)), (0, .ref (ad a0)), (1, .int x1)]) hx hb dX11_off_28 rfl hl (by decide) rfl (fun ls hl => ?_)
      refine lv_aload_n hx hb dX11_off_29 rfl (lv_at hl 1 rfl) ?_
      refine lv_ifnull hx hb dX11_off_30 ?_
      refine lv_aload_nN hx hb dX11_off_33 rfl (lv_at hl 0 rfl) ?_
      refine lv_ifnonnullN hx hb dX11_off_34 ?_
      refine lv_aload_n hx hb dX11_off_37 rfl (lv_at hl 2 rfl) ?_
      refine lv_iconst (v := 1) hx hb dX11_off_38 rfl ?_
      obtain ⟨z6, h6, h⟩ := ob_some h
      refine k_i (va_runV (As := [.int 1]) (rest := []) ⟨hx, hb, hml, hown, hts⟩ (c_X11_unknown (l := l) M a0 1 k0 h6) (cwV 1 hts gX11_off_X11_unknown rfl rfl rfl hdV_X11_unknown ⟨Nat.le_of_ble_eq_true rfl, Nat.le_of_ble_eq_true rfl⟩) (pV (T := TX11) hP hK hD hT hG hS k0 (by decide) rfl) rfl rfl hl.1 rfl (lv_room (Nat.le_of_ble_eq_true rfl)) dX11_off_39 ⟨Nat.zero_le _, Nat.zero_le _⟩) hS (fun H locs hP hD hT hS => ?_)
      have hZ := Option.some.inj h
      have hZ1 := congrArg Prod.fst hZ
      have hZ2 := congrArg Prod.snd hZ
      exact r_iret hx hb hr hlocks hP hK hD hT hG hS hZ1 hZ2 dX11_off_42
    · replace h := oc_s hN5 h
      have kb5 := hq5 _ hN5
      show W _ _ _ _ _ _ _ _ _ _ _ _ _ _ _ (F0 _ _ _ (.ref (ad b5) :: []))
      refine lv_astore_n (lv' := [(3, .ref (ad b5)), (2, .ref (ad b2)), (0, .ref (ad a0)), (1, .int x1)]) hx hb dX11_off_28 rfl hl (by decide) rfl (fun ls hl => ?_)
      refine lv_aload_n hx hb dX11_off_29 rfl (lv_at hl 1 rfl) ?_
      refine lv_ifnull hx hb dX11_off_30 ?_
      refine lv_aload_n hx hb dX11_off_33 rfl (lv_at hl 0 rfl) ?_
      refine lv_ifnonnull (tgt := 43) hx hb dX11_off_34 rfl ?_
      refine lv_aload_n hx hb dX11_off_43 rfl (lv_at hl 2 rfl) ?_
      refine lv_aload_n hx hb dX11_off_44 rfl (lv_at hl 0 rfl) ?_
      refine lv_aload_n hx hb dX11_off_45 rfl (lv_at hl 1 rfl) ?_
      refine r_get (T := TX9) (v := .int (gI M b2 1)) hx hb hts in9 hown hK hP kb2 (by decide) rfl 1 (by decide) (hts (.fieldLink RX11 283 "StoneWalk$Trial" "tons" "I") (List.mem_of_getElem? (i := 3) (by decide +kernel))) rfl (t := 0) rfl rfl dX11_off_46 ?_
      refine lv_iconst (v := 0) hx hb dX11_off_49 rfl ?_
      obtain ⟨z7, h7, h⟩ := ob_some h
      refine k_i (va_runV (As := [.int (gI M b2 1), .int 0]) (rest := [.ref (ad a0)]) ⟨hx, hb, hml, hown, hts⟩ (c_X10_hands (l := l) M b5 (gI M b2 1) 0 kb5 h7) (cwV 2 hts gX11_off_X10_hands rfl rfl rfl hdV_X10_hands ⟨Nat.le_of_ble_eq_true rfl, Nat.le_of_ble_eq_true rfl⟩) (pV (T := TX10) hP hK hD hT hG hS kb5 (by decide) rfl) rfl rfl hl.1 rfl (lv_room (Nat.le_of_ble_eq_true rfl)) dX11_off_50 ⟨Nat.zero_le _, Nat.zero_le _⟩) hS (fun H locs hP hD hT hS => ?_)
      refine lv_aload_n hx hb dX11_off_53 rfl (lv_at hl 1 rfl) ?_
      refine r_get (T := TX9) (v := .int (gI M b2 2)) hx hb hts in9 hown hK hP kb2 (by decide) rfl 2 (by decide) (hts (.fieldLink RX11 284 "StoneWalk$Trial" "people" "I") (List.mem_of_getElem? (i := 4) (by decide +kernel))) rfl (t := 0) rfl rfl dX11_off_54 ?_
      refine lv_isub hx hb dX11_off_57 ?_
      obtain ⟨z8, h8, h⟩ := ob_some h
      refine k_i (va_runV (As := [.int (z7 - (gI M b2 2))]) (rest := []) ⟨hx, hb, hml, hown, hts⟩ (c_X11_granted (l := l) M a0 (z7 - (gI M b2 2)) k0 h8) (cwV 1 hts gX11_off_X11_granted rfl rfl rfl hdV_X11_granted ⟨Nat.le_of_ble_eq_true rfl, Nat.le_of_ble_eq_true rfl⟩) (pV (T := TX11) hP hK hD hT hG hS k0 (by decide) rfl) rfl rfl hl.1 rfl (lv_room (Nat.le_of_ble_eq_true rfl)) dX11_off_58 ⟨Nat.zero_le _, Nat.zero_le _⟩) hS (fun H locs hP hD hT hS => ?_)
      have hZ := Option.some.inj h
      have hZ1 := congrArg Prod.fst hZ
      have hZ2 := congrArg Prod.snd hZ
      exact r_iret hx hb hr hlocks hP hK hD hT hG hS hZ1 hZ2 dX11_off_61
set_option maxHeartbeats 4000000 in
set_option maxRecDepth 100000 in
theorem c_X11_wood {l : Launch} {D : va_G} {ad : Nat → Nat} {cy : Nat → ClassId} {A : Nat → Prop} {g : CG} {q : SE} (M : MM) (a0 : Nat) (x1 : Int32) (k0 : ok g a0 11 0) {Z : (Int32 × MM)} (h : f_X11_wood M a0 x1 = some Z) : Met l yX11_wood wsX11_wood ({ frames := 3, cells := 0, slots := 0, locals := 68 }) (va_Pc [.ref (ad a0), .int x1] (Wd D ad cy A g q M)) (va_Qi (fun r u => r = Z.1 ∧ u = Z.2) (Wd D ad cy A g q) A) 0 0 A := by
  refine Met.ofW (cc := cX11_wood) (maxL := 3) (ret := (some .int)) (by decide) rfl ?_
  intro p e s m args below meth c s₁ B hml hv
  obtain ⟨rfl, hP, hK, hD, hT, hG⟩ := hv
  have hx := B.exec
  have hb := B.bytes
  have hr := B.returns
  have hts := atoms_spec (ws := wsX11_wood) B.pre
  have hown : s.vm.findClass RX11 = some m.cls := findClass_of_methodNamed B.named
  have hlocks := B.notSynchronized
  have in11 : ∀ w ∈ u_ws RX11 TX11 8, w ∈ wsX11_wood := fun w h => List.mem_cons_of_mem _ (List.mem_append_left _ (List.mem_append_left _ (List.mem_append_left _ (List.mem_append_left _ (List.mem_append_right _ h)))))
  have hS : va_S A s.heap s.heap [] := va_S.rf
  have hl := lv_entry ([.ref (ad a0), .int x1]) (n := 3) (Nat.le_of_ble_eq_true rfl)
  rw [lg_entry_eq]
  generalize (lg_sl ([.ref (ad a0), .int x1]) ++ List.replicate (3 - (lg_sl ([.ref (ad a0), .int x1])).length) Slot.unset).toArray = ls at hl ⊢
  have hl : lv_has ls 3 [(0, .ref (ad a0)), (1, .int x1)] := hl
  unfold f_X11_wood at h
  refine lv_aload_n hx hb dX11_wood_0 rfl (lv_at hl 0 rfl) ?_
  rcases hN1 : gR M a0 5 with _ | b1
  · exact absurd (oc_n hN1 h) (by simp)
  replace h := oc_s hN1 h
  have kb1 := hT.f k0 (k := 5) (t := 0) (n := 0) rfl hN1
  refine r_get (T := TX11) (v := .ref (ad b1)) hx hb hts in11 hown hK hP k0 (by decide) rfl 5 (by decide) (hts (.fieldLink RX11 45 "StoneWalk" "island" "LStoneWalk$Island;") (List.mem_of_getElem? (i := 1) (by decide +kernel))) rfl (t := 2) rfl (by show va_rf _ = _; rw [hN1]; rfl) dX11_wood_1 ?_
  refine lv_iload_n hx hb dX11_wood_4 rfl (lv_at hl 1 rfl) ?_
  obtain ⟨z2, h2, h⟩ := ob_some h
  refine k_q (va_runV (As := [.int x1]) (rest := []) ⟨hx, hb, hml, hown, hts⟩ (c_X0_wayAt (l := l) M b1 x1 kb1 h2) (cwV 1 hts gX11_wood_X0_wayAt rfl rfl rfl hdV_X0_wayAt ⟨Nat.le_of_ble_eq_true rfl, Nat.le_of_ble_eq_true rfl⟩) (pV (T := TX0) hP hK hD hT hG hS kb1 (by decide) rfl) rfl rfl hl.1 rfl (lv_room (Nat.le_of_ble_eq_true rfl)) dX11_wood_5 ⟨Nat.zero_le _, Nat.zero_le _⟩) hS (fun H locs hq2 hP hD hT hS => ?_)
  rcases hN2 : z2 with _ | b2
  · replace h := oc_n hN2 h
    show W _ _ _ _ _ _ _ _ _ _ _ _ _ _ _ (F0 _ _ _ (.null :: []))
    refine lv_astore_nN (lv' := [(2, .null), (0, .ref (ad a0)), (1, .int x1)]) hx hb dX11_wood_8 rfl hl (by decide) rfl (fun ls hl => ?_)
    refine lv_aload_nN hx hb dX11_wood_9 rfl (lv_at hl 0 rfl) ?_
    refine lv_ifnonnullN hx hb dX11_wood_10 ?_
    refine lv_aload_n hx hb dX11_wood_13 rfl (lv_at hl 1 rfl) ?_
    refine lv_iconst (v := 1) hx hb dX11_wood_14 rfl ?_
    obtain ⟨z3, h3, h⟩ := ob_some h
    refine k_i (va_runV (As := [.int 1]) (rest := []) ⟨hx, hb, hml, hown, hts⟩ (c_X11_refused (l := l) M a0 1 k0 h3) (cwV 1 hts gX11_wood_X11_refused rfl rfl rfl hdV_X11_refused ⟨Nat.le_of_ble_eq_true rfl, Nat.le_of_ble_eq_true rfl⟩) (pV (T := TX11) hP hK hD hT hG hS k0 (by decide) rfl) rfl rfl hl.1 rfl (lv_room (Nat.le_of_ble_eq_true rfl)) dX11_wood_15 ⟨Nat.zero_le _, Nat.zero_le _⟩) hS (fun H locs hP hD hT hS => ?_)
    have hZ := Option.some.inj h
    have hZ1 := congrArg Prod.fst hZ
    have hZ2 := congrArg Prod.snd hZ
    exact r_iret hx hb hr hlocks hP hK hD hT hG hS hZ1 hZ2 dX11_wood_18
  · replace h := oc_s hN2 h
    have kb2 := hq2 _ hN2
    show W _ _ _ _ _ _ _ _ _ _ _ _ _ _ _ (F0 _ _ _ (.ref (ad b2) :: []))
    refine lv_astore_n (lv' := [(2, .ref (ad b2)), (0, .ref (ad a0)), (1, .int x1)]) hx hb dX11_wood_8 rfl hl (by decide) rfl (fun ls hl => ?_)
    refine lv_aload_n hx hb dX11_wood_9 rfl (lv_at hl 0 rfl) ?_
    refine lv_ifnonnull (tgt := 19) hx hb dX11_wood_10 rfl ?_
    refine lv_aload_n hx hb dX11_wood_19 rfl (lv_at hl 1 rfl) ?_
    refine lv_aload_n hx hb dX11_wood_20 rfl (lv_at hl 1 rfl) ?_
    rcases hN4 : gR M a0 5 with _ | b4
    · exact absurd (oc_n hN4 h) (by simp)
    replace h := oc_s hN4 h
    have kb4 := hT.f k0 (k := 5) (t := 0) (n := 0) rfl hN4
    refine r_get (T := TX11) (v := .ref (ad b4)) hx hb hts in11 hown hK hP k0 (by decide) rfl 5 (by decide) (hts (.fieldLink RX11 45 "StoneWalk" "island" "LStoneWalk$Island;") (List.mem_of_getElem? (i := 1) (by decide +kernel))) rfl (t := 2) rfl (by show va_rf _ = _; rw [hN4]; rfl) dX11_wood_21 ?_
    refine lv_aload_n hx hb dX11_wood_24 rfl (lv_at hl 0 rfl) ?_
    obtain ⟨z5, h5, h⟩ := ob_some h
    refine k_i (va_runV (As := [.ref (ad b2)]) (rest := [.ref (ad a0)]) ⟨hx, hb, hml, hown, hts⟩ (c_X0_woodOf (l := l) M b4 b2 kb4 kb2 h5) (cwV 1 hts gX11_wood_X0_woodOf rfl rfl rfl hdV_X0_woodOf ⟨Nat.le_of_ble_eq_true rfl, Nat.le_of_ble_eq_true rfl⟩) (pV (T := TX0) hP hK hD hT hG hS kb4 (by decide) rfl) rfl rfl hl.1 rfl (lv_room (Nat.le_of_ble_eq_true rfl)) dX11_wood_25 ⟨Nat.zero_le _, Nat.zero_le _⟩) hS (fun H locs hP hD hT hS => ?_)
    obtain ⟨z6, h6, h⟩ := ob_some h
    refine k_i (va_runV (As := [.int z5]) (rest := []) ⟨hx, hb, hml, hown, hts⟩ (c_X11_granted (l := l) M a0 z5 k0 h6) (cwV 1 hts gX11_wood_X11_granted rfl rfl rfl hdV_X11_granted ⟨Nat.le_of_ble_eq_true rfl, Nat.le_of_ble_eq_true rfl⟩) (pV (T := TX11) hP hK hD hT hG hS k0 (by decide) rfl) rfl rfl hl.1 rfl (lv_room (Nat.le_of_ble_eq_true rfl)) dX11_wood_28 ⟨Nat.zero_le _, Nat.zero_le _⟩) hS (fun H locs hP hD hT hS => ?_)
    have hZ := Option.some.inj h
    have hZ1 := congrArg Prod.fst hZ
    have hZ2 := congrArg Prod.snd hZ
    exact r_iret hx hb hr hlocks hP hK hD hT hG hS hZ1 hZ2 dX11_wood_31
set_option maxHeartbeats 4000000 in
set_option maxRecDepth 100000 in
theorem c_X11_enough {l : Launch} {D : va_G} {ad : Nat → Nat} {cy : Nat → ClassId} {A : Nat → Prop} {g : CG} {q : SE} (M : MM) (a0 : Nat) (x1 : Int32) (k0 : ok g a0 11 0) {Z : (Int32 × MM)} (h : f_X11_enough M a0 x1 = some Z) : Met l yX11_enough wsX11_enough ({ frames := 3, cells := 0, slots := 0, locals := 68 }) (va_Pc [.ref (ad a0), .int x1] (Wd D ad cy A g q M)) (va_Qi (fun r u => r = Z.1 ∧ u = Z.2) (Wd D ad cy A g q) A) 0 0 A := by
  refine Met.ofW (cc := cX11_enough) (maxL := 3) (ret := (some .int)) (by decide) rfl ?_
  intro p e s m args below meth c s₁ B hml hv
  obtain ⟨rfl, hP, hK, hD, hT, hG⟩ := hv
  have hx := B.exec
  have hb := B.bytes
  have hr := B.returns
  have hts := atoms_spec (ws := wsX11_enough) B.pre
  have hown : s.vm.findClass RX11 = some m.cls := findClass_of_methodNamed B.named
  have hlocks := B.notSynchronized
  have in0 : ∀ w ∈ u_ws RX0 TX0 17, w ∈ wsX11_enough := fun w h => List.mem_cons_of_mem _ (List.mem_append_left _ (List.mem_append_left _ (List.mem_append_left _ (List.mem_append_right _ h))))
  have in11 : ∀ w ∈ u_ws RX11 TX11 8, w ∈ wsX11_enough := fun w h => List.mem_cons_of_mem _ (List.mem_append_left _ (List.mem_append_left _ (List.mem_append_left _ (List.mem_append_left _ (List.mem_append_right _ h)))))
  have hS : va_S A s.heap s.heap [] := va_S.rf
  have hl := lv_entry ([.ref (ad a0), .int x1]) (n := 3) (Nat.le_of_ble_eq_true rfl)
  rw [lg_entry_eq]
  generalize (lg_sl ([.ref (ad a0), .int x1]) ++ List.replicate (3 - (lg_sl ([.ref (ad a0), .int x1])).length) Slot.unset).toArray = ls at hl ⊢
  have hl : lv_has ls 3 [(0, .ref (ad a0)), (1, .int x1)] := hl
  unfold f_X11_enough at h
  refine lv_aload_n hx hb dX11_enough_0 rfl (lv_at hl 0 rfl) ?_
  rcases hN1 : gR M a0 5 with _ | b1
  · exact absurd (oc_n hN1 h) (by simp)
  replace h := oc_s hN1 h
  have kb1 := hT.f k0 (k := 5) (t := 0) (n := 0) rfl hN1
  refine r_get (T := TX11) (v := .ref (ad b1)) hx hb hts in11 hown hK hP k0 (by decide) rfl 5 (by decide) (hts (.fieldLink RX11 45 "StoneWalk" "island" "LStoneWalk$Island;") (List.mem_of_getElem? (i := 1) (by decide +kernel))) rfl (t := 2) rfl (by show va_rf _ = _; rw [hN1]; rfl) dX11_enough_1 ?_
  refine lv_iload_n hx hb dX11_enough_4 rfl (lv_at hl 1 rfl) ?_
  obtain ⟨z2, h2, h⟩ := ob_some h
  refine k_q (va_runV (As := [.int x1]) (rest := []) ⟨hx, hb, hml, hown, hts⟩ (c_X0_wayAt (l := l) M b1 x1 kb1 h2) (cwV 1 hts gX11_enough_X0_wayAt rfl rfl rfl hdV_X0_wayAt ⟨Nat.le_of_ble_eq_true rfl, Nat.le_of_ble_eq_true rfl⟩) (pV (T := TX0) hP hK hD hT hG hS kb1 (by decide) rfl) rfl rfl hl.1 rfl (lv_room (Nat.le_of_ble_eq_true rfl)) dX11_enough_5 ⟨Nat.zero_le _, Nat.zero_le _⟩) hS (fun H locs hq2 hP hD hT hS => ?_)
  rcases hN2 : z2 with _ | b2
  · replace h := oc_n hN2 h
    show W _ _ _ _ _ _ _ _ _ _ _ _ _ _ _ (F0 _ _ _ (.null :: []))
    refine lv_astore_nN (lv' := [(2, .null), (0, .ref (ad a0)), (1, .int x1)]) hx hb dX11_enough_8 rfl hl (by decide) rfl (fun ls hl => ?_)
    refine lv_aload_nN hx hb dX11_enough_9 rfl (lv_at hl 0 rfl) ?_
    refine lv_ifnonnullN hx hb dX11_enough_10 ?_
    refine lv_aload_n hx hb dX11_enough_13 rfl (lv_at hl 1 rfl) ?_
    refine lv_iconst (v := 1) hx hb dX11_enough_14 rfl ?_
    obtain ⟨z3, h3, h⟩ := ob_some h
    refine k_i (va_runV (As := [.int 1]) (rest := []) ⟨hx, hb, hml, hown, hts⟩ (c_X11_refused (l := l) M a0 1 k0 h3) (cwV 1 hts gX11_enough_X11_refused rfl rfl rfl hdV_X11_refused ⟨Nat.le_of_ble_eq_true rfl, Nat.le_of_ble_eq_true rfl⟩) (pV (T := TX11) hP hK hD hT hG hS k0 (by decide) rfl) rfl rfl hl.1 rfl (lv_room (Nat.le_of_ble_eq_true rfl)) dX11_enough_15 ⟨Nat.zero_le _, Nat.zero_le _⟩) hS (fun H locs hP hD hT hS => ?_)
    have hZ := Option.some.inj h
    have hZ1 := congrArg Prod.fst hZ
    have hZ2 := congrArg Prod.snd hZ
    exact r_iret hx hb hr hlocks hP hK hD hT hG hS hZ1 hZ2 dX11_enough_18
  · replace h := oc_s hN2 h
    have kb2 := hq2 _ hN2
    show W _ _ _ _ _ _ _ _ _ _ _ _ _ _ _ (F0 _ _ _ (.ref (ad b2) :: []))
    refine lv_astore_n (lv' := [(2, .ref (ad b2)), (0, .ref (ad a0)), (1, .int x1)]) hx hb dX11_enough_8 rfl hl (by decide) rfl (fun ls hl => ?_)
    refine lv_aload_n hx hb dX11_enough_9 rfl (lv_at hl 0 rfl) ?_
    refine lv_ifnonnull (tgt := 19) hx hb dX11_enough_10 rfl ?_
    refine lv_aload_n hx hb dX11_enough_19 rfl (lv_at hl 1 rfl) ?_
    rcases hN4 : gR M a0 5 with _ | b4
    · exact absurd (oc_n hN4 h) (by simp)
    replace h := oc_s hN4 h
    have kb4 := hT.f k0 (k := 5) (t := 0) (n := 0) rfl hN4
    refine r_get (T := TX11) (v := .ref (ad b4)) hx hb hts in11 hown hK hP k0 (by decide) rfl 5 (by decide) (hts (.fieldLink RX11 45 "StoneWalk" "island" "LStoneWalk$Island;") (List.mem_of_getElem? (i := 1) (by decide +kernel))) rfl (t := 2) rfl (by show va_rf _ = _; rw [hN4]; rfl) dX11_enough_20 ?_
    refine lv_bipush (v := 7) hx hb dX11_enough_23 rfl ?_
    refine lv_iconst (v := 0) hx hb dX11_enough_25 rfl ?_
    obtain ⟨z5, h5, h⟩ := ob_some h
    refine k_z (va_runV (As := [.int 7, .int 0]) (rest := []) ⟨hx, hb, hml, hown, hts⟩ (c_X0_has (l := l) M b4 7 0 kb4 h5) (cwV 2 hts gX11_enough_X0_has rfl rfl rfl hdV_X0_has ⟨Nat.le_of_ble_eq_true rfl, Nat.le_of_ble_eq_true rfl⟩) (pV (T := TX0) hP hK hD hT hG hS kb4 (by decide) rfl) rfl rfl hl.1 rfl (lv_room (Nat.le_of_ble_eq_true rfl)) dX11_enough_26 ⟨Nat.zero_le _, Nat.zero_le _⟩) hS (fun H locs hz5 hP hD hT hS => ?_)
    refine lv_if_ne (tgt := 39) hx hb dX11_enough_29 rfl (fun c6 => ?_) (fun c6 => ?_)
    · replace h := ite_f c6 h
      refine lv_aload_n hx hb dX11_enough_39 rfl (lv_at hl 1 rfl) ?_
      refine lv_aload_n hx hb dX11_enough_40 rfl (lv_at hl 1 rfl) ?_
      rcases hN7 : gR M a0 5 with _ | b7
      · exact absurd (oc_n hN7 h) (by simp)
      replace h := oc_s hN7 h
      have kb7 := hT.f k0 (k := 5) (t := 0) (n := 0) rfl hN7
      refine r_get (T := TX11) (v := .ref (ad b7)) hx hb hts in11 hown hK hP k0 (by decide) rfl 5 (by decide) (hts (.fieldLink RX11 45 "StoneWalk" "island" "LStoneWalk$Island;") (List.mem_of_getElem? (i := 1) (by decide +kernel))) rfl (t := 2) rfl (by show va_rf _ = _; rw [hN7]; rfl) dX11_enough_41 ?_
      refine r_get (T := TX0) (v := .int (gI M b7 9)) hx hb hts in0 hown hK hP kb7 (by decide) rfl 9 (by decide) (hts (.fieldLink RX11 289 "StoneWalk$Island" "trees" "I") (List.mem_of_getElem? (i := 2) (by decide +kernel))) rfl (t := 0) rfl rfl dX11_enough_44 ?_
      refine lv_bipush (v := 10) hx hb dX11_enough_47 rfl ?_
      refine lv_imul hx hb dX11_enough_49 ?_
      refine lv_aload_n hx hb dX11_enough_50 rfl (lv_at hl 1 rfl) ?_
      rcases hN8 : gR M a0 5 with _ | b8
      · exact absurd (oc_n hN8 h) (by simp)
      replace h := oc_s hN8 h
      have kb8 := hT.f k0 (k := 5) (t := 0) (n := 0) rfl hN8
      refine r_get (T := TX11) (v := .ref (ad b8)) hx hb hts in11 hown hK hP k0 (by decide) rfl 5 (by decide) (hts (.fieldLink RX11 45 "StoneWalk" "island" "LStoneWalk$Island;") (List.mem_of_getElem? (i := 1) (by decide +kernel))) rfl (t := 2) rfl (by show va_rf _ = _; rw [hN8]; rfl) dX11_enough_51 ?_
      refine lv_aload_n hx hb dX11_enough_54 rfl (lv_at hl 0 rfl) ?_
      obtain ⟨z9, h9, h⟩ := ob_some h
      refine k_i (va_runV (As := [.ref (ad b2)]) (rest := [.int ((gI M b7 9) * 10), .ref (ad a0)]) ⟨hx, hb, hml, hown, hts⟩ (c_X0_woodOf (l := l) M b8 b2 kb8 kb2 h9) (cwV 1 hts gX11_enough_X0_woodOf rfl rfl rfl hdV_X0_woodOf ⟨Nat.le_of_ble_eq_true rfl, Nat.le_of_ble_eq_true rfl⟩) (pV (T := TX0) hP hK hD hT hG hS kb8 (by decide) rfl) rfl rfl hl.1 rfl (lv_room (Nat.le_of_ble_eq_true rfl)) dX11_enough_55 ⟨Nat.zero_le _, Nat.zero_le _⟩) hS (fun H locs hP hD hT hS => ?_)
      refine lv_icmp_lt (tgt := 65) hx hb dX11_enough_58 rfl (fun c10 => ?_) (fun c10 => ?_)
      · replace h := ite_t c10 h
        refine lv_iconst (v := 0) hx hb dX11_enough_65 rfl ?_
        obtain ⟨z11, h11, h⟩ := ob_some h
        refine k_i (va_runV (As := [.int 0]) (rest := []) ⟨hx, hb, hml, hown, hts⟩ (c_X11_granted (l := l) M a0 0 k0 h11) (cwV 1 hts gX11_enough_X11_granted rfl rfl rfl hdV_X11_granted ⟨Nat.le_of_ble_eq_true rfl, Nat.le_of_ble_eq_true rfl⟩) (pV (T := TX11) hP hK hD hT hG hS k0 (by decide) rfl) rfl rfl hl.1 rfl (lv_room (Nat.le_of_ble_eq_true rfl)) dX11_enough_66 ⟨Nat.zero_le _, Nat.zero_le _⟩) hS (fun H locs hP hD hT hS => ?_)
        have hZ := Option.some.inj h
        have hZ1 := congrArg Prod.fst hZ
        have hZ2 := congrArg Prod.snd hZ
        exact r_iret hx hb hr hlocks hP hK hD hT hG hS hZ1 hZ2 dX11_enough_69
      · replace h := ite_f c10 h
        refine lv_iconst (v := 1) hx hb dX11_enough_61 rfl ?_
        refine lv_goto (tgt := 66) hx hb dX11_enough_62 rfl ?_
        obtain ⟨z12, h12, h⟩ := ob_some h
        refine k_i (va_runV (As := [.int 1]) (rest := []) ⟨hx, hb, hml, hown, hts⟩ (c_X11_granted (l := l) M a0 1 k0 h12) (cwV 1 hts gX11_enough_X11_granted rfl rfl rfl hdV_X11_granted ⟨Nat.le_of_ble_eq_true rfl, Nat.le_of_ble_eq_true rfl⟩) (pV (T := TX11) hP hK hD hT hG hS k0 (by decide) rfl) rfl rfl hl.1 rfl (lv_room (Nat.le_of_ble_eq_true rfl)) dX11_enough_66 ⟨Nat.zero_le _, Nat.zero_le _⟩) hS (fun H locs hP hD hT hS => ?_)
        have hZ := Option.some.inj h
        have hZ1 := congrArg Prod.fst hZ
        have hZ2 := congrArg Prod.snd hZ
        exact r_iret hx hb hr hlocks hP hK hD hT hG hS hZ1 hZ2 dX11_enough_69
    · replace h := ite_t c6 h
      refine lv_aload_n hx hb dX11_enough_32 rfl (lv_at hl 1 rfl) ?_
      refine lv_bipush (v := 6) hx hb dX11_enough_33 rfl ?_
      obtain ⟨z13, h13, h⟩ := ob_some h
      refine k_i (va_runV (As := [.int 6]) (rest := []) ⟨hx, hb, hml, hown, hts⟩ (c_X11_refused (l := l) M a0 6 k0 h13) (cwV 1 hts gX11_enough_X11_refused rfl rfl rfl hdV_X11_refused ⟨Nat.le_of_ble_eq_true rfl, Nat.le_of_ble_eq_true rfl⟩) (pV (T := TX11) hP hK hD hT hG hS k0 (by decide) rfl) rfl rfl hl.1 rfl (lv_room (Nat.le_of_ble_eq_true rfl)) dX11_enough_35 ⟨Nat.zero_le _, Nat.zero_le _⟩) hS (fun H locs hP hD hT hS => ?_)
      have hZ := Option.some.inj h
      have hZ1 := congrArg Prod.fst hZ
      have hZ2 := congrArg Prod.snd hZ
      exact r_iret hx hb hr hlocks hP hK hD hT hG hS hZ1 hZ2 dX11_enough_38
set_option maxHeartbeats 4000000 in
set_option maxRecDepth 100000 in
theorem c_X11_isYear {l : Launch} {D : va_G} {ad : Nat → Nat} {cy : Nat → ClassId} {A : Nat → Prop} {g : CG} {q : SE} (M : MM) (x0 : Int32) {Z : Int32} (h : f_X11_isYear M x0 = some Z) : Met l yX11_isYear wsX11_isYear ({ frames := 0, cells := 0, slots := 0, locals := 0 }) (va_Pc [.int x0] (Wd D ad cy A g q M)) (va_Qi (fun r u => r = Z ∧ u = M ∧ zb r) (Wd D ad cy A g q) A) 0 0 A := by
  refine Met.ofW (cc := cX11_isYear) (maxL := 1) (ret := (some .boolean)) (by decide) rfl ?_
  intro p e s m args below meth c s₁ B hml hv
  obtain ⟨rfl, hP, hK, hD, hT, hG⟩ := hv
  have hx := B.exec
  have hb := B.bytes
  have hr := B.returns
  have hts := atoms_spec (ws := wsX11_isYear) B.pre
  have hown : s.vm.findClass RX11 = some m.cls := findClass_of_methodNamed B.named
  have hlocks := B.notSynchronized
  have hS : va_S A s.heap s.heap [] := va_S.rf
  have hl := lv_entry ([.int x0]) (n := 1) (Nat.le_of_ble_eq_true rfl)
  rw [lg_entry_eq]
  generalize (lg_sl ([.int x0]) ++ List.replicate (1 - (lg_sl ([.int x0])).length) Slot.unset).toArray = ls at hl ⊢
  have hl : lv_has ls 1 [(0, .int x0)] := hl
  unfold f_X11_isYear at h
  refine lv_iload_n hx hb dX11_isYear_0 rfl (lv_at hl 0 rfl) ?_
  refine lv_if_lt (tgt := 14) hx hb dX11_isYear_1 rfl (fun c1 => ?_) (fun c1 => ?_)
  · replace h := ite_t c1 h
    refine lv_iconst (v := 0) hx hb dX11_isYear_14 rfl ?_
    exact r_zret hx hb hr hlocks hP hK hD hT hG hS zb_0 (Option.some.inj h) rfl dX11_isYear_15
  · replace h := ite_f c1 h
    refine lv_iload_n hx hb dX11_isYear_4 rfl (lv_at hl 0 rfl) ?_
    refine lv_bipush (v := 100) hx hb dX11_isYear_5 rfl ?_
    refine lv_icmp_ge (tgt := 14) hx hb dX11_isYear_7 rfl (fun c2 => ?_) (fun c2 => ?_)
    · replace h := ite_t c2 h
      refine lv_iconst (v := 0) hx hb dX11_isYear_14 rfl ?_
      exact r_zret hx hb hr hlocks hP hK hD hT hG hS zb_0 (Option.some.inj h) rfl dX11_isYear_15
    · replace h := ite_f c2 h
      refine lv_iconst (v := 1) hx hb dX11_isYear_10 rfl ?_
      refine lv_goto (tgt := 15) hx hb dX11_isYear_11 rfl ?_
      exact r_zret hx hb hr hlocks hP hK hD hT hG hS zb_1 (Option.some.inj h) rfl dX11_isYear_15
set_option maxHeartbeats 4000000 in
set_option maxRecDepth 100000 in
theorem c_X11_trees {l : Launch} {D : va_G} {ad : Nat → Nat} {cy : Nat → ClassId} {A : Nat → Prop} {g : CG} {q : SE} (M : MM) (a0 : Nat) (x1 : Int32) (x2 : Int32) (k0 : ok g a0 11 0) {Z : (Int32 × MM)} (h : f_X11_trees M a0 x1 x2 = some Z) : Met l yX11_trees wsX11_trees ({ frames := 3, cells := 0, slots := 0, locals := 64 }) (va_Pc [.ref (ad a0), .int x1, .int x2] (Wd D ad cy A g q M)) (va_Qi (fun r u => r = Z.1 ∧ u = Z.2) (Wd D ad cy A g q) A) 0 0 A := by
  refine Met.ofW (cc := cX11_trees) (maxL := 4) (ret := (some .int)) (by decide) rfl ?_
  intro p e s m args below meth c s₁ B hml hv
  obtain ⟨rfl, hP, hK, hD, hT, hG⟩ := hv
  have hx := B.exec
  have hb := B.bytes
  have hr := B.returns
  have hts := atoms_spec (ws := wsX11_trees) B.pre
  have hown : s.vm.findClass RX11 = some m.cls := findClass_of_methodNamed B.named
  have hlocks := B.notSynchronized
  have in11 : ∀ w ∈ u_ws RX11 TX11 8, w ∈ wsX11_trees := fun w h => List.mem_cons_of_mem _ (List.mem_append_left _ (List.mem_append_left _ (List.mem_append_right _ h)))
  have hS : va_S A s.heap s.heap [] := va_S.rf
  have hl := lv_entry ([.ref (ad a0), .int x1, .int x2]) (n := 4) (Nat.le_of_ble_eq_true rfl)
  rw [lg_entry_eq]
  generalize (lg_sl ([.ref (ad a0), .int x1, .int x2]) ++ List.replicate (4 - (lg_sl ([.ref (ad a0), .int x1, .int x2])).length) Slot.unset).toArray = ls at hl ⊢
  have hl : lv_has ls 4 [(0, .ref (ad a0)), (1, .int x1), (2, .int x2)] := hl
  unfold f_X11_trees at h
  refine lv_aload_n hx hb dX11_trees_0 rfl (lv_at hl 0 rfl) ?_
  rcases hN1 : gR M a0 5 with _ | b1
  · exact absurd (oc_n hN1 h) (by simp)
  replace h := oc_s hN1 h
  have kb1 := hT.f k0 (k := 5) (t := 0) (n := 0) rfl hN1
  refine r_get (T := TX11) (v := .ref (ad b1)) hx hb hts in11 hown hK hP k0 (by decide) rfl 5 (by decide) (hts (.fieldLink RX11 45 "StoneWalk" "island" "LStoneWalk$Island;") (List.mem_of_getElem? (i := 1) (by decide +kernel))) rfl (t := 2) rfl (by show va_rf _ = _; rw [hN1]; rfl) dX11_trees_1 ?_
  refine lv_iload_n hx hb dX11_trees_4 rfl (lv_at hl 1 rfl) ?_
  obtain ⟨z2, h2, h⟩ := ob_some h
  refine k_q (va_runV (As := [.int x1]) (rest := []) ⟨hx, hb, hml, hown, hts⟩ (c_X0_storyAt (l := l) M b1 x1 kb1 h2) (cwV 1 hts gX11_trees_X0_storyAt rfl rfl rfl hdV_X0_storyAt ⟨Nat.le_of_ble_eq_true rfl, Nat.le_of_ble_eq_true rfl⟩) (pV (T := TX0) hP hK hD hT hG hS kb1 (by decide) rfl) rfl rfl hl.1 rfl (lv_room (Nat.le_of_ble_eq_true rfl)) dX11_trees_5 ⟨Nat.zero_le _, Nat.zero_le _⟩) hS (fun H locs hq2 hP hD hT hS => ?_)
  rcases hN2 : z2 with _ | b2
  · replace h := oc_n hN2 h
    show W _ _ _ _ _ _ _ _ _ _ _ _ _ _ _ (F0 _ _ _ (.null :: []))
    refine lv_astore_nN (lv' := [(3, .null), (0, .ref (ad a0)), (1, .int x1), (2, .int x2)]) hx hb dX11_trees_8 rfl hl (by decide) rfl (fun ls hl => ?_)
    refine lv_aload_nN hx hb dX11_trees_9 rfl (lv_at hl 0 rfl) ?_
    refine lv_ifnonnullN hx hb dX11_trees_10 ?_
    refine lv_aload_n hx hb dX11_trees_13 rfl (lv_at hl 1 rfl) ?_
    refine lv_iconst (v := 1) hx hb dX11_trees_14 rfl ?_
    obtain ⟨z3, h3, h⟩ := ob_some h
    refine k_i (va_runV (As := [.int 1]) (rest := []) ⟨hx, hb, hml, hown, hts⟩ (c_X11_refused (l := l) M a0 1 k0 h3) (cwV 1 hts gX11_trees_X11_refused rfl rfl rfl hdV_X11_refused ⟨Nat.le_of_ble_eq_true rfl, Nat.le_of_ble_eq_true rfl⟩) (pV (T := TX11) hP hK hD hT hG hS k0 (by decide) rfl) rfl rfl hl.1 rfl (lv_room (Nat.le_of_ble_eq_true rfl)) dX11_trees_15 ⟨Nat.zero_le _, Nat.zero_le _⟩) hS (fun H locs hP hD hT hS => ?_)
    have hZ := Option.some.inj h
    have hZ1 := congrArg Prod.fst hZ
    have hZ2 := congrArg Prod.snd hZ
    exact r_iret hx hb hr hlocks hP hK hD hT hG hS hZ1 hZ2 dX11_trees_18
  · replace h := oc_s hN2 h
    have kb2 := hq2 _ hN2
    show W _ _ _ _ _ _ _ _ _ _ _ _ _ _ _ (F0 _ _ _ (.ref (ad b2) :: []))
    refine lv_astore_n (lv' := [(3, .ref (ad b2)), (0, .ref (ad a0)), (1, .int x1), (2, .int x2)]) hx hb dX11_trees_8 rfl hl (by decide) rfl (fun ls hl => ?_)
    refine lv_aload_n hx hb dX11_trees_9 rfl (lv_at hl 0 rfl) ?_
    refine lv_ifnonnull (tgt := 19) hx hb dX11_trees_10 rfl ?_
    refine lv_iload_n hx hb dX11_trees_19 rfl (lv_at hl 3 rfl) ?_
    obtain ⟨z4, h4, h⟩ := ob_some h
    refine k_z (va_runS (As := [.int x2]) (rest := []) ⟨hx, hb, hml, hown, hts⟩ (c_X11_isYear (l := l) M x2 h4) (va_cwS 1 hts gX11_trees_X11_isYear rfl rfl rfl hdS_X11_isYear ⟨Nat.le_of_ble_eq_true rfl, Nat.le_of_ble_eq_true rfl⟩) (pS hP hK hD hT hG hS) rfl rfl hl.1 rfl (lv_room (Nat.le_of_ble_eq_true rfl)) dX11_trees_20 ⟨Nat.zero_le _, Nat.zero_le _⟩) hS (fun H locs hz4 hP hD hT hS => ?_)
    refine lv_if_ne (tgt := 32) hx hb dX11_trees_23 rfl (fun c5 => ?_) (fun c5 => ?_)
    · replace h := ite_f c5 h
      refine lv_aload_n hx hb dX11_trees_32 rfl (lv_at hl 1 rfl) ?_
      rcases hN6 : gR M a0 5 with _ | b6
      · exact absurd (oc_n hN6 h) (by simp)
      replace h := oc_s hN6 h
      have kb6 := hT.f k0 (k := 5) (t := 0) (n := 0) rfl hN6
      refine r_get (T := TX11) (v := .ref (ad b6)) hx hb hts in11 hown hK hP k0 (by decide) rfl 5 (by decide) (hts (.fieldLink RX11 45 "StoneWalk" "island" "LStoneWalk$Island;") (List.mem_of_getElem? (i := 1) (by decide +kernel))) rfl (t := 2) rfl (by show va_rf _ = _; rw [hN6]; rfl) dX11_trees_33 ?_
      refine lv_bipush (v := 7) hx hb dX11_trees_36 rfl ?_
      refine lv_iconst (v := 0) hx hb dX11_trees_38 rfl ?_
      obtain ⟨z7, h7, h⟩ := ob_some h
      refine k_z (va_runV (As := [.int 7, .int 0]) (rest := []) ⟨hx, hb, hml, hown, hts⟩ (c_X0_has (l := l) M b6 7 0 kb6 h7) (cwV 2 hts gX11_trees_X0_has rfl rfl rfl hdV_X0_has ⟨Nat.le_of_ble_eq_true rfl, Nat.le_of_ble_eq_true rfl⟩) (pV (T := TX0) hP hK hD hT hG hS kb6 (by decide) rfl) rfl rfl hl.1 rfl (lv_room (Nat.le_of_ble_eq_true rfl)) dX11_trees_39 ⟨Nat.zero_le _, Nat.zero_le _⟩) hS (fun H locs hz7 hP hD hT hS => ?_)
      refine lv_if_ne (tgt := 52) hx hb dX11_trees_42 rfl (fun c8 => ?_) (fun c8 => ?_)
      · replace h := ite_f c8 h
        refine lv_aload_n hx hb dX11_trees_52 rfl (lv_at hl 1 rfl) ?_
        refine lv_aload_n hx hb dX11_trees_53 rfl (lv_at hl 0 rfl) ?_
        refine lv_iload_n hx hb dX11_trees_54 rfl (lv_at hl 3 rfl) ?_
        obtain ⟨z9, h9, h⟩ := ob_some h
        refine k_i (va_runV (As := [.int x2]) (rest := [.ref (ad a0)]) ⟨hx, hb, hml, hown, hts⟩ (c_X6_treesIn (l := l) M b2 x2 kb2 h9) (cwV 1 hts gX11_trees_X6_treesIn rfl rfl rfl hdV_X6_treesIn ⟨Nat.le_of_ble_eq_true rfl, Nat.le_of_ble_eq_true rfl⟩) (pV (T := TX6) hP hK hD hT hG hS kb2 (by decide) rfl) rfl rfl hl.1 rfl (lv_room (Nat.le_of_ble_eq_true rfl)) dX11_trees_55 ⟨Nat.zero_le _, Nat.zero_le _⟩) hS (fun H locs hP hD hT hS => ?_)
        obtain ⟨z10, h10, h⟩ := ob_some h
        refine k_i (va_runV (As := [.int z9]) (rest := []) ⟨hx, hb, hml, hown, hts⟩ (c_X11_granted (l := l) M a0 z9 k0 h10) (cwV 1 hts gX11_trees_X11_granted rfl rfl rfl hdV_X11_granted ⟨Nat.le_of_ble_eq_true rfl, Nat.le_of_ble_eq_true rfl⟩) (pV (T := TX11) hP hK hD hT hG hS k0 (by decide) rfl) rfl rfl hl.1 rfl (lv_room (Nat.le_of_ble_eq_true rfl)) dX11_trees_58 ⟨Nat.zero_le _, Nat.zero_le _⟩) hS (fun H locs hP hD hT hS => ?_)
        have hZ := Option.some.inj h
        have hZ1 := congrArg Prod.fst hZ
        have hZ2 := congrArg Prod.snd hZ
        exact r_iret hx hb hr hlocks hP hK hD hT hG hS hZ1 hZ2 dX11_trees_61
      · replace h := ite_t c8 h
        refine lv_aload_n hx hb dX11_trees_45 rfl (lv_at hl 1 rfl) ?_
        refine lv_bipush (v := 6) hx hb dX11_trees_46 rfl ?_
        obtain ⟨z11, h11, h⟩ := ob_some h
        refine k_i (va_runV (As := [.int 6]) (rest := []) ⟨hx, hb, hml, hown, hts⟩ (c_X11_refused (l := l) M a0 6 k0 h11) (cwV 1 hts gX11_trees_X11_refused rfl rfl rfl hdV_X11_refused ⟨Nat.le_of_ble_eq_true rfl, Nat.le_of_ble_eq_true rfl⟩) (pV (T := TX11) hP hK hD hT hG hS k0 (by decide) rfl) rfl rfl hl.1 rfl (lv_room (Nat.le_of_ble_eq_true rfl)) dX11_trees_48 ⟨Nat.zero_le _, Nat.zero_le _⟩) hS (fun H locs hP hD hT hS => ?_)
        have hZ := Option.some.inj h
        have hZ1 := congrArg Prod.fst hZ
        have hZ2 := congrArg Prod.snd hZ
        exact r_iret hx hb hr hlocks hP hK hD hT hG hS hZ1 hZ2 dX11_trees_51
    · replace h := ite_t c5 h
      refine lv_aload_n hx hb dX11_trees_26 rfl (lv_at hl 1 rfl) ?_
      refine lv_iconst (v := 2) hx hb dX11_trees_27 rfl ?_
      obtain ⟨z12, h12, h⟩ := ob_some h
      refine k_i (va_runV (As := [.int 2]) (rest := []) ⟨hx, hb, hml, hown, hts⟩ (c_X11_refused (l := l) M a0 2 k0 h12) (cwV 1 hts gX11_trees_X11_refused rfl rfl rfl hdV_X11_refused ⟨Nat.le_of_ble_eq_true rfl, Nat.le_of_ble_eq_true rfl⟩) (pV (T := TX11) hP hK hD hT hG hS k0 (by decide) rfl) rfl rfl hl.1 rfl (lv_room (Nat.le_of_ble_eq_true rfl)) dX11_trees_28 ⟨Nat.zero_le _, Nat.zero_le _⟩) hS (fun H locs hP hD hT hS => ?_)
      have hZ := Option.some.inj h
      have hZ1 := congrArg Prod.fst hZ
      have hZ2 := congrArg Prod.snd hZ
      exact r_iret hx hb hr hlocks hP hK hD hT hG hS hZ1 hZ2 dX11_trees_31
set_option maxHeartbeats 4000000 in
set_option maxRecDepth 100000 in
theorem c_X11_see {l : Launch} {D : va_G} {ad : Nat → Nat} {cy : Nat → ClassId} {A : Nat → Prop} {g : CG} {q : SE} (M : MM) (a0 : Nat) (x1 : Int32) (x2 : Int32) (x3 : Int32) (k0 : ok g a0 11 0) {Z : (Int32 × MM)} (h : f_X11_see M a0 x1 x2 x3 = some Z) : Met l yX11_see wsX11_see ({ frames := 3, cells := 0, slots := 0, locals := 62 }) (va_Pc [.ref (ad a0), .int x1, .int x2, .int x3] (Wd D ad cy A g q M)) (va_Qi (fun r u => r = Z.1 ∧ u = Z.2) (Wd D ad cy A g q) A) 0 0 A := by
  refine Met.ofW (cc := cX11_see) (maxL := 4) (ret := (some .int)) (by decide) rfl ?_
  intro p e s m args below meth c s₁ B hml hv
  obtain ⟨rfl, hP, hK, hD, hT, hG⟩ := hv
  have hx := B.exec
  have hb := B.bytes
  have hr := B.returns
  have hts := atoms_spec (ws := wsX11_see) B.pre
  have hown : s.vm.findClass RX11 = some m.cls := findClass_of_methodNamed B.named
  have hlocks := B.notSynchronized
  have in4 : ∀ w ∈ u_ws RX4 TX4 4, w ∈ wsX11_see := fun w h => List.mem_cons_of_mem _ (List.mem_append_left _ (List.mem_append_right _ h))
  have in11 : ∀ w ∈ u_ws RX11 TX11 8, w ∈ wsX11_see := fun w h => List.mem_cons_of_mem _ (List.mem_append_left _ (List.mem_append_left _ (List.mem_append_right _ h)))
  have hS : va_S A s.heap s.heap [] := va_S.rf
  have hl := lv_entry ([.ref (ad a0), .int x1, .int x2, .int x3]) (n := 4) (Nat.le_of_ble_eq_true rfl)
  rw [lg_entry_eq]
  generalize (lg_sl ([.ref (ad a0), .int x1, .int x2, .int x3]) ++ List.replicate (4 - (lg_sl ([.ref (ad a0), .int x1, .int x2, .int x3])).length) Slot.unset).toArray = ls at hl ⊢
  have hl : lv_has ls 4 [(0, .ref (ad a0)), (1, .int x1), (2, .int x2), (3, .int x3)] := hl
  unfold f_X11_see at h
  refine lv_aload_n hx hb dX11_see_0 rfl (lv_at hl 0 rfl) ?_
  rcases hN1 : gR M a0 5 with _ | b1
  · exact absurd (oc_n hN1 h) (by simp)
  replace h := oc_s hN1 h
  have kb1 := hT.f k0 (k := 5) (t := 0) (n := 0) rfl hN1
  refine r_get (T := TX11) (v := .ref (ad b1)) hx hb hts in11 hown hK hP k0 (by decide) rfl 5 (by decide) (hts (.fieldLink RX11 45 "StoneWalk" "island" "LStoneWalk$Island;") (List.mem_of_getElem? (i := 1) (by decide +kernel))) rfl (t := 2) rfl (by show va_rf _ = _; rw [hN1]; rfl) dX11_see_1 ?_
  obtain ⟨z2, h2, h⟩ := ob_some h
  refine k_z (va_runV (As := []) (rest := []) ⟨hx, hb, hml, hown, hts⟩ (c_X0_isBare (l := l) M b1 kb1 h2) (cwV 0 hts gX11_see_X0_isBare rfl rfl rfl hdV_X0_isBare ⟨Nat.le_of_ble_eq_true rfl, Nat.le_of_ble_eq_true rfl⟩) (pV (T := TX0) hP hK hD hT hG hS kb1 (by decide) rfl) rfl rfl hl.1 rfl (lv_room (Nat.le_of_ble_eq_true rfl)) dX11_see_4 ⟨Nat.zero_le _, Nat.zero_le _⟩) hS (fun H locs hz2 hP hD hT hS => ?_)
  refine lv_if_eq (tgt := 16) hx hb dX11_see_7 rfl (fun c3 => ?_) (fun c3 => ?_)
  · replace h := ite_t c3 h
    refine lv_iload_n hx hb dX11_see_16 rfl (lv_at hl 1 rfl) ?_
    obtain ⟨z4, h4, h⟩ := ob_some h
    refine k_z (va_runS (As := [.int x1]) (rest := []) ⟨hx, hb, hml, hown, hts⟩ (c_X11_isYear (l := l) M x1 h4) (va_cwS 1 hts gX11_see_X11_isYear rfl rfl rfl hdS_X11_isYear ⟨Nat.le_of_ble_eq_true rfl, Nat.le_of_ble_eq_true rfl⟩) (pS hP hK hD hT hG hS) rfl rfl hl.1 rfl (lv_room (Nat.le_of_ble_eq_true rfl)) dX11_see_17 ⟨Nat.zero_le _, Nat.zero_le _⟩) hS (fun H locs hz4 hP hD hT hS => ?_)
    refine lv_if_eq (tgt := 45) hx hb dX11_see_20 rfl (fun c5 => ?_) (fun c5 => ?_)
    · replace h := ite_t c5 h
      refine lv_aload_n hx hb dX11_see_45 rfl (lv_at hl 0 rfl) ?_
      refine lv_iconst (v := 2) hx hb dX11_see_46 rfl ?_
      obtain ⟨z6, h6, h⟩ := ob_some h
      refine k_i (va_runV (As := [.int 2]) (rest := []) ⟨hx, hb, hml, hown, hts⟩ (c_X11_refused (l := l) M a0 2 k0 h6) (cwV 1 hts gX11_see_X11_refused rfl rfl rfl hdV_X11_refused ⟨Nat.le_of_ble_eq_true rfl, Nat.le_of_ble_eq_true rfl⟩) (pV (T := TX11) hP hK hD hT hG hS k0 (by decide) rfl) rfl rfl hl.1 rfl (lv_room (Nat.le_of_ble_eq_true rfl)) dX11_see_47 ⟨Nat.zero_le _, Nat.zero_le _⟩) hS (fun H locs hP hD hT hS => ?_)
      have hZ := Option.some.inj h
      have hZ1 := congrArg Prod.fst hZ
      have hZ2 := congrArg Prod.snd hZ
      exact r_iret hx hb hr hlocks hP hK hD hT hG hS hZ1 hZ2 dX11_see_50
    · replace h := ite_f c5 h
      refine lv_iload_n hx hb dX11_see_23 rfl (lv_at hl 2 rfl) ?_
      refine lv_if_lt (tgt := 45) hx hb dX11_see_24 rfl (fun c7 => ?_) (fun c7 => ?_)
      · replace h := ite_t c7 h
        refine lv_aload_n hx hb dX11_see_45 rfl (lv_at hl 0 rfl) ?_
        refine lv_iconst (v := 2) hx hb dX11_see_46 rfl ?_
        obtain ⟨z8, h8, h⟩ := ob_some h
        refine k_i (va_runV (As := [.int 2]) (rest := []) ⟨hx, hb, hml, hown, hts⟩ (c_X11_refused (l := l) M a0 2 k0 h8) (cwV 1 hts gX11_see_X11_refused rfl rfl rfl hdV_X11_refused ⟨Nat.le_of_ble_eq_true rfl, Nat.le_of_ble_eq_true rfl⟩) (pV (T := TX11) hP hK hD hT hG hS k0 (by decide) rfl) rfl rfl hl.1 rfl (lv_room (Nat.le_of_ble_eq_true rfl)) dX11_see_47 ⟨Nat.zero_le _, Nat.zero_le _⟩) hS (fun H locs hP hD hT hS => ?_)
        have hZ := Option.some.inj h
        have hZ1 := congrArg Prod.fst hZ
        have hZ2 := congrArg Prod.snd hZ
        exact r_iret hx hb hr hlocks hP hK hD hT hG hS hZ1 hZ2 dX11_see_50
      · replace h := ite_f c7 h
        refine lv_iload_n hx hb dX11_see_27 rfl (lv_at hl 2 rfl) ?_
        refine lv_sipush (v := 9999) hx hb dX11_see_28 rfl ?_
        refine lv_icmp_gt (tgt := 45) hx hb dX11_see_31 rfl (fun c9 => ?_) (fun c9 => ?_)
        · replace h := ite_t c9 h
          refine lv_aload_n hx hb dX11_see_45 rfl (lv_at hl 0 rfl) ?_
          refine lv_iconst (v := 2) hx hb dX11_see_46 rfl ?_
          obtain ⟨z10, h10, h⟩ := ob_some h
          refine k_i (va_runV (As := [.int 2]) (rest := []) ⟨hx, hb, hml, hown, hts⟩ (c_X11_refused (l := l) M a0 2 k0 h10) (cwV 1 hts gX11_see_X11_refused rfl rfl rfl hdV_X11_refused ⟨Nat.le_of_ble_eq_true rfl, Nat.le_of_ble_eq_true rfl⟩) (pV (T := TX11) hP hK hD hT hG hS k0 (by decide) rfl) rfl rfl hl.1 rfl (lv_room (Nat.le_of_ble_eq_true rfl)) dX11_see_47 ⟨Nat.zero_le _, Nat.zero_le _⟩) hS (fun H locs hP hD hT hS => ?_)
          have hZ := Option.some.inj h
          have hZ1 := congrArg Prod.fst hZ
          have hZ2 := congrArg Prod.snd hZ
          exact r_iret hx hb hr hlocks hP hK hD hT hG hS hZ1 hZ2 dX11_see_50
        · replace h := ite_f c9 h
          refine lv_iload_n hx hb dX11_see_34 rfl (lv_at hl 3 rfl) ?_
          refine lv_if_lt (tgt := 45) hx hb dX11_see_35 rfl (fun c11 => ?_) (fun c11 => ?_)
          · replace h := ite_t c11 h
            refine lv_aload_n hx hb dX11_see_45 rfl (lv_at hl 0 rfl) ?_
            refine lv_iconst (v := 2) hx hb dX11_see_46 rfl ?_
            obtain ⟨z12, h12, h⟩ := ob_some h
            refine k_i (va_runV (As := [.int 2]) (rest := []) ⟨hx, hb, hml, hown, hts⟩ (c_X11_refused (l := l) M a0 2 k0 h12) (cwV 1 hts gX11_see_X11_refused rfl rfl rfl hdV_X11_refused ⟨Nat.le_of_ble_eq_true rfl, Nat.le_of_ble_eq_true rfl⟩) (pV (T := TX11) hP hK hD hT hG hS k0 (by decide) rfl) rfl rfl hl.1 rfl (lv_room (Nat.le_of_ble_eq_true rfl)) dX11_see_47 ⟨Nat.zero_le _, Nat.zero_le _⟩) hS (fun H locs hP hD hT hS => ?_)
            have hZ := Option.some.inj h
            have hZ1 := congrArg Prod.fst hZ
            have hZ2 := congrArg Prod.snd hZ
            exact r_iret hx hb hr hlocks hP hK hD hT hG hS hZ1 hZ2 dX11_see_50
          · replace h := ite_f c11 h
            refine lv_iload_n hx hb dX11_see_38 rfl (lv_at hl 3 rfl) ?_
            refine lv_sipush (v := 999) hx hb dX11_see_39 rfl ?_
            refine lv_icmp_le (tgt := 51) hx hb dX11_see_42 rfl (fun c13 => ?_) (fun c13 => ?_)
            · replace h := ite_t c13 h
              refine lv_aload_n hx hb dX11_see_51 rfl (lv_at hl 0 rfl) ?_
              rcases hN14 : gR M a0 2 with _ | b14
              · exact absurd (oc_n hN14 h) (by simp)
              replace h := oc_s hN14 h
              have kb14 := hT.f k0 (k := 2) (t := 4) (n := 0) rfl hN14
              refine r_get (T := TX11) (v := .ref (ad b14)) hx hb hts in11 hown hK hP k0 (by decide) rfl 2 (by decide) (hts (.fieldLink RX11 28 "StoneWalk" "sights" "LStoneWalk$Sights;") (List.mem_of_getElem? (i := 2) (by decide +kernel))) rfl (t := 2) rfl (by show va_rf _ = _; rw [hN14]; rfl) dX11_see_52 ?_
              refine lv_iload_n hx hb dX11_see_55 rfl (lv_at hl 1 rfl) ?_
              refine lv_iload_n hx hb dX11_see_56 rfl (lv_at hl 2 rfl) ?_
              refine lv_iload_n hx hb dX11_see_57 rfl (lv_at hl 3 rfl) ?_
              obtain ⟨z15, h15, h⟩ := ob_some h
              refine k_z (va_runV (As := [.int x1, .int x2, .int x3]) (rest := []) ⟨hx, hb, hml, hown, hts⟩ (c_X4_add (l := l) M b14 x1 x2 x3 kb14 h15) (cwV 3 hts gX11_see_X4_add rfl rfl rfl hdV_X4_add ⟨Nat.le_of_ble_eq_true rfl, Nat.le_of_ble_eq_true rfl⟩) (pV (T := TX4) hP hK hD hT hG hS kb14 (by decide) rfl) rfl rfl hl.1 rfl (lv_room (Nat.le_of_ble_eq_true rfl)) dX11_see_58 ⟨Nat.zero_le _, Nat.zero_le _⟩) hS (fun H locs hz15 hP hD hT hS => ?_)
              refine lv_if_ne (tgt := 70) hx hb dX11_see_61 rfl (fun c16 => ?_) (fun c16 => ?_)
              · replace h := ite_f c16 h
                refine lv_aload_n hx hb dX11_see_70 rfl (lv_at hl 0 rfl) ?_
                refine lv_aload_n hx hb dX11_see_71 rfl (lv_at hl 0 rfl) ?_
                rcases hN17 : gR z15.2 a0 2 with _ | b17
                · exact absurd (oc_n hN17 h) (by simp)
                replace h := oc_s hN17 h
                have kb17 := hT.f k0 (k := 2) (t := 4) (n := 0) rfl hN17
                refine r_get (T := TX11) (v := .ref (ad b17)) hx hb hts in11 hown hK hP k0 (by decide) rfl 2 (by decide) (hts (.fieldLink RX11 28 "StoneWalk" "sights" "LStoneWalk$Sights;") (List.mem_of_getElem? (i := 2) (by decide +kernel))) rfl (t := 2) rfl (by show va_rf _ = _; rw [hN17]; rfl) dX11_see_72 ?_
                refine r_get (T := TX4) (v := .int (gI z15.2 b17 3)) hx hb hts in4 hown hK hP kb17 (by decide) rfl 3 (by decide) (hts (.fieldLink RX11 308 "StoneWalk$Sights" "held" "I") (List.mem_of_getElem? (i := 3) (by decide +kernel))) rfl (t := 0) rfl rfl dX11_see_75 ?_
                obtain ⟨z18, h18, h⟩ := ob_some h
                refine k_i (va_runV (As := [.int (gI z15.2 b17 3)]) (rest := []) ⟨hx, hb, hml, hown, hts⟩ (c_X11_granted (l := l) z15.2 a0 (gI z15.2 b17 3) k0 h18) (cwV 1 hts gX11_see_X11_granted rfl rfl rfl hdV_X11_granted ⟨Nat.le_of_ble_eq_true rfl, Nat.le_of_ble_eq_true rfl⟩) (pV (T := TX11) hP hK hD hT hG hS k0 (by decide) rfl) rfl rfl hl.1 rfl (lv_room (Nat.le_of_ble_eq_true rfl)) dX11_see_78 ⟨Nat.zero_le _, Nat.zero_le _⟩) hS (fun H locs hP hD hT hS => ?_)
                have hZ := Option.some.inj h
                have hZ1 := congrArg Prod.fst hZ
                have hZ2 := congrArg Prod.snd hZ
                exact r_iret hx hb hr hlocks hP hK hD hT hG hS hZ1 hZ2 dX11_see_81
              · replace h := ite_t c16 h
                refine lv_aload_n hx hb dX11_see_64 rfl (lv_at hl 0 rfl) ?_
                refine lv_iconst (v := 3) hx hb dX11_see_65 rfl ?_
                obtain ⟨z19, h19, h⟩ := ob_some h
                refine k_i (va_runV (As := [.int 3]) (rest := []) ⟨hx, hb, hml, hown, hts⟩ (c_X11_refused (l := l) z15.2 a0 3 k0 h19) (cwV 1 hts gX11_see_X11_refused rfl rfl rfl hdV_X11_refused ⟨Nat.le_of_ble_eq_true rfl, Nat.le_of_ble_eq_true rfl⟩) (pV (T := TX11) hP hK hD hT hG hS k0 (by decide) rfl) rfl rfl hl.1 rfl (lv_room (Nat.le_of_ble_eq_true rfl)) dX11_see_66 ⟨Nat.zero_le _, Nat.zero_le _⟩) hS (fun H locs hP hD hT hS => ?_)
                have hZ := Option.some.inj h
                have hZ1 := congrArg Prod.fst hZ
                have hZ2 := congrArg Prod.snd hZ
                exact r_iret hx hb hr hlocks hP hK hD hT hG hS hZ1 hZ2 dX11_see_69
            · replace h := ite_f c13 h
              refine lv_aload_n hx hb dX11_see_45 rfl (lv_at hl 0 rfl) ?_
              refine lv_iconst (v := 2) hx hb dX11_see_46 rfl ?_
              obtain ⟨z20, h20, h⟩ := ob_some h
              refine k_i (va_runV (As := [.int 2]) (rest := []) ⟨hx, hb, hml, hown, hts⟩ (c_X11_refused (l := l) M a0 2 k0 h20) (cwV 1 hts gX11_see_X11_refused rfl rfl rfl hdV_X11_refused ⟨Nat.le_of_ble_eq_true rfl, Nat.le_of_ble_eq_true rfl⟩) (pV (T := TX11) hP hK hD hT hG hS k0 (by decide) rfl) rfl rfl hl.1 rfl (lv_room (Nat.le_of_ble_eq_true rfl)) dX11_see_47 ⟨Nat.zero_le _, Nat.zero_le _⟩) hS (fun H locs hP hD hT hS => ?_)
              have hZ := Option.some.inj h
              have hZ1 := congrArg Prod.fst hZ
              have hZ2 := congrArg Prod.snd hZ
              exact r_iret hx hb hr hlocks hP hK hD hT hG hS hZ1 hZ2 dX11_see_50
  · replace h := ite_f c3 h
    refine lv_aload_n hx hb dX11_see_10 rfl (lv_at hl 0 rfl) ?_
    refine lv_iconst (v := 1) hx hb dX11_see_11 rfl ?_
    obtain ⟨z21, h21, h⟩ := ob_some h
    refine k_i (va_runV (As := [.int 1]) (rest := []) ⟨hx, hb, hml, hown, hts⟩ (c_X11_refused (l := l) M a0 1 k0 h21) (cwV 1 hts gX11_see_X11_refused rfl rfl rfl hdV_X11_refused ⟨Nat.le_of_ble_eq_true rfl, Nat.le_of_ble_eq_true rfl⟩) (pV (T := TX11) hP hK hD hT hG hS k0 (by decide) rfl) rfl rfl hl.1 rfl (lv_room (Nat.le_of_ble_eq_true rfl)) dX11_see_12 ⟨Nat.zero_le _, Nat.zero_le _⟩) hS (fun H locs hP hD hT hS => ?_)
    have hZ := Option.some.inj h
    have hZ1 := congrArg Prod.fst hZ
    have hZ2 := congrArg Prod.snd hZ
    exact r_iret hx hb hr hlocks hP hK hD hT hG hS hZ1 hZ2 dX11_see_15
set_option maxHeartbeats 4000000 in
set_option maxRecDepth 100000 in
theorem c_X11_forget {l : Launch} {D : va_G} {ad : Nat → Nat} {cy : Nat → ClassId} {A : Nat → Prop} {g : CG} {q : SE} (M : MM) (a0 : Nat) (k0 : ok g a0 11 0) {Z : (Int32 × MM)} (h : f_X11_forget M a0 = some Z) : Met l yX11_forget wsX11_forget ({ frames := 1, cells := 0, slots := 0, locals := 20 }) (va_Pc [.ref (ad a0)] (Wd D ad cy A g q M)) (va_Qi (fun r u => r = Z.1 ∧ u = Z.2) (Wd D ad cy A g q) A) 0 0 A := by
  refine Met.ofW (cc := cX11_forget) (maxL := 2) (ret := (some .int)) (by decide) rfl ?_
  intro p e s m args below meth c s₁ B hml hv
  obtain ⟨rfl, hP, hK, hD, hT, hG⟩ := hv
  have hx := B.exec
  have hb := B.bytes
  have hr := B.returns
  have hts := atoms_spec (ws := wsX11_forget) B.pre
  have hown : s.vm.findClass RX11 = some m.cls := findClass_of_methodNamed B.named
  have hlocks := B.notSynchronized
  have in4 : ∀ w ∈ u_ws RX4 TX4 4, w ∈ wsX11_forget := fun w h => List.mem_cons_of_mem _ (List.mem_append_right _ h)
  have in11 : ∀ w ∈ u_ws RX11 TX11 8, w ∈ wsX11_forget := fun w h => List.mem_cons_of_mem _ (List.mem_append_left _ (List.mem_append_right _ h))
  have hS : va_S A s.heap s.heap [] := va_S.rf
  have hl := lv_entry ([.ref (ad a0)]) (n := 2) (Nat.le_of_ble_eq_true rfl)
  rw [lg_entry_eq]
  generalize (lg_sl ([.ref (ad a0)]) ++ List.replicate (2 - (lg_sl ([.ref (ad a0)])).length) Slot.unset).toArray = ls at hl ⊢
  have hl : lv_has ls 2 [(0, .ref (ad a0))] := hl
  unfold f_X11_forget at h
  refine lv_aload_n hx hb dX11_forget_0 rfl (lv_at hl 0 rfl) ?_
  rcases hN1 : gR M a0 2 with _ | b1
  · exact absurd (oc_n hN1 h) (by simp)
  replace h := oc_s hN1 h
  have kb1 := hT.f k0 (k := 2) (t := 4) (n := 0) rfl hN1
  refine r_get (T := TX11) (v := .ref (ad b1)) hx hb hts in11 hown hK hP k0 (by decide) rfl 2 (by decide) (hts (.fieldLink RX11 28 "StoneWalk" "sights" "LStoneWalk$Sights;") (List.mem_of_getElem? (i := 1) (by decide +kernel))) rfl (t := 2) rfl (by show va_rf _ = _; rw [hN1]; rfl) dX11_forget_1 ?_
  refine r_get (T := TX4) (v := .int (gI M b1 3)) hx hb hts in4 hown hK hP kb1 (by decide) rfl 3 (by decide) (hts (.fieldLink RX11 308 "StoneWalk$Sights" "held" "I") (List.mem_of_getElem? (i := 2) (by decide +kernel))) rfl (t := 0) rfl rfl dX11_forget_4 ?_
  refine lv_istore_n (lv' := [(1, .int (gI M b1 3)), (0, .ref (ad a0))]) hx hb dX11_forget_7 rfl hl (by decide) rfl (fun ls hl => ?_)
  refine lv_aload_n hx hb dX11_forget_8 rfl (lv_at hl 1 rfl) ?_
  rcases hN2 : gR M a0 2 with _ | b2
  · exact absurd (oc_n hN2 h) (by simp)
  replace h := oc_s hN2 h
  have kb2 := hT.f k0 (k := 2) (t := 4) (n := 0) rfl hN2
  refine r_get (T := TX11) (v := .ref (ad b2)) hx hb hts in11 hown hK hP k0 (by decide) rfl 2 (by decide) (hts (.fieldLink RX11 28 "StoneWalk" "sights" "LStoneWalk$Sights;") (List.mem_of_getElem? (i := 1) (by decide +kernel))) rfl (t := 2) rfl (by show va_rf _ = _; rw [hN2]; rfl) dX11_forget_9 ?_
  obtain ⟨z3, h3, h⟩ := ob_some h
  refine k_v (va_runV (As := []) (rest := []) ⟨hx, hb, hml, hown, hts⟩ (c_X4_clear (l := l) M b2 kb2 h3) (cwV 0 hts gX11_forget_X4_clear rfl rfl rfl hdV_X4_clear ⟨Nat.le_of_ble_eq_true rfl, Nat.le_of_ble_eq_true rfl⟩) (pV (T := TX4) hP hK hD hT hG hS kb2 (by decide) rfl) rfl rfl hl.1 rfl (lv_room (Nat.le_of_ble_eq_true rfl)) dX11_forget_12 ⟨Nat.zero_le _, Nat.zero_le _⟩) hS (fun H locs hP hD hT hS => ?_)
  refine lv_iload_n hx hb dX11_forget_15 rfl (lv_at hl 0 rfl) ?_
  have hZ := Option.some.inj h
  have hZ1 := congrArg Prod.fst hZ
  have hZ2 := congrArg Prod.snd hZ
  exact r_iret hx hb hr hlocks hP hK hD hT hG hS hZ1 hZ2 dX11_forget_16
set_option maxHeartbeats 4000000 in
set_option maxRecDepth 100000 in
theorem c_X11_landTrouble {l : Launch} {D : va_G} {ad : Nat → Nat} {cy : Nat → ClassId} {A : Nat → Prop} {g : CG} {q : SE} (M : MM) (a0 : Nat) (k0 : ok g a0 11 0) {Z : Int32} (h : f_X11_landTrouble M a0 = some Z) : Met l yX11_landTrouble wsX11_landTrouble ({ frames := 3, cells := 0, slots := 0, locals := 64 }) (va_Pc [.ref (ad a0)] (Wd D ad cy A g q M)) (va_Qi (fun r u => r = Z ∧ u = M) (Wd D ad cy A g q) A) 0 0 A := by
  refine Met.ofW (cc := cX11_landTrouble) (maxL := 1) (ret := (some .int)) (by decide) rfl ?_
  intro p e s m args below meth c s₁ B hml hv
  obtain ⟨rfl, hP, hK, hD, hT, hG⟩ := hv
  have hx := B.exec
  have hb := B.bytes
  have hr := B.returns
  have hts := atoms_spec (ws := wsX11_landTrouble) B.pre
  have hown : s.vm.findClass RX11 = some m.cls := findClass_of_methodNamed B.named
  have hlocks := B.notSynchronized
  have in11 : ∀ w ∈ u_ws RX11 TX11 8, w ∈ wsX11_landTrouble := fun w h => List.mem_cons_of_mem _ (List.mem_append_left _ (List.mem_append_right _ h))
  have hS : va_S A s.heap s.heap [] := va_S.rf
  have hl := lv_entry ([.ref (ad a0)]) (n := 1) (Nat.le_of_ble_eq_true rfl)
  rw [lg_entry_eq]
  generalize (lg_sl ([.ref (ad a0)]) ++ List.replicate (1 - (lg_sl ([.ref (ad a0)])).length) Slot.unset).toArray = ls at hl ⊢
  have hl : lv_has ls 1 [(0, .ref (ad a0))] := hl
  unfold f_X11_landTrouble at h
  refine lv_aload_n hx hb dX11_landTrouble_0 rfl (lv_at hl 0 rfl) ?_
  rcases hN1 : gR M a0 5 with _ | b1
  · exact absurd (oc_n hN1 h) (by simp)
  replace h := oc_s hN1 h
  have kb1 := hT.f k0 (k := 5) (t := 0) (n := 0) rfl hN1
  refine r_get (T := TX11) (v := .ref (ad b1)) hx hb hts in11 hown hK hP k0 (by decide) rfl 5 (by decide) (hts (.fieldLink RX11 45 "StoneWalk" "island" "LStoneWalk$Island;") (List.mem_of_getElem? (i := 1) (by decide +kernel))) rfl (t := 2) rfl (by show va_rf _ = _; rw [hN1]; rfl) dX11_landTrouble_1 ?_
  obtain ⟨z2, h2, h⟩ := ob_some h
  refine k_z (va_runV (As := []) (rest := []) ⟨hx, hb, hml, hown, hts⟩ (c_X0_isBare (l := l) M b1 kb1 h2) (cwV 0 hts gX11_landTrouble_X0_isBare rfl rfl rfl hdV_X0_isBare ⟨Nat.le_of_ble_eq_true rfl, Nat.le_of_ble_eq_true rfl⟩) (pV (T := TX0) hP hK hD hT hG hS kb1 (by decide) rfl) rfl rfl hl.1 rfl (lv_room (Nat.le_of_ble_eq_true rfl)) dX11_landTrouble_4 ⟨Nat.zero_le _, Nat.zero_le _⟩) hS (fun H locs hz2 hP hD hT hS => ?_)
  refine lv_if_eq (tgt := 12) hx hb dX11_landTrouble_7 rfl (fun c3 => ?_) (fun c3 => ?_)
  · replace h := ite_t c3 h
    refine lv_aload_n hx hb dX11_landTrouble_12 rfl (lv_at hl 0 rfl) ?_
    rcases hN4 : gR M a0 5 with _ | b4
    · exact absurd (oc_n hN4 h) (by simp)
    replace h := oc_s hN4 h
    have kb4 := hT.f k0 (k := 5) (t := 0) (n := 0) rfl hN4
    refine r_get (T := TX11) (v := .ref (ad b4)) hx hb hts in11 hown hK hP k0 (by decide) rfl 5 (by decide) (hts (.fieldLink RX11 45 "StoneWalk" "island" "LStoneWalk$Island;") (List.mem_of_getElem? (i := 1) (by decide +kernel))) rfl (t := 2) rfl (by show va_rf _ = _; rw [hN4]; rfl) dX11_landTrouble_13 ?_
    refine lv_bipush (v := 7) hx hb dX11_landTrouble_16 rfl ?_
    refine lv_iconst (v := 0) hx hb dX11_landTrouble_18 rfl ?_
    obtain ⟨z5, h5, h⟩ := ob_some h
    refine k_z (va_runV (As := [.int 7, .int 0]) (rest := []) ⟨hx, hb, hml, hown, hts⟩ (c_X0_has (l := l) M b4 7 0 kb4 h5) (cwV 2 hts gX11_landTrouble_X0_has rfl rfl rfl hdV_X0_has ⟨Nat.le_of_ble_eq_true rfl, Nat.le_of_ble_eq_true rfl⟩) (pV (T := TX0) hP hK hD hT hG hS kb4 (by decide) rfl) rfl rfl hl.1 rfl (lv_room (Nat.le_of_ble_eq_true rfl)) dX11_landTrouble_19 ⟨Nat.zero_le _, Nat.zero_le _⟩) hS (fun H locs hz5 hP hD hT hS => ?_)
    refine lv_if_eq (tgt := 29) hx hb dX11_landTrouble_22 rfl (fun c6 => ?_) (fun c6 => ?_)
    · replace h := ite_t c6 h
      refine lv_bipush (v := 6) hx hb dX11_landTrouble_29 rfl ?_
      exact r_iret hx hb hr hlocks hP hK hD hT hG hS (Option.some.inj h) rfl dX11_landTrouble_31
    · replace h := ite_f c6 h
      refine lv_iconst (v := 0) hx hb dX11_landTrouble_25 rfl ?_
      refine lv_goto (tgt := 31) hx hb dX11_landTrouble_26 rfl ?_
      exact r_iret hx hb hr hlocks hP hK hD hT hG hS (Option.some.inj h) rfl dX11_landTrouble_31
  · replace h := ite_f c3 h
    refine lv_iconst (v := 1) hx hb dX11_landTrouble_10 rfl ?_
    exact r_iret hx hb hr hlocks hP hK hD hT hG hS (Option.some.inj h) rfl dX11_landTrouble_11
set_option maxHeartbeats 4000000 in
set_option maxRecDepth 100000 in
theorem c_X11_fits {l : Launch} {D : va_G} {ad : Nat → Nat} {cy : Nat → ClassId} {A : Nat → Prop} {g : CG} {q : SE} (M : MM) (a0 : Nat) (k0 : ok g a0 11 0) {Z : (Int32 × MM)} (h : f_X11_fits M a0 = some Z) : Met l yX11_fits wsX11_fits ({ frames := 4, cells := 0, slots := 0, locals := 88 }) (va_Pc [.ref (ad a0)] (Wd D ad cy A g q M)) (va_Qi (fun r u => r = Z.1 ∧ u = Z.2) (Wd D ad cy A g q) A) 0 0 A := by
  refine Met.ofW (cc := cX11_fits) (maxL := 2) (ret := (some .int)) (by decide) rfl ?_
  intro p e s m args below meth c s₁ B hml hv
  obtain ⟨rfl, hP, hK, hD, hT, hG⟩ := hv
  have hx := B.exec
  have hb := B.bytes
  have hr := B.returns
  have hts := atoms_spec (ws := wsX11_fits) B.pre
  have hown : s.vm.findClass RX11 = some m.cls := findClass_of_methodNamed B.named
  have hlocks := B.notSynchronized
  have in11 : ∀ w ∈ u_ws RX11 TX11 8, w ∈ wsX11_fits := fun w h => List.mem_cons_of_mem _ (List.mem_append_left _ (List.mem_append_left _ (List.mem_append_left _ (List.mem_append_right _ h))))
  have hS : va_S A s.heap s.heap [] := va_S.rf
  have hl := lv_entry ([.ref (ad a0)]) (n := 2) (Nat.le_of_ble_eq_true rfl)
  rw [lg_entry_eq]
  generalize (lg_sl ([.ref (ad a0)]) ++ List.replicate (2 - (lg_sl ([.ref (ad a0)])).length) Slot.unset).toArray = ls at hl ⊢
  have hl : lv_has ls 2 [(0, .ref (ad a0))] := hl
  unfold f_X11_fits at h
  refine lv_aload_n hx hb dX11_fits_0 rfl (lv_at hl 0 rfl) ?_
  obtain ⟨z1, h1, h⟩ := ob_some h
  refine k_i (va_runV (As := []) (rest := []) ⟨hx, hb, hml, hown, hts⟩ (c_X11_landTrouble (l := l) M a0 k0 h1) (cwV 0 hts gX11_fits_X11_landTrouble rfl rfl rfl hdV_X11_landTrouble ⟨Nat.le_of_ble_eq_true rfl, Nat.le_of_ble_eq_true rfl⟩) (pV (T := TX11) hP hK hD hT hG hS k0 (by decide) rfl) rfl rfl hl.1 rfl (lv_room (Nat.le_of_ble_eq_true rfl)) dX11_fits_1 ⟨Nat.zero_le _, Nat.zero_le _⟩) hS (fun H locs hP hD hT hS => ?_)
  refine lv_istore_n (lv' := [(1, .int z1), (0, .ref (ad a0))]) hx hb dX11_fits_4 rfl hl (by decide) rfl (fun ls hl => ?_)
  refine lv_iload_n hx hb dX11_fits_5 rfl (lv_at hl 0 rfl) ?_
  refine lv_if_eq (tgt := 17) hx hb dX11_fits_6 rfl (fun c2 => ?_) (fun c2 => ?_)
  · replace h := ite_t c2 h
    refine lv_aload_n hx hb dX11_fits_17 rfl (lv_at hl 1 rfl) ?_
    refine lv_aload_n hx hb dX11_fits_18 rfl (lv_at hl 1 rfl) ?_
    rcases hN3 : gR M a0 2 with _ | b3
    · exact absurd (oc_n hN3 h) (by simp)
    replace h := oc_s hN3 h
    have kb3 := hT.f k0 (k := 2) (t := 4) (n := 0) rfl hN3
    refine r_get (T := TX11) (v := .ref (ad b3)) hx hb hts in11 hown hK hP k0 (by decide) rfl 2 (by decide) (hts (.fieldLink RX11 28 "StoneWalk" "sights" "LStoneWalk$Sights;") (List.mem_of_getElem? (i := 1) (by decide +kernel))) rfl (t := 2) rfl (by show va_rf _ = _; rw [hN3]; rfl) dX11_fits_19 ?_
    refine lv_aload_n hx hb dX11_fits_22 rfl (lv_at hl 1 rfl) ?_
    rcases hN4 : gR M a0 5 with _ | b4
    · exact absurd (oc_n hN4 h) (by simp)
    replace h := oc_s hN4 h
    have kb4 := hT.f k0 (k := 5) (t := 0) (n := 0) rfl hN4
    refine r_get (T := TX11) (v := .ref (ad b4)) hx hb hts in11 hown hK hP k0 (by decide) rfl 5 (by decide) (hts (.fieldLink RX11 45 "StoneWalk" "island" "LStoneWalk$Island;") (List.mem_of_getElem? (i := 2) (by decide +kernel))) rfl (t := 2) rfl (by show va_rf _ = _; rw [hN4]; rfl) dX11_fits_23 ?_
    obtain ⟨z5, h5, h⟩ := ob_some h
    refine k_i (va_runV (As := [.ref (ad b4)]) (rest := [.ref (ad a0)]) ⟨hx, hb, hml, hown, hts⟩ (c_X4_agreeing (l := l) M b3 b4 kb3 kb4 h5) (cwV 1 hts gX11_fits_X4_agreeing rfl rfl rfl hdV_X4_agreeing ⟨Nat.le_of_ble_eq_true rfl, Nat.le_of_ble_eq_true rfl⟩) (pV (T := TX4) hP hK hD hT hG hS kb3 (by decide) rfl) rfl rfl hl.1 rfl (lv_room (Nat.le_of_ble_eq_true rfl)) dX11_fits_26 ⟨Nat.zero_le _, Nat.zero_le _⟩) hS (fun H locs hP hD hT hS => ?_)
    obtain ⟨z6, h6, h⟩ := ob_some h
    refine k_i (va_runV (As := [.int z5]) (rest := []) ⟨hx, hb, hml, hown, hts⟩ (c_X11_granted (l := l) M a0 z5 k0 h6) (cwV 1 hts gX11_fits_X11_granted rfl rfl rfl hdV_X11_granted ⟨Nat.le_of_ble_eq_true rfl, Nat.le_of_ble_eq_true rfl⟩) (pV (T := TX11) hP hK hD hT hG hS k0 (by decide) rfl) rfl rfl hl.1 rfl (lv_room (Nat.le_of_ble_eq_true rfl)) dX11_fits_29 ⟨Nat.zero_le _, Nat.zero_le _⟩) hS (fun H locs hP hD hT hS => ?_)
    have hZ := Option.some.inj h
    have hZ1 := congrArg Prod.fst hZ
    have hZ2 := congrArg Prod.snd hZ
    exact r_iret hx hb hr hlocks hP hK hD hT hG hS hZ1 hZ2 dX11_fits_32
  · replace h := ite_f c2 h
    refine lv_aload_n hx hb dX11_fits_9 rfl (lv_at hl 1 rfl) ?_
    refine lv_iload_n hx hb dX11_fits_10 rfl (lv_at hl 0 rfl) ?_
    obtain ⟨z7, h7, h⟩ := ob_some h
    refine k_i (va_runV (As := [.int z1]) (rest := []) ⟨hx, hb, hml, hown, hts⟩ (c_X11_refused (l := l) M a0 z1 k0 h7) (cwV 1 hts gX11_fits_X11_refused rfl rfl rfl hdV_X11_refused ⟨Nat.le_of_ble_eq_true rfl, Nat.le_of_ble_eq_true rfl⟩) (pV (T := TX11) hP hK hD hT hG hS k0 (by decide) rfl) rfl rfl hl.1 rfl (lv_room (Nat.le_of_ble_eq_true rfl)) dX11_fits_11 ⟨Nat.zero_le _, Nat.zero_le _⟩) hS (fun H locs hP hD hT hS => ?_)
    refine lv_goto (tgt := 32) hx hb dX11_fits_14 rfl ?_
    have hZ := Option.some.inj h
    have hZ1 := congrArg Prod.fst hZ
    have hZ2 := congrArg Prod.snd hZ
    exact r_iret hx hb hr hlocks hP hK hD hT hG hS hZ1 hZ2 dX11_fits_32
set_option maxHeartbeats 4000000 in
set_option maxRecDepth 100000 in
theorem c_X11_weight {l : Launch} {D : va_G} {ad : Nat → Nat} {cy : Nat → ClassId} {A : Nat → Prop} {g : CG} {q : SE} (M : MM) (a0 : Nat) (k0 : ok g a0 11 0) {Z : (Int32 × MM)} (h : f_X11_weight M a0 = some Z) : Met l yX11_weight wsX11_weight ({ frames := 4, cells := 0, slots := 0, locals := 88 }) (va_Pc [.ref (ad a0)] (Wd D ad cy A g q M)) (va_Qi (fun r u => r = Z.1 ∧ u = Z.2) (Wd D ad cy A g q) A) 0 0 A := by
  refine Met.ofW (cc := cX11_weight) (maxL := 2) (ret := (some .int)) (by decide) rfl ?_
  intro p e s m args below meth c s₁ B hml hv
  obtain ⟨rfl, hP, hK, hD, hT, hG⟩ := hv
  have hx := B.exec
  have hb := B.bytes
  have hr := B.returns
  have hts := atoms_spec (ws := wsX11_weight) B.pre
  have hown : s.vm.findClass RX11 = some m.cls := findClass_of_methodNamed B.named
  have hlocks := B.notSynchronized
  have in11 : ∀ w ∈ u_ws RX11 TX11 8, w ∈ wsX11_weight := fun w h => List.mem_cons_of_mem _ (List.mem_append_left _ (List.mem_append_left _ (List.mem_append_left _ (List.mem_append_right _ h))))
  have hS : va_S A s.heap s.heap [] := va_S.rf
  have hl := lv_entry ([.ref (ad a0)]) (n := 2) (Nat.le_of_ble_eq_true rfl)
  rw [lg_entry_eq]
  generalize (lg_sl ([.ref (ad a0)]) ++ List.replicate (2 - (lg_sl ([.ref (ad a0)])).length) Slot.unset).toArray = ls at hl ⊢
  have hl : lv_has ls 2 [(0, .ref (ad a0))] := hl
  unfold f_X11_weight at h
  refine lv_aload_n hx hb dX11_weight_0 rfl (lv_at hl 0 rfl) ?_
  obtain ⟨z1, h1, h⟩ := ob_some h
  refine k_i (va_runV (As := []) (rest := []) ⟨hx, hb, hml, hown, hts⟩ (c_X11_landTrouble (l := l) M a0 k0 h1) (cwV 0 hts gX11_weight_X11_landTrouble rfl rfl rfl hdV_X11_landTrouble ⟨Nat.le_of_ble_eq_true rfl, Nat.le_of_ble_eq_true rfl⟩) (pV (T := TX11) hP hK hD hT hG hS k0 (by decide) rfl) rfl rfl hl.1 rfl (lv_room (Nat.le_of_ble_eq_true rfl)) dX11_weight_1 ⟨Nat.zero_le _, Nat.zero_le _⟩) hS (fun H locs hP hD hT hS => ?_)
  refine lv_istore_n (lv' := [(1, .int z1), (0, .ref (ad a0))]) hx hb dX11_weight_4 rfl hl (by decide) rfl (fun ls hl => ?_)
  refine lv_iload_n hx hb dX11_weight_5 rfl (lv_at hl 0 rfl) ?_
  refine lv_if_eq (tgt := 17) hx hb dX11_weight_6 rfl (fun c2 => ?_) (fun c2 => ?_)
  · replace h := ite_t c2 h
    refine lv_aload_n hx hb dX11_weight_17 rfl (lv_at hl 1 rfl) ?_
    refine lv_aload_n hx hb dX11_weight_18 rfl (lv_at hl 1 rfl) ?_
    rcases hN3 : gR M a0 5 with _ | b3
    · exact absurd (oc_n hN3 h) (by simp)
    replace h := oc_s hN3 h
    have kb3 := hT.f k0 (k := 5) (t := 0) (n := 0) rfl hN3
    refine r_get (T := TX11) (v := .ref (ad b3)) hx hb hts in11 hown hK hP k0 (by decide) rfl 5 (by decide) (hts (.fieldLink RX11 45 "StoneWalk" "island" "LStoneWalk$Island;") (List.mem_of_getElem? (i := 1) (by decide +kernel))) rfl (t := 2) rfl (by show va_rf _ = _; rw [hN3]; rfl) dX11_weight_19 ?_
    refine lv_aload_n hx hb dX11_weight_22 rfl (lv_at hl 1 rfl) ?_
    rcases hN4 : gR M a0 2 with _ | b4
    · exact absurd (oc_n hN4 h) (by simp)
    replace h := oc_s hN4 h
    have kb4 := hT.f k0 (k := 2) (t := 4) (n := 0) rfl hN4
    refine r_get (T := TX11) (v := .ref (ad b4)) hx hb hts in11 hown hK hP k0 (by decide) rfl 2 (by decide) (hts (.fieldLink RX11 28 "StoneWalk" "sights" "LStoneWalk$Sights;") (List.mem_of_getElem? (i := 2) (by decide +kernel))) rfl (t := 2) rfl (by show va_rf _ = _; rw [hN4]; rfl) dX11_weight_23 ?_
    refine lv_aload_n hx hb dX11_weight_26 rfl (lv_at hl 1 rfl) ?_
    rcases hN5 : gR M a0 5 with _ | b5
    · exact absurd (oc_n hN5 h) (by simp)
    replace h := oc_s hN5 h
    have kb5 := hT.f k0 (k := 5) (t := 0) (n := 0) rfl hN5
    refine r_get (T := TX11) (v := .ref (ad b5)) hx hb hts in11 hown hK hP k0 (by decide) rfl 5 (by decide) (hts (.fieldLink RX11 45 "StoneWalk" "island" "LStoneWalk$Island;") (List.mem_of_getElem? (i := 1) (by decide +kernel))) rfl (t := 2) rfl (by show va_rf _ = _; rw [hN5]; rfl) dX11_weight_27 ?_
    obtain ⟨z6, h6, h⟩ := ob_some h
    refine k_i (va_runV (As := [.ref (ad b5)]) (rest := [.ref (ad b3), .ref (ad a0)]) ⟨hx, hb, hml, hown, hts⟩ (c_X4_agreeing (l := l) M b4 b5 kb4 kb5 h6) (cwV 1 hts gX11_weight_X4_agreeing rfl rfl rfl hdV_X4_agreeing ⟨Nat.le_of_ble_eq_true rfl, Nat.le_of_ble_eq_true rfl⟩) (pV (T := TX4) hP hK hD hT hG hS kb4 (by decide) rfl) rfl rfl hl.1 rfl (lv_room (Nat.le_of_ble_eq_true rfl)) dX11_weight_30 ⟨Nat.zero_le _, Nat.zero_le _⟩) hS (fun H locs hP hD hT hS => ?_)
    obtain ⟨z7, h7, h⟩ := ob_some h
    refine k_i (va_runV (As := [.int z6]) (rest := [.ref (ad a0)]) ⟨hx, hb, hml, hown, hts⟩ (c_X0_weightOf (l := l) M b3 z6 kb3 h7) (cwV 1 hts gX11_weight_X0_weightOf rfl rfl rfl hdV_X0_weightOf ⟨Nat.le_of_ble_eq_true rfl, Nat.le_of_ble_eq_true rfl⟩) (pV (T := TX0) hP hK hD hT hG hS kb3 (by decide) rfl) rfl rfl hl.1 rfl (lv_room (Nat.le_of_ble_eq_true rfl)) dX11_weight_33 ⟨Nat.zero_le _, Nat.zero_le _⟩) hS (fun H locs hP hD hT hS => ?_)
    obtain ⟨z8, h8, h⟩ := ob_some h
    refine k_i (va_runV (As := [.int z7]) (rest := []) ⟨hx, hb, hml, hown, hts⟩ (c_X11_granted (l := l) M a0 z7 k0 h8) (cwV 1 hts gX11_weight_X11_granted rfl rfl rfl hdV_X11_granted ⟨Nat.le_of_ble_eq_true rfl, Nat.le_of_ble_eq_true rfl⟩) (pV (T := TX11) hP hK hD hT hG hS k0 (by decide) rfl) rfl rfl hl.1 rfl (lv_room (Nat.le_of_ble_eq_true rfl)) dX11_weight_36 ⟨Nat.zero_le _, Nat.zero_le _⟩) hS (fun H locs hP hD hT hS => ?_)
    have hZ := Option.some.inj h
    have hZ1 := congrArg Prod.fst hZ
    have hZ2 := congrArg Prod.snd hZ
    exact r_iret hx hb hr hlocks hP hK hD hT hG hS hZ1 hZ2 dX11_weight_39
  · replace h := ite_f c2 h
    refine lv_aload_n hx hb dX11_weight_9 rfl (lv_at hl 1 rfl) ?_
    refine lv_iload_n hx hb dX11_weight_10 rfl (lv_at hl 0 rfl) ?_
    obtain ⟨z9, h9, h⟩ := ob_some h
    refine k_i (va_runV (As := [.int z1]) (rest := []) ⟨hx, hb, hml, hown, hts⟩ (c_X11_refused (l := l) M a0 z1 k0 h9) (cwV 1 hts gX11_weight_X11_refused rfl rfl rfl hdV_X11_refused ⟨Nat.le_of_ble_eq_true rfl, Nat.le_of_ble_eq_true rfl⟩) (pV (T := TX11) hP hK hD hT hG hS k0 (by decide) rfl) rfl rfl hl.1 rfl (lv_room (Nat.le_of_ble_eq_true rfl)) dX11_weight_11 ⟨Nat.zero_le _, Nat.zero_le _⟩) hS (fun H locs hP hD hT hS => ?_)
    refine lv_goto (tgt := 39) hx hb dX11_weight_14 rfl ?_
    have hZ := Option.some.inj h
    have hZ1 := congrArg Prod.fst hZ
    have hZ2 := congrArg Prod.snd hZ
    exact r_iret hx hb hr hlocks hP hK hD hT hG hS hZ1 hZ2 dX11_weight_39
set_option maxHeartbeats 4000000 in
set_option maxRecDepth 100000 in
theorem c_X11_gone {l : Launch} {D : va_G} {ad : Nat → Nat} {cy : Nat → ClassId} {A : Nat → Prop} {g : CG} {q : SE} (M : MM) (a0 : Nat) (x1 : Int32) (k0 : ok g a0 11 0) {Z : (Int32 × MM)} (h : f_X11_gone M a0 x1 = some Z) : Met l yX11_gone wsX11_gone ({ frames := 3, cells := 0, slots := 0, locals := 64 }) (va_Pc [.ref (ad a0), .int x1] (Wd D ad cy A g q M)) (va_Qi (fun r u => r = Z.1 ∧ u = Z.2) (Wd D ad cy A g q) A) 0 0 A := by
  refine Met.ofW (cc := cX11_gone) (maxL := 3) (ret := (some .int)) (by decide) rfl ?_
  intro p e s m args below meth c s₁ B hml hv
  obtain ⟨rfl, hP, hK, hD, hT, hG⟩ := hv
  have hx := B.exec
  have hb := B.bytes
  have hr := B.returns
  have hts := atoms_spec (ws := wsX11_gone) B.pre
  have hown : s.vm.findClass RX11 = some m.cls := findClass_of_methodNamed B.named
  have hlocks := B.notSynchronized
  have in11 : ∀ w ∈ u_ws RX11 TX11 8, w ∈ wsX11_gone := fun w h => List.mem_cons_of_mem _ (List.mem_append_left _ (List.mem_append_left _ (List.mem_append_right _ h)))
  have hS : va_S A s.heap s.heap [] := va_S.rf
  have hl := lv_entry ([.ref (ad a0), .int x1]) (n := 3) (Nat.le_of_ble_eq_true rfl)
  rw [lg_entry_eq]
  generalize (lg_sl ([.ref (ad a0), .int x1]) ++ List.replicate (3 - (lg_sl ([.ref (ad a0), .int x1])).length) Slot.unset).toArray = ls at hl ⊢
  have hl : lv_has ls 3 [(0, .ref (ad a0)), (1, .int x1)] := hl
  unfold f_X11_gone at h
  refine lv_aload_n hx hb dX11_gone_0 rfl (lv_at hl 0 rfl) ?_
  rcases hN1 : gR M a0 5 with _ | b1
  · exact absurd (oc_n hN1 h) (by simp)
  replace h := oc_s hN1 h
  have kb1 := hT.f k0 (k := 5) (t := 0) (n := 0) rfl hN1
  refine r_get (T := TX11) (v := .ref (ad b1)) hx hb hts in11 hown hK hP k0 (by decide) rfl 5 (by decide) (hts (.fieldLink RX11 45 "StoneWalk" "island" "LStoneWalk$Island;") (List.mem_of_getElem? (i := 1) (by decide +kernel))) rfl (t := 2) rfl (by show va_rf _ = _; rw [hN1]; rfl) dX11_gone_1 ?_
  refine lv_iload_n hx hb dX11_gone_4 rfl (lv_at hl 1 rfl) ?_
  obtain ⟨z2, h2, h⟩ := ob_some h
  refine k_q (va_runV (As := [.int x1]) (rest := []) ⟨hx, hb, hml, hown, hts⟩ (c_X0_storyAt (l := l) M b1 x1 kb1 h2) (cwV 1 hts gX11_gone_X0_storyAt rfl rfl rfl hdV_X0_storyAt ⟨Nat.le_of_ble_eq_true rfl, Nat.le_of_ble_eq_true rfl⟩) (pV (T := TX0) hP hK hD hT hG hS kb1 (by decide) rfl) rfl rfl hl.1 rfl (lv_room (Nat.le_of_ble_eq_true rfl)) dX11_gone_5 ⟨Nat.zero_le _, Nat.zero_le _⟩) hS (fun H locs hq2 hP hD hT hS => ?_)
  rcases hN2 : z2 with _ | b2
  · replace h := oc_n hN2 h
    show W _ _ _ _ _ _ _ _ _ _ _ _ _ _ _ (F0 _ _ _ (.null :: []))
    refine lv_astore_nN (lv' := [(2, .null), (0, .ref (ad a0)), (1, .int x1)]) hx hb dX11_gone_8 rfl hl (by decide) rfl (fun ls hl => ?_)
    refine lv_aload_nN hx hb dX11_gone_9 rfl (lv_at hl 0 rfl) ?_
    refine lv_ifnonnullN hx hb dX11_gone_10 ?_
    refine lv_aload_n hx hb dX11_gone_13 rfl (lv_at hl 1 rfl) ?_
    refine lv_iconst (v := 1) hx hb dX11_gone_14 rfl ?_
    obtain ⟨z3, h3, h⟩ := ob_some h
    refine k_i (va_runV (As := [.int 1]) (rest := []) ⟨hx, hb, hml, hown, hts⟩ (c_X11_refused (l := l) M a0 1 k0 h3) (cwV 1 hts gX11_gone_X11_refused rfl rfl rfl hdV_X11_refused ⟨Nat.le_of_ble_eq_true rfl, Nat.le_of_ble_eq_true rfl⟩) (pV (T := TX11) hP hK hD hT hG hS k0 (by decide) rfl) rfl rfl hl.1 rfl (lv_room (Nat.le_of_ble_eq_true rfl)) dX11_gone_15 ⟨Nat.zero_le _, Nat.zero_le _⟩) hS (fun H locs hP hD hT hS => ?_)
    have hZ := Option.some.inj h
    have hZ1 := congrArg Prod.fst hZ
    have hZ2 := congrArg Prod.snd hZ
    exact r_iret hx hb hr hlocks hP hK hD hT hG hS hZ1 hZ2 dX11_gone_18
  · replace h := oc_s hN2 h
    have kb2 := hq2 _ hN2
    show W _ _ _ _ _ _ _ _ _ _ _ _ _ _ _ (F0 _ _ _ (.ref (ad b2) :: []))
    refine lv_astore_n (lv' := [(2, .ref (ad b2)), (0, .ref (ad a0)), (1, .int x1)]) hx hb dX11_gone_8 rfl hl (by decide) rfl (fun ls hl => ?_)
    refine lv_aload_n hx hb dX11_gone_9 rfl (lv_at hl 0 rfl) ?_
    refine lv_ifnonnull (tgt := 19) hx hb dX11_gone_10 rfl ?_
    refine lv_aload_n hx hb dX11_gone_19 rfl (lv_at hl 1 rfl) ?_
    rcases hN4 : gR M a0 5 with _ | b4
    · exact absurd (oc_n hN4 h) (by simp)
    replace h := oc_s hN4 h
    have kb4 := hT.f k0 (k := 5) (t := 0) (n := 0) rfl hN4
    refine r_get (T := TX11) (v := .ref (ad b4)) hx hb hts in11 hown hK hP k0 (by decide) rfl 5 (by decide) (hts (.fieldLink RX11 45 "StoneWalk" "island" "LStoneWalk$Island;") (List.mem_of_getElem? (i := 1) (by decide +kernel))) rfl (t := 2) rfl (by show va_rf _ = _; rw [hN4]; rfl) dX11_gone_20 ?_
    refine lv_bipush (v := 7) hx hb dX11_gone_23 rfl ?_
    refine lv_iconst (v := 0) hx hb dX11_gone_25 rfl ?_
    obtain ⟨z5, h5, h⟩ := ob_some h
    refine k_z (va_runV (As := [.int 7, .int 0]) (rest := []) ⟨hx, hb, hml, hown, hts⟩ (c_X0_has (l := l) M b4 7 0 kb4 h5) (cwV 2 hts gX11_gone_X0_has rfl rfl rfl hdV_X0_has ⟨Nat.le_of_ble_eq_true rfl, Nat.le_of_ble_eq_true rfl⟩) (pV (T := TX0) hP hK hD hT hG hS kb4 (by decide) rfl) rfl rfl hl.1 rfl (lv_room (Nat.le_of_ble_eq_true rfl)) dX11_gone_26 ⟨Nat.zero_le _, Nat.zero_le _⟩) hS (fun H locs hz5 hP hD hT hS => ?_)
    refine lv_if_ne (tgt := 39) hx hb dX11_gone_29 rfl (fun c6 => ?_) (fun c6 => ?_)
    · replace h := ite_f c6 h
      refine lv_aload_n hx hb dX11_gone_39 rfl (lv_at hl 1 rfl) ?_
      refine lv_aload_n hx hb dX11_gone_40 rfl (lv_at hl 0 rfl) ?_
      obtain ⟨z7, h7, h⟩ := ob_some h
      refine k_i (va_runV (As := []) (rest := [.ref (ad a0)]) ⟨hx, hb, hml, hown, hts⟩ (c_X6_yearGone (l := l) M b2 kb2 h7) (cwV 0 hts gX11_gone_X6_yearGone rfl rfl rfl hdV_X6_yearGone ⟨Nat.le_of_ble_eq_true rfl, Nat.le_of_ble_eq_true rfl⟩) (pV (T := TX6) hP hK hD hT hG hS kb2 (by decide) rfl) rfl rfl hl.1 rfl (lv_room (Nat.le_of_ble_eq_true rfl)) dX11_gone_41 ⟨Nat.zero_le _, Nat.zero_le _⟩) hS (fun H locs hP hD hT hS => ?_)
      obtain ⟨z8, h8, h⟩ := ob_some h
      refine k_i (va_runV (As := [.int z7]) (rest := []) ⟨hx, hb, hml, hown, hts⟩ (c_X11_granted (l := l) M a0 z7 k0 h8) (cwV 1 hts gX11_gone_X11_granted rfl rfl rfl hdV_X11_granted ⟨Nat.le_of_ble_eq_true rfl, Nat.le_of_ble_eq_true rfl⟩) (pV (T := TX11) hP hK hD hT hG hS k0 (by decide) rfl) rfl rfl hl.1 rfl (lv_room (Nat.le_of_ble_eq_true rfl)) dX11_gone_44 ⟨Nat.zero_le _, Nat.zero_le _⟩) hS (fun H locs hP hD hT hS => ?_)
      have hZ := Option.some.inj h
      have hZ1 := congrArg Prod.fst hZ
      have hZ2 := congrArg Prod.snd hZ
      exact r_iret hx hb hr hlocks hP hK hD hT hG hS hZ1 hZ2 dX11_gone_47
    · replace h := ite_t c6 h
      refine lv_aload_n hx hb dX11_gone_32 rfl (lv_at hl 1 rfl) ?_
      refine lv_bipush (v := 6) hx hb dX11_gone_33 rfl ?_
      obtain ⟨z9, h9, h⟩ := ob_some h
      refine k_i (va_runV (As := [.int 6]) (rest := []) ⟨hx, hb, hml, hown, hts⟩ (c_X11_refused (l := l) M a0 6 k0 h9) (cwV 1 hts gX11_gone_X11_refused rfl rfl rfl hdV_X11_refused ⟨Nat.le_of_ble_eq_true rfl, Nat.le_of_ble_eq_true rfl⟩) (pV (T := TX11) hP hK hD hT hG hS k0 (by decide) rfl) rfl rfl hl.1 rfl (lv_room (Nat.le_of_ble_eq_true rfl)) dX11_gone_35 ⟨Nat.zero_le _, Nat.zero_le _⟩) hS (fun H locs hP hD hT hS => ?_)
      have hZ := Option.some.inj h
      have hZ1 := congrArg Prod.fst hZ
      have hZ2 := congrArg Prod.snd hZ
      exact r_iret hx hb hr hlocks hP hK hD hT hG hS hZ1 hZ2 dX11_gone_38
set_option maxHeartbeats 4000000 in
set_option maxRecDepth 100000 in
theorem c_X11_dig {l : Launch} {D : va_G} {ad : Nat → Nat} {cy : Nat → ClassId} {A : Nat → Prop} {g : CG} {q : SE} (M : MM) (a0 : Nat) (k0 : ok g a0 11 0) {Z : (Int32 × MM)} (h : f_X11_dig M a0 = some Z) : Met l yX11_dig wsX11_dig ({ frames := 4, cells := 0, slots := 0, locals := 93 }) (va_Pc [.ref (ad a0)] (Wd D ad cy A g q M)) (va_Qi (fun r u => r = Z.1 ∧ u = Z.2) (Wd D ad cy A g q) A) 0 0 A := by
  refine Met.ofW (cc := cX11_dig) (maxL := 3) (ret := (some .int)) (by decide) rfl ?_
  intro p e s m args below meth c s₁ B hml hv
  obtain ⟨rfl, hP, hK, hD, hT, hG⟩ := hv
  have hx := B.exec
  have hb := B.bytes
  have hr := B.returns
  have hts := atoms_spec (ws := wsX11_dig) B.pre
  have hown : s.vm.findClass RX11 = some m.cls := findClass_of_methodNamed B.named
  have hlocks := B.notSynchronized
  have in11 : ∀ w ∈ u_ws RX11 TX11 8, w ∈ wsX11_dig := fun w h => List.mem_cons_of_mem _ (List.mem_append_left _ (List.mem_append_left _ (List.mem_append_left _ (List.mem_append_right _ h))))
  have hS : va_S A s.heap s.heap [] := va_S.rf
  have hl := lv_entry ([.ref (ad a0)]) (n := 3) (Nat.le_of_ble_eq_true rfl)
  rw [lg_entry_eq]
  generalize (lg_sl ([.ref (ad a0)]) ++ List.replicate (3 - (lg_sl ([.ref (ad a0)])).length) Slot.unset).toArray = ls at hl ⊢
  have hl : lv_has ls 3 [(0, .ref (ad a0))] := hl
  unfold f_X11_dig at h
  refine lv_aload_n hx hb dX11_dig_0 rfl (lv_at hl 0 rfl) ?_
  obtain ⟨z1, h1, h⟩ := ob_some h
  refine k_i (va_runV (As := []) (rest := []) ⟨hx, hb, hml, hown, hts⟩ (c_X11_landTrouble (l := l) M a0 k0 h1) (cwV 0 hts gX11_dig_X11_landTrouble rfl rfl rfl hdV_X11_landTrouble ⟨Nat.le_of_ble_eq_true rfl, Nat.le_of_ble_eq_true rfl⟩) (pV (T := TX11) hP hK hD hT hG hS k0 (by decide) rfl) rfl rfl hl.1 rfl (lv_room (Nat.le_of_ble_eq_true rfl)) dX11_dig_1 ⟨Nat.zero_le _, Nat.zero_le _⟩) hS (fun H locs hP hD hT hS => ?_)
  refine lv_istore_n (lv' := [(1, .int z1), (0, .ref (ad a0))]) hx hb dX11_dig_4 rfl hl (by decide) rfl (fun ls hl => ?_)
  refine lv_iload_n hx hb dX11_dig_5 rfl (lv_at hl 0 rfl) ?_
  refine lv_if_eq (tgt := 15) hx hb dX11_dig_6 rfl (fun c2 => ?_) (fun c2 => ?_)
  · replace h := ite_t c2 h
    refine lv_aload_n hx hb dX11_dig_15 rfl (lv_at hl 1 rfl) ?_
    rcases hN3 : gR M a0 2 with _ | b3
    · exact absurd (oc_n hN3 h) (by simp)
    replace h := oc_s hN3 h
    have kb3 := hT.f k0 (k := 2) (t := 4) (n := 0) rfl hN3
    refine r_get (T := TX11) (v := .ref (ad b3)) hx hb hts in11 hown hK hP k0 (by decide) rfl 2 (by decide) (hts (.fieldLink RX11 28 "StoneWalk" "sights" "LStoneWalk$Sights;") (List.mem_of_getElem? (i := 1) (by decide +kernel))) rfl (t := 2) rfl (by show va_rf _ = _; rw [hN3]; rfl) dX11_dig_16 ?_
    refine lv_aload_n hx hb dX11_dig_19 rfl (lv_at hl 1 rfl) ?_
    rcases hN4 : gR M a0 5 with _ | b4
    · exact absurd (oc_n hN4 h) (by simp)
    replace h := oc_s hN4 h
    have kb4 := hT.f k0 (k := 5) (t := 0) (n := 0) rfl hN4
    refine r_get (T := TX11) (v := .ref (ad b4)) hx hb hts in11 hown hK hP k0 (by decide) rfl 5 (by decide) (hts (.fieldLink RX11 45 "StoneWalk" "island" "LStoneWalk$Island;") (List.mem_of_getElem? (i := 2) (by decide +kernel))) rfl (t := 2) rfl (by show va_rf _ = _; rw [hN4]; rfl) dX11_dig_20 ?_
    obtain ⟨z5, h5, h⟩ := ob_some h
    refine k_i (va_runV (As := [.ref (ad b4)]) (rest := []) ⟨hx, hb, hml, hown, hts⟩ (c_X4_agreeing (l := l) M b3 b4 kb3 kb4 h5) (cwV 1 hts gX11_dig_X4_agreeing rfl rfl rfl hdV_X4_agreeing ⟨Nat.le_of_ble_eq_true rfl, Nat.le_of_ble_eq_true rfl⟩) (pV (T := TX4) hP hK hD hT hG hS kb3 (by decide) rfl) rfl rfl hl.1 rfl (lv_room (Nat.le_of_ble_eq_true rfl)) dX11_dig_23 ⟨Nat.zero_le _, Nat.zero_le _⟩) hS (fun H locs hP hD hT hS => ?_)
    refine lv_istore_n (lv' := [(2, .int z5), (1, .int z1), (0, .ref (ad a0))]) hx hb dX11_dig_26 rfl hl (by decide) rfl (fun ls hl => ?_)
    refine lv_iload_n hx hb dX11_dig_27 rfl (lv_at hl 0 rfl) ?_
    refine lv_if_ne (tgt := 40) hx hb dX11_dig_28 rfl (fun c6 => ?_) (fun c6 => ?_)
    · replace h := ite_f c6 h
      refine lv_aload_n hx hb dX11_dig_40 rfl (lv_at hl 2 rfl) ?_
      refine lv_aload_n hx hb dX11_dig_41 rfl (lv_at hl 2 rfl) ?_
      rcases hN7 : gR M a0 5 with _ | b7
      · exact absurd (oc_n hN7 h) (by simp)
      replace h := oc_s hN7 h
      have kb7 := hT.f k0 (k := 5) (t := 0) (n := 0) rfl hN7
      refine r_get (T := TX11) (v := .ref (ad b7)) hx hb hts in11 hown hK hP k0 (by decide) rfl 5 (by decide) (hts (.fieldLink RX11 45 "StoneWalk" "island" "LStoneWalk$Island;") (List.mem_of_getElem? (i := 2) (by decide +kernel))) rfl (t := 2) rfl (by show va_rf _ = _; rw [hN7]; rfl) dX11_dig_42 ?_
      refine lv_iload_n hx hb dX11_dig_45 rfl (lv_at hl 0 rfl) ?_
      obtain ⟨z8, h8, h⟩ := ob_some h
      refine k_i (va_runV (As := [.int z5]) (rest := [.ref (ad a0)]) ⟨hx, hb, hml, hown, hts⟩ (c_X0_yearOfDispute (l := l) M b7 z5 kb7 h8) (cwV 1 hts gX11_dig_X0_yearOfDispute rfl rfl rfl hdV_X0_yearOfDispute ⟨Nat.le_of_ble_eq_true rfl, Nat.le_of_ble_eq_true rfl⟩) (pV (T := TX0) hP hK hD hT hG hS kb7 (by decide) rfl) rfl rfl hl.1 rfl (lv_room (Nat.le_of_ble_eq_true rfl)) dX11_dig_46 ⟨Nat.zero_le _, Nat.zero_le _⟩) hS (fun H locs hP hD hT hS => ?_)
      obtain ⟨z9, h9, h⟩ := ob_some h
      refine k_i (va_runV (As := [.int z8]) (rest := []) ⟨hx, hb, hml, hown, hts⟩ (c_X11_granted (l := l) M a0 z8 k0 h9) (cwV 1 hts gX11_dig_X11_granted rfl rfl rfl hdV_X11_granted ⟨Nat.le_of_ble_eq_true rfl, Nat.le_of_ble_eq_true rfl⟩) (pV (T := TX11) hP hK hD hT hG hS k0 (by decide) rfl) rfl rfl hl.1 rfl (lv_room (Nat.le_of_ble_eq_true rfl)) dX11_dig_49 ⟨Nat.zero_le _, Nat.zero_le _⟩) hS (fun H locs hP hD hT hS => ?_)
      have hZ := Option.some.inj h
      have hZ1 := congrArg Prod.fst hZ
      have hZ2 := congrArg Prod.snd hZ
      exact r_iret hx hb hr hlocks hP hK hD hT hG hS hZ1 hZ2 dX11_dig_52
    · replace h := ite_t c6 h
      refine lv_aload_n hx hb dX11_dig_31 rfl (lv_at hl 2 rfl) ?_
      refine lv_bipush (v := 6) hx hb dX11_dig_32 rfl ?_
      obtain ⟨z10, h10, h⟩ := ob_some h
      refine k_i (va_runV (As := [.int 6]) (rest := []) ⟨hx, hb, hml, hown, hts⟩ (c_X11_refused (l := l) M a0 6 k0 h10) (cwV 1 hts gX11_dig_X11_refused rfl rfl rfl hdV_X11_refused ⟨Nat.le_of_ble_eq_true rfl, Nat.le_of_ble_eq_true rfl⟩) (pV (T := TX11) hP hK hD hT hG hS k0 (by decide) rfl) rfl rfl hl.1 rfl (lv_room (Nat.le_of_ble_eq_true rfl)) dX11_dig_34 ⟨Nat.zero_le _, Nat.zero_le _⟩) hS (fun H locs hP hD hT hS => ?_)
      refine lv_goto (tgt := 52) hx hb dX11_dig_37 rfl ?_
      have hZ := Option.some.inj h
      have hZ1 := congrArg Prod.fst hZ
      have hZ2 := congrArg Prod.snd hZ
      exact r_iret hx hb hr hlocks hP hK hD hT hG hS hZ1 hZ2 dX11_dig_52
  · replace h := ite_f c2 h
    refine lv_aload_n hx hb dX11_dig_9 rfl (lv_at hl 1 rfl) ?_
    refine lv_iload_n hx hb dX11_dig_10 rfl (lv_at hl 0 rfl) ?_
    obtain ⟨z11, h11, h⟩ := ob_some h
    refine k_i (va_runV (As := [.int z1]) (rest := []) ⟨hx, hb, hml, hown, hts⟩ (c_X11_refused (l := l) M a0 z1 k0 h11) (cwV 1 hts gX11_dig_X11_refused rfl rfl rfl hdV_X11_refused ⟨Nat.le_of_ble_eq_true rfl, Nat.le_of_ble_eq_true rfl⟩) (pV (T := TX11) hP hK hD hT hG hS k0 (by decide) rfl) rfl rfl hl.1 rfl (lv_room (Nat.le_of_ble_eq_true rfl)) dX11_dig_11 ⟨Nat.zero_le _, Nat.zero_le _⟩) hS (fun H locs hP hD hT hS => ?_)
    have hZ := Option.some.inj h
    have hZ1 := congrArg Prod.fst hZ
    have hZ2 := congrArg Prod.snd hZ
    exact r_iret hx hb hr hlocks hP hK hD hT hG hS hZ1 hZ2 dX11_dig_14
set_option maxHeartbeats 4000000 in
set_option maxRecDepth 100000 in
theorem c_X11_lived {l : Launch} {D : va_G} {ad : Nat → Nat} {cy : Nat → ClassId} {A : Nat → Prop} {g : CG} {q : SE} (M : MM) (a0 : Nat) (x1 : Int32) (k0 : ok g a0 11 0) {Z : (Int32 × MM)} (h : f_X11_lived M a0 x1 = some Z) : Met l yX11_lived wsX11_lived ({ frames := 3, cells := 0, slots := 0, locals := 64 }) (va_Pc [.ref (ad a0), .int x1] (Wd D ad cy A g q M)) (va_Qi (fun r u => r = Z.1 ∧ u = Z.2) (Wd D ad cy A g q) A) 0 0 A := by
  refine Met.ofW (cc := cX11_lived) (maxL := 2) (ret := (some .int)) (by decide) rfl ?_
  intro p e s m args below meth c s₁ B hml hv
  obtain ⟨rfl, hP, hK, hD, hT, hG⟩ := hv
  have hx := B.exec
  have hb := B.bytes
  have hr := B.returns
  have hts := atoms_spec (ws := wsX11_lived) B.pre
  have hown : s.vm.findClass RX11 = some m.cls := findClass_of_methodNamed B.named
  have hlocks := B.notSynchronized
  have in11 : ∀ w ∈ u_ws RX11 TX11 8, w ∈ wsX11_lived := fun w h => List.mem_cons_of_mem _ (List.mem_append_left _ (List.mem_append_right _ h))
  have hS : va_S A s.heap s.heap [] := va_S.rf
  have hl := lv_entry ([.ref (ad a0), .int x1]) (n := 2) (Nat.le_of_ble_eq_true rfl)
  rw [lg_entry_eq]
  generalize (lg_sl ([.ref (ad a0), .int x1]) ++ List.replicate (2 - (lg_sl ([.ref (ad a0), .int x1])).length) Slot.unset).toArray = ls at hl ⊢
  have hl : lv_has ls 2 [(0, .ref (ad a0)), (1, .int x1)] := hl
  unfold f_X11_lived at h
  refine lv_aload_n hx hb dX11_lived_0 rfl (lv_at hl 0 rfl) ?_
  rcases hN1 : gR M a0 5 with _ | b1
  · exact absurd (oc_n hN1 h) (by simp)
  replace h := oc_s hN1 h
  have kb1 := hT.f k0 (k := 5) (t := 0) (n := 0) rfl hN1
  refine r_get (T := TX11) (v := .ref (ad b1)) hx hb hts in11 hown hK hP k0 (by decide) rfl 5 (by decide) (hts (.fieldLink RX11 45 "StoneWalk" "island" "LStoneWalk$Island;") (List.mem_of_getElem? (i := 1) (by decide +kernel))) rfl (t := 2) rfl (by show va_rf _ = _; rw [hN1]; rfl) dX11_lived_1 ?_
  obtain ⟨z2, h2, h⟩ := ob_some h
  refine k_z (va_runV (As := []) (rest := []) ⟨hx, hb, hml, hown, hts⟩ (c_X0_isBare (l := l) M b1 kb1 h2) (cwV 0 hts gX11_lived_X0_isBare rfl rfl rfl hdV_X0_isBare ⟨Nat.le_of_ble_eq_true rfl, Nat.le_of_ble_eq_true rfl⟩) (pV (T := TX0) hP hK hD hT hG hS kb1 (by decide) rfl) rfl rfl hl.1 rfl (lv_room (Nat.le_of_ble_eq_true rfl)) dX11_lived_4 ⟨Nat.zero_le _, Nat.zero_le _⟩) hS (fun H locs hz2 hP hD hT hS => ?_)
  refine lv_if_eq (tgt := 16) hx hb dX11_lived_7 rfl (fun c3 => ?_) (fun c3 => ?_)
  · replace h := ite_t c3 h
    refine lv_aload_n hx hb dX11_lived_16 rfl (lv_at hl 0 rfl) ?_
    rcases hN4 : gR M a0 5 with _ | b4
    · exact absurd (oc_n hN4 h) (by simp)
    replace h := oc_s hN4 h
    have kb4 := hT.f k0 (k := 5) (t := 0) (n := 0) rfl hN4
    refine r_get (T := TX11) (v := .ref (ad b4)) hx hb hts in11 hown hK hP k0 (by decide) rfl 5 (by decide) (hts (.fieldLink RX11 45 "StoneWalk" "island" "LStoneWalk$Island;") (List.mem_of_getElem? (i := 1) (by decide +kernel))) rfl (t := 2) rfl (by show va_rf _ = _; rw [hN4]; rfl) dX11_lived_17 ?_
    refine lv_bipush (v := 8) hx hb dX11_lived_20 rfl ?_
    refine lv_iconst (v := 0) hx hb dX11_lived_22 rfl ?_
    obtain ⟨z5, h5, h⟩ := ob_some h
    refine k_z (va_runV (As := [.int 8, .int 0]) (rest := []) ⟨hx, hb, hml, hown, hts⟩ (c_X0_has (l := l) M b4 8 0 kb4 h5) (cwV 2 hts gX11_lived_X0_has rfl rfl rfl hdV_X0_has ⟨Nat.le_of_ble_eq_true rfl, Nat.le_of_ble_eq_true rfl⟩) (pV (T := TX0) hP hK hD hT hG hS kb4 (by decide) rfl) rfl rfl hl.1 rfl (lv_room (Nat.le_of_ble_eq_true rfl)) dX11_lived_23 ⟨Nat.zero_le _, Nat.zero_le _⟩) hS (fun H locs hz5 hP hD hT hS => ?_)
    refine lv_if_eq (tgt := 42) hx hb dX11_lived_26 rfl (fun c6 => ?_) (fun c6 => ?_)
    · replace h := ite_t c6 h
      refine lv_aload_n hx hb dX11_lived_42 rfl (lv_at hl 0 rfl) ?_
      refine lv_bipush (v := 6) hx hb dX11_lived_43 rfl ?_
      obtain ⟨z7, h7, h⟩ := ob_some h
      refine k_i (va_runV (As := [.int 6]) (rest := []) ⟨hx, hb, hml, hown, hts⟩ (c_X11_refused (l := l) M a0 6 k0 h7) (cwV 1 hts gX11_lived_X11_refused rfl rfl rfl hdV_X11_refused ⟨Nat.le_of_ble_eq_true rfl, Nat.le_of_ble_eq_true rfl⟩) (pV (T := TX11) hP hK hD hT hG hS k0 (by decide) rfl) rfl rfl hl.1 rfl (lv_room (Nat.le_of_ble_eq_true rfl)) dX11_lived_45 ⟨Nat.zero_le _, Nat.zero_le _⟩) hS (fun H locs hP hD hT hS => ?_)
      have hZ := Option.some.inj h
      have hZ1 := congrArg Prod.fst hZ
      have hZ2 := congrArg Prod.snd hZ
      exact r_iret hx hb hr hlocks hP hK hD hT hG hS hZ1 hZ2 dX11_lived_48
    · replace h := ite_f c6 h
      refine lv_aload_n hx hb dX11_lived_29 rfl (lv_at hl 0 rfl) ?_
      rcases hN8 : gR M a0 5 with _ | b8
      · exact absurd (oc_n hN8 h) (by simp)
      replace h := oc_s hN8 h
      have kb8 := hT.f k0 (k := 5) (t := 0) (n := 0) rfl hN8
      refine r_get (T := TX11) (v := .ref (ad b8)) hx hb hts in11 hown hK hP k0 (by decide) rfl 5 (by decide) (hts (.fieldLink RX11 45 "StoneWalk" "island" "LStoneWalk$Island;") (List.mem_of_getElem? (i := 1) (by decide +kernel))) rfl (t := 2) rfl (by show va_rf _ = _; rw [hN8]; rfl) dX11_lived_30 ?_
      refine lv_bipush (v := 9) hx hb dX11_lived_33 rfl ?_
      refine lv_iconst (v := 0) hx hb dX11_lived_35 rfl ?_
      obtain ⟨z9, h9, h⟩ := ob_some h
      refine k_z (va_runV (As := [.int 9, .int 0]) (rest := []) ⟨hx, hb, hml, hown, hts⟩ (c_X0_has (l := l) M b8 9 0 kb8 h9) (cwV 2 hts gX11_lived_X0_has rfl rfl rfl hdV_X0_has ⟨Nat.le_of_ble_eq_true rfl, Nat.le_of_ble_eq_true rfl⟩) (pV (T := TX0) hP hK hD hT hG hS kb8 (by decide) rfl) rfl rfl hl.1 rfl (lv_room (Nat.le_of_ble_eq_true rfl)) dX11_lived_36 ⟨Nat.zero_le _, Nat.zero_le _⟩) hS (fun H locs hz9 hP hD hT hS => ?_)
      refine lv_if_ne (tgt := 49) hx hb dX11_lived_39 rfl (fun c10 => ?_) (fun c10 => ?_)
      · replace h := ite_f c10 h
        refine lv_aload_n hx hb dX11_lived_49 rfl (lv_at hl 0 rfl) ?_
        refine lv_aload_n hx hb dX11_lived_50 rfl (lv_at hl 0 rfl) ?_
        rcases hN11 : gR M a0 5 with _ | b11
        · exact absurd (oc_n hN11 h) (by simp)
        replace h := oc_s hN11 h
        have kb11 := hT.f k0 (k := 5) (t := 0) (n := 0) rfl hN11
        refine r_get (T := TX11) (v := .ref (ad b11)) hx hb hts in11 hown hK hP k0 (by decide) rfl 5 (by decide) (hts (.fieldLink RX11 45 "StoneWalk" "island" "LStoneWalk$Island;") (List.mem_of_getElem? (i := 1) (by decide +kernel))) rfl (t := 2) rfl (by show va_rf _ = _; rw [hN11]; rfl) dX11_lived_51 ?_
        refine lv_iload_n hx hb dX11_lived_54 rfl (lv_at hl 1 rfl) ?_
        obtain ⟨z12, h12, h⟩ := ob_some h
        refine k_i (va_runV (As := [.int x1]) (rest := [.ref (ad a0)]) ⟨hx, hb, hml, hown, hts⟩ (c_X0_inhabitants (l := l) M b11 x1 kb11 h12) (cwV 1 hts gX11_lived_X0_inhabitants rfl rfl rfl hdV_X0_inhabitants ⟨Nat.le_of_ble_eq_true rfl, Nat.le_of_ble_eq_true rfl⟩) (pV (T := TX0) hP hK hD hT hG hS kb11 (by decide) rfl) rfl rfl hl.1 rfl (lv_room (Nat.le_of_ble_eq_true rfl)) dX11_lived_55 ⟨Nat.zero_le _, Nat.zero_le _⟩) hS (fun H locs hP hD hT hS => ?_)
        obtain ⟨z13, h13, h⟩ := ob_some h
        refine k_i (va_runV (As := [.int z12]) (rest := []) ⟨hx, hb, hml, hown, hts⟩ (c_X11_granted (l := l) M a0 z12 k0 h13) (cwV 1 hts gX11_lived_X11_granted rfl rfl rfl hdV_X11_granted ⟨Nat.le_of_ble_eq_true rfl, Nat.le_of_ble_eq_true rfl⟩) (pV (T := TX11) hP hK hD hT hG hS k0 (by decide) rfl) rfl rfl hl.1 rfl (lv_room (Nat.le_of_ble_eq_true rfl)) dX11_lived_58 ⟨Nat.zero_le _, Nat.zero_le _⟩) hS (fun H locs hP hD hT hS => ?_)
        have hZ := Option.some.inj h
        have hZ1 := congrArg Prod.fst hZ
        have hZ2 := congrArg Prod.snd hZ
        exact r_iret hx hb hr hlocks hP hK hD hT hG hS hZ1 hZ2 dX11_lived_61
      · replace h := ite_t c10 h
        refine lv_aload_n hx hb dX11_lived_42 rfl (lv_at hl 0 rfl) ?_
        refine lv_bipush (v := 6) hx hb dX11_lived_43 rfl ?_
        obtain ⟨z14, h14, h⟩ := ob_some h
        refine k_i (va_runV (As := [.int 6]) (rest := []) ⟨hx, hb, hml, hown, hts⟩ (c_X11_refused (l := l) M a0 6 k0 h14) (cwV 1 hts gX11_lived_X11_refused rfl rfl rfl hdV_X11_refused ⟨Nat.le_of_ble_eq_true rfl, Nat.le_of_ble_eq_true rfl⟩) (pV (T := TX11) hP hK hD hT hG hS k0 (by decide) rfl) rfl rfl hl.1 rfl (lv_room (Nat.le_of_ble_eq_true rfl)) dX11_lived_45 ⟨Nat.zero_le _, Nat.zero_le _⟩) hS (fun H locs hP hD hT hS => ?_)
        have hZ := Option.some.inj h
        have hZ1 := congrArg Prod.fst hZ
        have hZ2 := congrArg Prod.snd hZ
        exact r_iret hx hb hr hlocks hP hK hD hT hG hS hZ1 hZ2 dX11_lived_48
  · replace h := ite_f c3 h
    refine lv_aload_n hx hb dX11_lived_10 rfl (lv_at hl 0 rfl) ?_
    refine lv_iconst (v := 1) hx hb dX11_lived_11 rfl ?_
    obtain ⟨z15, h15, h⟩ := ob_some h
    refine k_i (va_runV (As := [.int 1]) (rest := []) ⟨hx, hb, hml, hown, hts⟩ (c_X11_refused (l := l) M a0 1 k0 h15) (cwV 1 hts gX11_lived_X11_refused rfl rfl rfl hdV_X11_refused ⟨Nat.le_of_ble_eq_true rfl, Nat.le_of_ble_eq_true rfl⟩) (pV (T := TX11) hP hK hD hT hG hS k0 (by decide) rfl) rfl rfl hl.1 rfl (lv_room (Nat.le_of_ble_eq_true rfl)) dX11_lived_12 ⟨Nat.zero_le _, Nat.zero_le _⟩) hS (fun H locs hP hD hT hS => ?_)
    have hZ := Option.some.inj h
    have hZ1 := congrArg Prod.fst hZ
    have hZ2 := congrArg Prod.snd hZ
    exact r_iret hx hb hr hlocks hP hK hD hT hG hS hZ1 hZ2 dX11_lived_15
set_option maxHeartbeats 4000000 in
set_option maxRecDepth 100000 in
theorem c_X11_size {l : Launch} {D : va_G} {ad : Nat → Nat} {cy : Nat → ClassId} {A : Nat → Prop} {g : CG} {q : SE} (M : MM) (a0 : Nat) (x1 : Int32) (k0 : ok g a0 11 0) {Z : Int32} (h : f_X11_size M a0 x1 = some Z) : Met l yX11_size wsX11_size ({ frames := 2, cells := 0, slots := 0, locals := 42 }) (va_Pc [.ref (ad a0), .int x1] (Wd D ad cy A g q M)) (va_Qi (fun r u => r = Z ∧ u = M) (Wd D ad cy A g q) A) 0 0 A := by
  refine Met.ofW (cc := cX11_size) (maxL := 2) (ret := (some .int)) (by decide) rfl ?_
  intro p e s m args below meth c s₁ B hml hv
  obtain ⟨rfl, hP, hK, hD, hT, hG⟩ := hv
  have hx := B.exec
  have hb := B.bytes
  have hr := B.returns
  have hts := atoms_spec (ws := wsX11_size) B.pre
  have hown : s.vm.findClass RX11 = some m.cls := findClass_of_methodNamed B.named
  have hlocks := B.notSynchronized
  have in0 : ∀ w ∈ u_ws RX0 TX0 17, w ∈ wsX11_size := fun w h => List.mem_cons_of_mem _ (List.mem_append_right _ h)
  have in1 : ∀ w ∈ u_ws RX1 TX1 11, w ∈ wsX11_size := fun w h => List.mem_cons_of_mem _ (List.mem_append_left _ (List.mem_append_left _ (List.mem_append_right _ h)))
  have in4 : ∀ w ∈ u_ws RX4 TX4 4, w ∈ wsX11_size := fun w h => List.mem_cons_of_mem _ (List.mem_append_left _ (List.mem_append_left _ (List.mem_append_left _ (List.mem_append_right _ h))))
  have in7 : ∀ w ∈ u_ws RX7 TX7 7, w ∈ wsX11_size := fun w h => List.mem_cons_of_mem _ (List.mem_append_left _ (List.mem_append_right _ h))
  have in11 : ∀ w ∈ u_ws RX11 TX11 8, w ∈ wsX11_size := fun w h => List.mem_cons_of_mem _ (List.mem_append_left _ (List.mem_append_left _ (List.mem_append_left _ (List.mem_append_left _ (List.mem_append_right _ h)))))
  have hS : va_S A s.heap s.heap [] := va_S.rf
  have hl := lv_entry ([.ref (ad a0), .int x1]) (n := 2) (Nat.le_of_ble_eq_true rfl)
  rw [lg_entry_eq]
  generalize (lg_sl ([.ref (ad a0), .int x1]) ++ List.replicate (2 - (lg_sl ([.ref (ad a0), .int x1])).length) Slot.unset).toArray = ls at hl ⊢
  have hl : lv_has ls 2 [(0, .ref (ad a0)), (1, .int x1)] := hl
  unfold f_X11_size at h
  refine lv_iload_n hx hb dX11_size_0 rfl (lv_at hl 1 rfl) ?_
  by_cases c1_0 : x1 = 0
  · replace h := ite_t c1_0 h
    refine lv_tableIn (tgt := 60) (off := 59) hx hb dX11_size_1 (by rw [c1_0]; decide) (by rw [c1_0]; decide) (by rw [c1_0]; decide) rfl ?_
    refine lv_aload_n hx hb dX11_size_60 rfl (lv_at hl 0 rfl) ?_
    rcases hN2 : gR M a0 5 with _ | b2
    · exact absurd (oc_n hN2 h) (by simp)
    replace h := oc_s hN2 h
    have kb2 := hT.f k0 (k := 5) (t := 0) (n := 0) rfl hN2
    refine r_get (T := TX11) (v := .ref (ad b2)) hx hb hts in11 hown hK hP k0 (by decide) rfl 5 (by decide) (hts (.fieldLink RX11 45 "StoneWalk" "island" "LStoneWalk$Island;") (List.mem_of_getElem? (i := 1) (by decide +kernel))) rfl (t := 2) rfl (by show va_rf _ = _; rw [hN2]; rfl) dX11_size_61 ?_
    refine lv_iload_n hx hb dX11_size_64 rfl (lv_at hl 1 rfl) ?_
    obtain ⟨z3, h3, h⟩ := ob_some h
    refine k_i (va_runV (As := [.int x1]) (rest := []) ⟨hx, hb, hml, hown, hts⟩ (c_X0_count (l := l) M b2 x1 kb2 h3) (cwV 1 hts gX11_size_X0_count rfl rfl rfl hdV_X0_count ⟨Nat.le_of_ble_eq_true rfl, Nat.le_of_ble_eq_true rfl⟩) (pV (T := TX0) hP hK hD hT hG hS kb2 (by decide) rfl) rfl rfl hl.1 rfl (lv_room (Nat.le_of_ble_eq_true rfl)) dX11_size_65 ⟨Nat.zero_le _, Nat.zero_le _⟩) hS (fun H locs hP hD hT hS => ?_)
    exact r_iret hx hb hr hlocks hP hK hD hT hG hS (Option.some.inj h) rfl dX11_size_68
  · replace h := ite_f c1_0 h
    by_cases c1_1 : x1 = 1
    · replace h := ite_t c1_1 h
      refine lv_tableIn (tgt := 60) (off := 59) hx hb dX11_size_1 (by rw [c1_1]; decide) (by rw [c1_1]; decide) (by rw [c1_1]; decide) rfl ?_
      refine lv_aload_n hx hb dX11_size_60 rfl (lv_at hl 0 rfl) ?_
      rcases hN4 : gR M a0 5 with _ | b4
      · exact absurd (oc_n hN4 h) (by simp)
      replace h := oc_s hN4 h
      have kb4 := hT.f k0 (k := 5) (t := 0) (n := 0) rfl hN4
      refine r_get (T := TX11) (v := .ref (ad b4)) hx hb hts in11 hown hK hP k0 (by decide) rfl 5 (by decide) (hts (.fieldLink RX11 45 "StoneWalk" "island" "LStoneWalk$Island;") (List.mem_of_getElem? (i := 1) (by decide +kernel))) rfl (t := 2) rfl (by show va_rf _ = _; rw [hN4]; rfl) dX11_size_61 ?_
      refine lv_iload_n hx hb dX11_size_64 rfl (lv_at hl 1 rfl) ?_
      obtain ⟨z5, h5, h⟩ := ob_some h
      refine k_i (va_runV (As := [.int x1]) (rest := []) ⟨hx, hb, hml, hown, hts⟩ (c_X0_count (l := l) M b4 x1 kb4 h5) (cwV 1 hts gX11_size_X0_count rfl rfl rfl hdV_X0_count ⟨Nat.le_of_ble_eq_true rfl, Nat.le_of_ble_eq_true rfl⟩) (pV (T := TX0) hP hK hD hT hG hS kb4 (by decide) rfl) rfl rfl hl.1 rfl (lv_room (Nat.le_of_ble_eq_true rfl)) dX11_size_65 ⟨Nat.zero_le _, Nat.zero_le _⟩) hS (fun H locs hP hD hT hS => ?_)
      exact r_iret hx hb hr hlocks hP hK hD hT hG hS (Option.some.inj h) rfl dX11_size_68
    · replace h := ite_f c1_1 h
      by_cases c1_2 : x1 = 2
      · replace h := ite_t c1_2 h
        refine lv_tableIn (tgt := 60) (off := 59) hx hb dX11_size_1 (by rw [c1_2]; decide) (by rw [c1_2]; decide) (by rw [c1_2]; decide) rfl ?_
        refine lv_aload_n hx hb dX11_size_60 rfl (lv_at hl 0 rfl) ?_
        rcases hN6 : gR M a0 5 with _ | b6
        · exact absurd (oc_n hN6 h) (by simp)
        replace h := oc_s hN6 h
        have kb6 := hT.f k0 (k := 5) (t := 0) (n := 0) rfl hN6
        refine r_get (T := TX11) (v := .ref (ad b6)) hx hb hts in11 hown hK hP k0 (by decide) rfl 5 (by decide) (hts (.fieldLink RX11 45 "StoneWalk" "island" "LStoneWalk$Island;") (List.mem_of_getElem? (i := 1) (by decide +kernel))) rfl (t := 2) rfl (by show va_rf _ = _; rw [hN6]; rfl) dX11_size_61 ?_
        refine lv_iload_n hx hb dX11_size_64 rfl (lv_at hl 1 rfl) ?_
        obtain ⟨z7, h7, h⟩ := ob_some h
        refine k_i (va_runV (As := [.int x1]) (rest := []) ⟨hx, hb, hml, hown, hts⟩ (c_X0_count (l := l) M b6 x1 kb6 h7) (cwV 1 hts gX11_size_X0_count rfl rfl rfl hdV_X0_count ⟨Nat.le_of_ble_eq_true rfl, Nat.le_of_ble_eq_true rfl⟩) (pV (T := TX0) hP hK hD hT hG hS kb6 (by decide) rfl) rfl rfl hl.1 rfl (lv_room (Nat.le_of_ble_eq_true rfl)) dX11_size_65 ⟨Nat.zero_le _, Nat.zero_le _⟩) hS (fun H locs hP hD hT hS => ?_)
        exact r_iret hx hb hr hlocks hP hK hD hT hG hS (Option.some.inj h) rfl dX11_size_68
      · replace h := ite_f c1_2 h
        by_cases c1_3 : x1 = 3
        · replace h := ite_t c1_3 h
          refine lv_tableIn (tgt := 60) (off := 59) hx hb dX11_size_1 (by rw [c1_3]; decide) (by rw [c1_3]; decide) (by rw [c1_3]; decide) rfl ?_
          refine lv_aload_n hx hb dX11_size_60 rfl (lv_at hl 0 rfl) ?_
          rcases hN8 : gR M a0 5 with _ | b8
          · exact absurd (oc_n hN8 h) (by simp)
          replace h := oc_s hN8 h
          have kb8 := hT.f k0 (k := 5) (t := 0) (n := 0) rfl hN8
          refine r_get (T := TX11) (v := .ref (ad b8)) hx hb hts in11 hown hK hP k0 (by decide) rfl 5 (by decide) (hts (.fieldLink RX11 45 "StoneWalk" "island" "LStoneWalk$Island;") (List.mem_of_getElem? (i := 1) (by decide +kernel))) rfl (t := 2) rfl (by show va_rf _ = _; rw [hN8]; rfl) dX11_size_61 ?_
          refine lv_iload_n hx hb dX11_size_64 rfl (lv_at hl 1 rfl) ?_
          obtain ⟨z9, h9, h⟩ := ob_some h
          refine k_i (va_runV (As := [.int x1]) (rest := []) ⟨hx, hb, hml, hown, hts⟩ (c_X0_count (l := l) M b8 x1 kb8 h9) (cwV 1 hts gX11_size_X0_count rfl rfl rfl hdV_X0_count ⟨Nat.le_of_ble_eq_true rfl, Nat.le_of_ble_eq_true rfl⟩) (pV (T := TX0) hP hK hD hT hG hS kb8 (by decide) rfl) rfl rfl hl.1 rfl (lv_room (Nat.le_of_ble_eq_true rfl)) dX11_size_65 ⟨Nat.zero_le _, Nat.zero_le _⟩) hS (fun H locs hP hD hT hS => ?_)
          exact r_iret hx hb hr hlocks hP hK hD hT hG hS (Option.some.inj h) rfl dX11_size_68
        · replace h := ite_f c1_3 h
          by_cases c1_4 : x1 = 4
          · replace h := ite_t c1_4 h
            refine lv_tableIn (tgt := 60) (off := 59) hx hb dX11_size_1 (by rw [c1_4]; decide) (by rw [c1_4]; decide) (by rw [c1_4]; decide) rfl ?_
            refine lv_aload_n hx hb dX11_size_60 rfl (lv_at hl 0 rfl) ?_
            rcases hN10 : gR M a0 5 with _ | b10
            · exact absurd (oc_n hN10 h) (by simp)
            replace h := oc_s hN10 h
            have kb10 := hT.f k0 (k := 5) (t := 0) (n := 0) rfl hN10
            refine r_get (T := TX11) (v := .ref (ad b10)) hx hb hts in11 hown hK hP k0 (by decide) rfl 5 (by decide) (hts (.fieldLink RX11 45 "StoneWalk" "island" "LStoneWalk$Island;") (List.mem_of_getElem? (i := 1) (by decide +kernel))) rfl (t := 2) rfl (by show va_rf _ = _; rw [hN10]; rfl) dX11_size_61 ?_
            refine lv_iload_n hx hb dX11_size_64 rfl (lv_at hl 1 rfl) ?_
            obtain ⟨z11, h11, h⟩ := ob_some h
            refine k_i (va_runV (As := [.int x1]) (rest := []) ⟨hx, hb, hml, hown, hts⟩ (c_X0_count (l := l) M b10 x1 kb10 h11) (cwV 1 hts gX11_size_X0_count rfl rfl rfl hdV_X0_count ⟨Nat.le_of_ble_eq_true rfl, Nat.le_of_ble_eq_true rfl⟩) (pV (T := TX0) hP hK hD hT hG hS kb10 (by decide) rfl) rfl rfl hl.1 rfl (lv_room (Nat.le_of_ble_eq_true rfl)) dX11_size_65 ⟨Nat.zero_le _, Nat.zero_le _⟩) hS (fun H locs hP hD hT hS => ?_)
            exact r_iret hx hb hr hlocks hP hK hD hT hG hS (Option.some.inj h) rfl dX11_size_68
          · replace h := ite_f c1_4 h
            by_cases c1_5 : x1 = 5
            · replace h := ite_t c1_5 h
              refine lv_tableIn (tgt := 60) (off := 59) hx hb dX11_size_1 (by rw [c1_5]; decide) (by rw [c1_5]; decide) (by rw [c1_5]; decide) rfl ?_
              refine lv_aload_n hx hb dX11_size_60 rfl (lv_at hl 0 rfl) ?_
              rcases hN12 : gR M a0 5 with _ | b12
              · exact absurd (oc_n hN12 h) (by simp)
              replace h := oc_s hN12 h
              have kb12 := hT.f k0 (k := 5) (t := 0) (n := 0) rfl hN12
              refine r_get (T := TX11) (v := .ref (ad b12)) hx hb hts in11 hown hK hP k0 (by decide) rfl 5 (by decide) (hts (.fieldLink RX11 45 "StoneWalk" "island" "LStoneWalk$Island;") (List.mem_of_getElem? (i := 1) (by decide +kernel))) rfl (t := 2) rfl (by show va_rf _ = _; rw [hN12]; rfl) dX11_size_61 ?_
              refine lv_iload_n hx hb dX11_size_64 rfl (lv_at hl 1 rfl) ?_
              obtain ⟨z13, h13, h⟩ := ob_some h
              refine k_i (va_runV (As := [.int x1]) (rest := []) ⟨hx, hb, hml, hown, hts⟩ (c_X0_count (l := l) M b12 x1 kb12 h13) (cwV 1 hts gX11_size_X0_count rfl rfl rfl hdV_X0_count ⟨Nat.le_of_ble_eq_true rfl, Nat.le_of_ble_eq_true rfl⟩) (pV (T := TX0) hP hK hD hT hG hS kb12 (by decide) rfl) rfl rfl hl.1 rfl (lv_room (Nat.le_of_ble_eq_true rfl)) dX11_size_65 ⟨Nat.zero_le _, Nat.zero_le _⟩) hS (fun H locs hP hD hT hS => ?_)
              exact r_iret hx hb hr hlocks hP hK hD hT hG hS (Option.some.inj h) rfl dX11_size_68
            · replace h := ite_f c1_5 h
              by_cases c1_6 : x1 = 6
              · replace h := ite_t c1_6 h
                refine lv_tableIn (tgt := 60) (off := 59) hx hb dX11_size_1 (by rw [c1_6]; decide) (by rw [c1_6]; decide) (by rw [c1_6]; decide) rfl ?_
                refine lv_aload_n hx hb dX11_size_60 rfl (lv_at hl 0 rfl) ?_
                rcases hN14 : gR M a0 5 with _ | b14
                · exact absurd (oc_n hN14 h) (by simp)
                replace h := oc_s hN14 h
                have kb14 := hT.f k0 (k := 5) (t := 0) (n := 0) rfl hN14
                refine r_get (T := TX11) (v := .ref (ad b14)) hx hb hts in11 hown hK hP k0 (by decide) rfl 5 (by decide) (hts (.fieldLink RX11 45 "StoneWalk" "island" "LStoneWalk$Island;") (List.mem_of_getElem? (i := 1) (by decide +kernel))) rfl (t := 2) rfl (by show va_rf _ = _; rw [hN14]; rfl) dX11_size_61 ?_
                refine lv_iload_n hx hb dX11_size_64 rfl (lv_at hl 1 rfl) ?_
                obtain ⟨z15, h15, h⟩ := ob_some h
                refine k_i (va_runV (As := [.int x1]) (rest := []) ⟨hx, hb, hml, hown, hts⟩ (c_X0_count (l := l) M b14 x1 kb14 h15) (cwV 1 hts gX11_size_X0_count rfl rfl rfl hdV_X0_count ⟨Nat.le_of_ble_eq_true rfl, Nat.le_of_ble_eq_true rfl⟩) (pV (T := TX0) hP hK hD hT hG hS kb14 (by decide) rfl) rfl rfl hl.1 rfl (lv_room (Nat.le_of_ble_eq_true rfl)) dX11_size_65 ⟨Nat.zero_le _, Nat.zero_le _⟩) hS (fun H locs hP hD hT hS => ?_)
                exact r_iret hx hb hr hlocks hP hK hD hT hG hS (Option.some.inj h) rfl dX11_size_68
              · replace h := ite_f c1_6 h
                by_cases c1_7 : x1 = 7
                · replace h := ite_t c1_7 h
                  refine lv_tableIn (tgt := 69) (off := 68) hx hb dX11_size_1 (by rw [c1_7]; decide) (by rw [c1_7]; decide) (by rw [c1_7]; decide) rfl ?_
                  refine lv_aload_n hx hb dX11_size_69 rfl (lv_at hl 0 rfl) ?_
                  rcases hN16 : gR M a0 2 with _ | b16
                  · exact absurd (oc_n hN16 h) (by simp)
                  replace h := oc_s hN16 h
                  have kb16 := hT.f k0 (k := 2) (t := 4) (n := 0) rfl hN16
                  refine r_get (T := TX11) (v := .ref (ad b16)) hx hb hts in11 hown hK hP k0 (by decide) rfl 2 (by decide) (hts (.fieldLink RX11 28 "StoneWalk" "sights" "LStoneWalk$Sights;") (List.mem_of_getElem? (i := 2) (by decide +kernel))) rfl (t := 2) rfl (by show va_rf _ = _; rw [hN16]; rfl) dX11_size_70 ?_
                  refine r_get (T := TX4) (v := .int (gI M b16 3)) hx hb hts in4 hown hK hP kb16 (by decide) rfl 3 (by decide) (hts (.fieldLink RX11 308 "StoneWalk$Sights" "held" "I") (List.mem_of_getElem? (i := 3) (by decide +kernel))) rfl (t := 0) rfl rfl dX11_size_73 ?_
                  exact r_iret hx hb hr hlocks hP hK hD hT hG hS (Option.some.inj h) rfl dX11_size_76
                · replace h := ite_f c1_7 h
                  by_cases c1_8 : x1 = 8
                  · replace h := ite_t c1_8 h
                    refine lv_tableIn (tgt := 77) (off := 76) hx hb dX11_size_1 (by rw [c1_8]; decide) (by rw [c1_8]; decide) (by rw [c1_8]; decide) rfl ?_
                    refine lv_aload_n hx hb dX11_size_77 rfl (lv_at hl 0 rfl) ?_
                    rcases hN17 : gR M a0 3 with _ | b17
                    · exact absurd (oc_n hN17 h) (by simp)
                    replace h := oc_s hN17 h
                    have kb17 := hT.f k0 (k := 3) (t := 1) (n := 0) rfl hN17
                    refine r_get (T := TX11) (v := .ref (ad b17)) hx hb hts in11 hown hK hP k0 (by decide) rfl 3 (by decide) (hts (.fieldLink RX11 35 "StoneWalk" "journey" "LStoneWalk$Journey;") (List.mem_of_getElem? (i := 4) (by decide +kernel))) rfl (t := 2) rfl (by show va_rf _ = _; rw [hN17]; rfl) dX11_size_78 ?_
                    refine r_get (T := TX1) (v := .int (gI M b17 0)) hx hb hts in1 hown hK hP kb17 (by decide) rfl 0 (by decide) (hts (.fieldLink RX11 168 "StoneWalk$Journey" "seed" "I") (List.mem_of_getElem? (i := 5) (by decide +kernel))) rfl (t := 0) rfl rfl dX11_size_81 ?_
                    exact r_iret hx hb hr hlocks hP hK hD hT hG hS (Option.some.inj h) rfl dX11_size_84
                  · replace h := ite_f c1_8 h
                    by_cases c1_9 : x1 = 9
                    · replace h := ite_t c1_9 h
                      refine lv_tableIn (tgt := 85) (off := 84) hx hb dX11_size_1 (by rw [c1_9]; decide) (by rw [c1_9]; decide) (by rw [c1_9]; decide) rfl ?_
                      refine lv_aload_n hx hb dX11_size_85 rfl (lv_at hl 0 rfl) ?_
                      rcases hN18 : gR M a0 0 with _ | b18
                      · exact absurd (oc_n hN18 h) (by simp)
                      replace h := oc_s hN18 h
                      have kb18 := hT.f k0 (k := 0) (t := 7) (n := 0) rfl hN18
                      refine r_get (T := TX11) (v := .ref (ad b18)) hx hb hts in11 hown hK hP k0 (by decide) rfl 0 (by decide) (hts (.fieldLink RX11 10 "StoneWalk" "tape" "LStoneWalk$Tape;") (List.mem_of_getElem? (i := 6) (by decide +kernel))) rfl (t := 2) rfl (by show va_rf _ = _; rw [hN18]; rfl) dX11_size_86 ?_
                      refine r_get (T := TX7) (v := .int (gI M b18 1)) hx hb hts in7 hown hK hP kb18 (by decide) rfl 1 (by decide) (hts (.fieldLink RX11 64 "StoneWalk$Tape" "held" "I") (List.mem_of_getElem? (i := 7) (by decide +kernel))) rfl (t := 0) rfl rfl dX11_size_89 ?_
                      exact r_iret hx hb hr hlocks hP hK hD hT hG hS (Option.some.inj h) rfl dX11_size_92
                    · replace h := ite_f c1_9 h
                      by_cases c1_10 : x1 = 10
                      · replace h := ite_t c1_10 h
                        refine lv_tableIn (tgt := 93) (off := 92) hx hb dX11_size_1 (by rw [c1_10]; decide) (by rw [c1_10]; decide) (by rw [c1_10]; decide) rfl ?_
                        refine lv_aload_n hx hb dX11_size_93 rfl (lv_at hl 0 rfl) ?_
                        rcases hN19 : gR M a0 5 with _ | b19
                        · exact absurd (oc_n hN19 h) (by simp)
                        replace h := oc_s hN19 h
                        have kb19 := hT.f k0 (k := 5) (t := 0) (n := 0) rfl hN19
                        refine r_get (T := TX11) (v := .ref (ad b19)) hx hb hts in11 hown hK hP k0 (by decide) rfl 5 (by decide) (hts (.fieldLink RX11 45 "StoneWalk" "island" "LStoneWalk$Island;") (List.mem_of_getElem? (i := 1) (by decide +kernel))) rfl (t := 2) rfl (by show va_rf _ = _; rw [hN19]; rfl) dX11_size_94 ?_
                        refine r_get (T := TX0) (v := .int (gI M b19 8)) hx hb hts in0 hown hK hP kb19 (by decide) rfl 8 (by decide) (hts (.fieldLink RX11 335 "StoneWalk$Island" "lying" "I") (List.mem_of_getElem? (i := 8) (by decide +kernel))) rfl (t := 0) rfl rfl dX11_size_97 ?_
                        exact r_iret hx hb hr hlocks hP hK hD hT hG hS (Option.some.inj h) rfl dX11_size_100
                      · replace h := ite_f c1_10 h
                        refine lv_tableOut (tgt := 101) hx hb dX11_size_1 (by
                            have e0 := lv_neT (a := 0) c1_0 rfl
                            have e1 := lv_neT (a := 1) c1_1 rfl
                            have e2 := lv_neT (a := 2) c1_2 rfl
                            have e3 := lv_neT (a := 3) c1_3 rfl
                            have e4 := lv_neT (a := 4) c1_4 rfl
                            have e5 := lv_neT (a := 5) c1_5 rfl
                            have e6 := lv_neT (a := 6) c1_6 rfl
                            have e7 := lv_neT (a := 7) c1_7 rfl
                            have e8 := lv_neT (a := 8) c1_8 rfl
                            have e9 := lv_neT (a := 9) c1_9 rfl
                            have e10 := lv_neT (a := 10) c1_10 rfl
                            omega) rfl ?_
                        refine lv_iconst (v := (-1)) hx hb dX11_size_101 rfl ?_
                        exact r_iret hx hb hr hlocks hP hK hD hT hG hS (Option.some.inj h) rfl dX11_size_102
set_option maxHeartbeats 4000000 in
set_option maxRecDepth 100000 in
theorem c_X11_statue {l : Launch} {D : va_G} {ad : Nat → Nat} {cy : Nat → ClassId} {A : Nat → Prop} {g : CG} {q : SE} (M : MM) (a0 : Nat) (x1 : Int32) (x2 : Int32) (k0 : ok g a0 11 0) {Z : Int32} (h : f_X11_statue M a0 x1 x2 = some Z) : Met l yX11_statue wsX11_statue ({ frames := 1, cells := 0, slots := 0, locals := 21 }) (va_Pc [.ref (ad a0), .int x1, .int x2] (Wd D ad cy A g q M)) (va_Qi (fun r u => r = Z ∧ u = M) (Wd D ad cy A g q) A) 0 0 A := by
  refine Met.ofW (cc := cX11_statue) (maxL := 4) (ret := (some .int)) (by decide) rfl ?_
  intro p e s m args below meth c s₁ B hml hv
  obtain ⟨rfl, hP, hK, hD, hT, hG⟩ := hv
  have hx := B.exec
  have hb := B.bytes
  have hr := B.returns
  have hts := atoms_spec (ws := wsX11_statue) B.pre
  have hown : s.vm.findClass RX11 = some m.cls := findClass_of_methodNamed B.named
  have hlocks := B.notSynchronized
  have in11 : ∀ w ∈ u_ws RX11 TX11 8, w ∈ wsX11_statue := fun w h => List.mem_cons_of_mem _ (List.mem_append_left _ (List.mem_append_left _ (List.mem_append_right _ h)))
  have hS : va_S A s.heap s.heap [] := va_S.rf
  have hl := lv_entry ([.ref (ad a0), .int x1, .int x2]) (n := 4) (Nat.le_of_ble_eq_true rfl)
  rw [lg_entry_eq]
  generalize (lg_sl ([.ref (ad a0), .int x1, .int x2]) ++ List.replicate (4 - (lg_sl ([.ref (ad a0), .int x1, .int x2])).length) Slot.unset).toArray = ls at hl ⊢
  have hl : lv_has ls 4 [(0, .ref (ad a0)), (1, .int x1), (2, .int x2)] := hl
  unfold f_X11_statue at h
  refine lv_aload_n hx hb dX11_statue_0 rfl (lv_at hl 0 rfl) ?_
  rcases hN1 : gR M a0 5 with _ | b1
  · exact absurd (oc_n hN1 h) (by simp)
  replace h := oc_s hN1 h
  have kb1 := hT.f k0 (k := 5) (t := 0) (n := 0) rfl hN1
  refine r_get (T := TX11) (v := .ref (ad b1)) hx hb hts in11 hown hK hP k0 (by decide) rfl 5 (by decide) (hts (.fieldLink RX11 45 "StoneWalk" "island" "LStoneWalk$Island;") (List.mem_of_getElem? (i := 1) (by decide +kernel))) rfl (t := 2) rfl (by show va_rf _ = _; rw [hN1]; rfl) dX11_statue_1 ?_
  refine lv_iload_n hx hb dX11_statue_4 rfl (lv_at hl 1 rfl) ?_
  obtain ⟨z2, h2, h⟩ := ob_some h
  refine k_q (va_runV (As := [.int x1]) (rest := []) ⟨hx, hb, hml, hown, hts⟩ (c_X0_statueAt (l := l) M b1 x1 kb1 h2) (cwV 1 hts gX11_statue_X0_statueAt rfl rfl rfl hdV_X0_statueAt ⟨Nat.le_of_ble_eq_true rfl, Nat.le_of_ble_eq_true rfl⟩) (pV (T := TX0) hP hK hD hT hG hS kb1 (by decide) rfl) rfl rfl hl.1 rfl (lv_room (Nat.le_of_ble_eq_true rfl)) dX11_statue_5 ⟨Nat.zero_le _, Nat.zero_le _⟩) hS (fun H locs hq2 hP hD hT hS => ?_)
  rcases hN2 : z2 with _ | b2
  · replace h := oc_n hN2 h
    show W _ _ _ _ _ _ _ _ _ _ _ _ _ _ _ (F0 _ _ _ (.null :: []))
    refine lv_astore_nN (lv' := [(3, .null), (0, .ref (ad a0)), (1, .int x1), (2, .int x2)]) hx hb dX11_statue_8 rfl hl (by decide) rfl (fun ls hl => ?_)
    refine lv_aload_nN hx hb dX11_statue_9 rfl (lv_at hl 0 rfl) ?_
    refine lv_ifnonnullN hx hb dX11_statue_10 ?_
    refine lv_iconst (v := (-1)) hx hb dX11_statue_13 rfl ?_
    refine lv_goto (tgt := 22) hx hb dX11_statue_14 rfl ?_
    exact r_iret hx hb hr hlocks hP hK hD hT hG hS (Option.some.inj h) rfl dX11_statue_22
  · replace h := oc_s hN2 h
    have kb2 := hq2 _ hN2
    show W _ _ _ _ _ _ _ _ _ _ _ _ _ _ _ (F0 _ _ _ (.ref (ad b2) :: []))
    refine lv_astore_n (lv' := [(3, .ref (ad b2)), (0, .ref (ad a0)), (1, .int x1), (2, .int x2)]) hx hb dX11_statue_8 rfl hl (by decide) rfl (fun ls hl => ?_)
    refine lv_aload_n hx hb dX11_statue_9 rfl (lv_at hl 0 rfl) ?_
    refine lv_ifnonnull (tgt := 17) hx hb dX11_statue_10 rfl ?_
    refine lv_aload_n hx hb dX11_statue_17 rfl (lv_at hl 0 rfl) ?_
    refine lv_iload_n hx hb dX11_statue_18 rfl (lv_at hl 3 rfl) ?_
    obtain ⟨z3, h3, h⟩ := ob_some h
    refine k_i (va_runV (As := [.int x2]) (rest := []) ⟨hx, hb, hml, hown, hts⟩ (c_X5_report (l := l) M b2 x2 kb2 h3) (cwV 1 hts gX11_statue_X5_report rfl rfl rfl hdV_X5_report ⟨Nat.le_of_ble_eq_true rfl, Nat.le_of_ble_eq_true rfl⟩) (pV (T := TX5) hP hK hD hT hG hS kb2 (by decide) rfl) rfl rfl hl.1 rfl (lv_room (Nat.le_of_ble_eq_true rfl)) dX11_statue_19 ⟨Nat.zero_le _, Nat.zero_le _⟩) hS (fun H locs hP hD hT hS => ?_)
    exact r_iret hx hb hr hlocks hP hK hD hT hG hS (Option.some.inj h) rfl dX11_statue_22
set_option maxHeartbeats 4000000 in
set_option maxRecDepth 100000 in
theorem c_X11_trouble {l : Launch} {D : va_G} {ad : Nat → Nat} {cy : Nat → ClassId} {A : Nat → Prop} {g : CG} {q : SE} (M : MM) (a0 : Nat) (k0 : ok g a0 11 0) {Z : Int32} (h : f_X11_trouble M a0 = some Z) : Met l yX11_trouble wsX11_trouble ({ frames := 0, cells := 0, slots := 0, locals := 0 }) (va_Pc [.ref (ad a0)] (Wd D ad cy A g q M)) (va_Qi (fun r u => r = Z ∧ u = M) (Wd D ad cy A g q) A) 0 0 A := by
  refine Met.ofW (cc := cX11_trouble) (maxL := 1) (ret := (some .int)) (by decide) rfl ?_
  intro p e s m args below meth c s₁ B hml hv
  obtain ⟨rfl, hP, hK, hD, hT, hG⟩ := hv
  have hx := B.exec
  have hb := B.bytes
  have hr := B.returns
  have hts := atoms_spec (ws := wsX11_trouble) B.pre
  have hown : s.vm.findClass RX11 = some m.cls := findClass_of_methodNamed B.named
  have hlocks := B.notSynchronized
  have in11 : ∀ w ∈ u_ws RX11 TX11 8, w ∈ wsX11_trouble := fun w h => List.mem_cons_of_mem _ (List.mem_append_right _ h)
  have hS : va_S A s.heap s.heap [] := va_S.rf
  have hl := lv_entry ([.ref (ad a0)]) (n := 1) (Nat.le_of_ble_eq_true rfl)
  rw [lg_entry_eq]
  generalize (lg_sl ([.ref (ad a0)]) ++ List.replicate (1 - (lg_sl ([.ref (ad a0)])).length) Slot.unset).toArray = ls at hl ⊢
  have hl : lv_has ls 1 [(0, .ref (ad a0))] := hl
  unfold f_X11_trouble at h
  refine lv_aload_n hx hb dX11_trouble_0 rfl (lv_at hl 0 rfl) ?_
  refine r_get (T := TX11) (v := .int (gI M a0 7)) hx hb hts in11 hown hK hP k0 (by decide) rfl 7 (by decide) (hts (.fieldLink RX11 52 "StoneWalk" "trouble" "I") (List.mem_of_getElem? (i := 1) (by decide +kernel))) rfl (t := 0) rfl rfl dX11_trouble_1 ?_
  exact r_iret hx hb hr hlocks hP hK hD hT hG hS (Option.some.inj h) rfl dX11_trouble_4
