theorem hdV_X12_find : yX12_find.cls = RX12 ∧ yX12_find.cls ≠ "java/lang/invoke/MethodHandle" ∧ yX12_find.cls ≠ "java/lang/invoke/VarHandle" ∧ (parseMethodDescriptor yX12_find.desc).map (fun d => d.parameters.length) = some 1 := by decide +kernel
theorem hdV_X13_refused : yX13_refused.cls = RX13 ∧ yX13_refused.cls ≠ "java/lang/invoke/MethodHandle" ∧ yX13_refused.cls ≠ "java/lang/invoke/VarHandle" ∧ (parseMethodDescriptor yX13_refused.desc).map (fun d => d.parameters.length) = some 1 := by decide +kernel
theorem hdV_X13_done : yX13_done.cls = RX13 ∧ yX13_done.cls ≠ "java/lang/invoke/MethodHandle" ∧ yX13_done.cls ≠ "java/lang/invoke/VarHandle" ∧ (parseMethodDescriptor yX13_done.desc).map (fun d => d.parameters.length) = some 1 := by decide +kernel
theorem hdS_X13_in : yX13_in.cls ≠ "java/lang/invoke/MethodHandle" ∧ yX13_in.cls ≠ "java/lang/invoke/VarHandle" ∧ (parseMethodDescriptor yX13_in.desc).map (fun d => d.parameters.length) = some 3 := by decide +kernel
theorem hdV_X13_byteAt : yX13_byteAt.cls = RX13 ∧ yX13_byteAt.cls ≠ "java/lang/invoke/MethodHandle" ∧ yX13_byteAt.cls ≠ "java/lang/invoke/VarHandle" ∧ (parseMethodDescriptor yX13_byteAt.desc).map (fun d => d.parameters.length) = some 1 := by decide +kernel
theorem hdS_X13_isLetter : yX13_isLetter.cls ≠ "java/lang/invoke/MethodHandle" ∧ yX13_isLetter.cls ≠ "java/lang/invoke/VarHandle" ∧ (parseMethodDescriptor yX13_isLetter.desc).map (fun d => d.parameters.length) = some 1 := by decide +kernel
theorem hdS_X13_isDigit : yX13_isDigit.cls ≠ "java/lang/invoke/MethodHandle" ∧ yX13_isDigit.cls ≠ "java/lang/invoke/VarHandle" ∧ (parseMethodDescriptor yX13_isDigit.desc).map (fun d => d.parameters.length) = some 1 := by decide +kernel
theorem hdS_X13_wordOf : yX13_wordOf.cls ≠ "java/lang/invoke/MethodHandle" ∧ yX13_wordOf.cls ≠ "java/lang/invoke/VarHandle" ∧ (parseMethodDescriptor yX13_wordOf.desc).map (fun d => d.parameters.length) = some 1 := by decide +kernel
theorem hdV_X13_goesOn : yX13_goesOn.cls = RX13 ∧ yX13_goesOn.cls ≠ "java/lang/invoke/MethodHandle" ∧ yX13_goesOn.cls ≠ "java/lang/invoke/VarHandle" ∧ (parseMethodDescriptor yX13_goesOn.desc).map (fun d => d.parameters.length) = some 0 := by decide +kernel
theorem hdV_X13_wrong : yX13_wrong.cls = RX13 ∧ yX13_wrong.cls ≠ "java/lang/invoke/MethodHandle" ∧ yX13_wrong.cls ≠ "java/lang/invoke/VarHandle" ∧ (parseMethodDescriptor yX13_wrong.desc).map (fun d => d.parameters.length) = some 1 := by decide +kernel
theorem hdV_X13_isWord : yX13_isWord.cls = RX13 ∧ yX13_isWord.cls ≠ "java/lang/invoke/MethodHandle" ∧ yX13_isWord.cls ≠ "java/lang/invoke/VarHandle" ∧ (parseMethodDescriptor yX13_isWord.desc).map (fun d => d.parameters.length) = some 1 := by decide +kernel
theorem hdV_X13_eatsWord : yX13_eatsWord.cls = RX13 ∧ yX13_eatsWord.cls ≠ "java/lang/invoke/MethodHandle" ∧ yX13_eatsWord.cls ≠ "java/lang/invoke/VarHandle" ∧ (parseMethodDescriptor yX13_eatsWord.desc).map (fun d => d.parameters.length) = some 1 := by decide +kernel
theorem hdV_X13_eatsSign : yX13_eatsSign.cls = RX13 ∧ yX13_eatsSign.cls ≠ "java/lang/invoke/MethodHandle" ∧ yX13_eatsSign.cls ≠ "java/lang/invoke/VarHandle" ∧ (parseMethodDescriptor yX13_eatsSign.desc).map (fun d => d.parameters.length) = some 1 := by decide +kernel
theorem hdV_X13_needs : yX13_needs.cls = RX13 ∧ yX13_needs.cls ≠ "java/lang/invoke/MethodHandle" ∧ yX13_needs.cls ≠ "java/lang/invoke/VarHandle" ∧ (parseMethodDescriptor yX13_needs.desc).map (fun d => d.parameters.length) = some 1 := by decide +kernel
theorem hdV_X13_readWhole : yX13_readWhole.cls = RX13 ∧ yX13_readWhole.cls ≠ "java/lang/invoke/MethodHandle" ∧ yX13_readWhole.cls ≠ "java/lang/invoke/VarHandle" ∧ (parseMethodDescriptor yX13_readWhole.desc).map (fun d => d.parameters.length) = some 2 := by decide +kernel
theorem hdV_X13_readPart : yX13_readPart.cls = RX13 ∧ yX13_readPart.cls ≠ "java/lang/invoke/MethodHandle" ∧ yX13_readPart.cls ≠ "java/lang/invoke/VarHandle" ∧ (parseMethodDescriptor yX13_readPart.desc).map (fun d => d.parameters.length) = some 3 := by decide +kernel
theorem hdV_X13_isName : yX13_isName.cls = RX13 ∧ yX13_isName.cls ≠ "java/lang/invoke/MethodHandle" ∧ yX13_isName.cls ≠ "java/lang/invoke/VarHandle" ∧ (parseMethodDescriptor yX13_isName.desc).map (fun d => d.parameters.length) = some 0 := by decide +kernel
theorem hdV_X13_begins : yX13_begins.cls = RX13 ∧ yX13_begins.cls ≠ "java/lang/invoke/MethodHandle" ∧ yX13_begins.cls ≠ "java/lang/invoke/VarHandle" ∧ (parseMethodDescriptor yX13_begins.desc).map (fun d => d.parameters.length) = some 2 := by decide +kernel
theorem hdV_X13_readFresh : yX13_readFresh.cls = RX13 ∧ yX13_readFresh.cls ≠ "java/lang/invoke/MethodHandle" ∧ yX13_readFresh.cls ≠ "java/lang/invoke/VarHandle" ∧ (parseMethodDescriptor yX13_readFresh.desc).map (fun d => d.parameters.length) = some 2 := by decide +kernel
theorem hdV_X13_known : yX13_known.cls = RX13 ∧ yX13_known.cls ≠ "java/lang/invoke/MethodHandle" ∧ yX13_known.cls ≠ "java/lang/invoke/VarHandle" ∧ (parseMethodDescriptor yX13_known.desc).map (fun d => d.parameters.length) = some 1 := by decide +kernel
theorem hdV_X13_readKnown : yX13_readKnown.cls = RX13 ∧ yX13_readKnown.cls ≠ "java/lang/invoke/MethodHandle" ∧ yX13_readKnown.cls ≠ "java/lang/invoke/VarHandle" ∧ (parseMethodDescriptor yX13_readKnown.desc).map (fun d => d.parameters.length) = some 1 := by decide +kernel
theorem hdV_X13_isSlope : yX13_isSlope.cls = RX13 ∧ yX13_isSlope.cls ≠ "java/lang/invoke/MethodHandle" ∧ yX13_isSlope.cls ≠ "java/lang/invoke/VarHandle" ∧ (parseMethodDescriptor yX13_isSlope.desc).map (fun d => d.parameters.length) = some 0 := by decide +kernel
theorem hdV_X13_readSlope : yX13_readSlope.cls = RX13 ∧ yX13_readSlope.cls ≠ "java/lang/invoke/MethodHandle" ∧ yX13_readSlope.cls ≠ "java/lang/invoke/VarHandle" ∧ (parseMethodDescriptor yX13_readSlope.desc).map (fun d => d.parameters.length) = some 0 := by decide +kernel
theorem hdV_X13_readWay : yX13_readWay.cls = RX13 ∧ yX13_readWay.cls ≠ "java/lang/invoke/MethodHandle" ∧ yX13_readWay.cls ≠ "java/lang/invoke/VarHandle" ∧ (parseMethodDescriptor yX13_readWay.desc).map (fun d => d.parameters.length) = some 0 := by decide +kernel
theorem hdV_X13_readRoad : yX13_readRoad.cls = RX13 ∧ yX13_readRoad.cls ≠ "java/lang/invoke/MethodHandle" ∧ yX13_readRoad.cls ≠ "java/lang/invoke/VarHandle" ∧ (parseMethodDescriptor yX13_readRoad.desc).map (fun d => d.parameters.length) = some 0 := by decide +kernel
theorem hdV_X13_readStatue : yX13_readStatue.cls = RX13 ∧ yX13_readStatue.cls ≠ "java/lang/invoke/MethodHandle" ∧ yX13_readStatue.cls ≠ "java/lang/invoke/VarHandle" ∧ (parseMethodDescriptor yX13_readStatue.desc).map (fun d => d.parameters.length) = some 0 := by decide +kernel
theorem hdV_X13_readTrial : yX13_readTrial.cls = RX13 ∧ yX13_readTrial.cls ≠ "java/lang/invoke/MethodHandle" ∧ yX13_readTrial.cls ≠ "java/lang/invoke/VarHandle" ∧ (parseMethodDescriptor yX13_readTrial.desc).map (fun d => d.parameters.length) = some 0 := by decide +kernel
theorem hdV_X13_readLand : yX13_readLand.cls = RX13 ∧ yX13_readLand.cls ≠ "java/lang/invoke/MethodHandle" ∧ yX13_readLand.cls ≠ "java/lang/invoke/VarHandle" ∧ (parseMethodDescriptor yX13_readLand.desc).map (fun d => d.parameters.length) = some 0 := by decide +kernel
theorem hdV_X13_readFields : yX13_readFields.cls = RX13 ∧ yX13_readFields.cls ≠ "java/lang/invoke/MethodHandle" ∧ yX13_readFields.cls ≠ "java/lang/invoke/VarHandle" ∧ (parseMethodDescriptor yX13_readFields.desc).map (fun d => d.parameters.length) = some 0 := by decide +kernel
theorem hdV_X13_readHouses : yX13_readHouses.cls = RX13 ∧ yX13_readHouses.cls ≠ "java/lang/invoke/MethodHandle" ∧ yX13_readHouses.cls ≠ "java/lang/invoke/VarHandle" ∧ (parseMethodDescriptor yX13_readHouses.desc).map (fun d => d.parameters.length) = some 0 := by decide +kernel
theorem hdV_X13_readStory : yX13_readStory.cls = RX13 ∧ yX13_readStory.cls ≠ "java/lang/invoke/MethodHandle" ∧ yX13_readStory.cls ≠ "java/lang/invoke/VarHandle" ∧ (parseMethodDescriptor yX13_readStory.desc).map (fun d => d.parameters.length) = some 0 := by decide +kernel
theorem hdV_X13_readTeller : yX13_readTeller.cls = RX13 ∧ yX13_readTeller.cls ≠ "java/lang/invoke/MethodHandle" ∧ yX13_readTeller.cls ≠ "java/lang/invoke/VarHandle" ∧ (parseMethodDescriptor yX13_readTeller.desc).map (fun d => d.parameters.length) = some 0 := by decide +kernel
theorem hdV_X13_readTry : yX13_readTry.cls = RX13 ∧ yX13_readTry.cls ≠ "java/lang/invoke/MethodHandle" ∧ yX13_readTry.cls ≠ "java/lang/invoke/VarHandle" ∧ (parseMethodDescriptor yX13_readTry.desc).map (fun d => d.parameters.length) = some 0 := by decide +kernel
theorem hdV_X13_readLine : yX13_readLine.cls = RX13 ∧ yX13_readLine.cls ≠ "java/lang/invoke/MethodHandle" ∧ yX13_readLine.cls ≠ "java/lang/invoke/VarHandle" ∧ (parseMethodDescriptor yX13_readLine.desc).map (fun d => d.parameters.length) = some 0 := by decide +kernel
theorem hdV_X13_readIsland : yX13_readIsland.cls = RX13 ∧ yX13_readIsland.cls ≠ "java/lang/invoke/MethodHandle" ∧ yX13_readIsland.cls ≠ "java/lang/invoke/VarHandle" ∧ (parseMethodDescriptor yX13_readIsland.desc).map (fun d => d.parameters.length) = some 0 := by decide +kernel
set_option maxHeartbeats 4000000 in
set_option maxRecDepth 100000 in
theorem c_X12_find {l : Launch} {D : va_G} {ad : Nat → Nat} {cy : Nat → ClassId} {A : Nat → Prop} {g : CG} {q : SE} (M : MM) (a0 : Nat) (x1 : Int64) (k0 : ok g a0 12 0) {Z : Int32} (h : f_X12_find M a0 x1 = some Z) : Met l yX12_find wsX12_find ({ frames := 0, cells := 0, slots := 0, locals := 0 }) (va_Pc [.ref (ad a0), .long x1] (Wd D ad cy A g q M)) (va_Qi (fun r u => r = Z ∧ u = M) (Wd D ad cy A g q) A) 0 0 A := by
  refine Met.ofW (cc := cX12_find) (maxL := 4) (ret := (some .int)) (by decide) rfl ?_
  intro p e s m args below meth c s₁ B hml hv
  obtain ⟨rfl, hP, hK, hD, hT, hG⟩ := hv
  have hx := B.exec
  have hb := B.bytes
  have hr := B.returns
  have hts := atoms_spec (ws := wsX12_find) B.pre
  have hown : s.vm.findClass RX12 = some m.cls := findClass_of_methodNamed B.named
  have hlocks := B.notSynchronized
  have in12 : ∀ w ∈ u_ws RX12 TX12 48, w ∈ wsX12_find := fun w h => List.mem_cons_of_mem _ (List.mem_append_right _ h)
  have hS : va_S A s.heap s.heap [] := va_S.rf
  have hl := lv_entry ([.ref (ad a0), .long x1]) (n := 4) (Nat.le_of_ble_eq_true rfl)
  rw [lg_entry_eq]
  generalize (lg_sl ([.ref (ad a0), .long x1]) ++ List.replicate (4 - (lg_sl ([.ref (ad a0), .long x1])).length) Slot.unset).toArray = ls at hl ⊢
  have hl : lv_has ls 4 [(0, .ref (ad a0)), (1, .long x1)] := hl
  unfold f_X12_find at h
  refine lv_iconst (v := 0) hx hb dX12_find_0 rfl ?_
  refine lv_istore_n (lv' := [(3, .int 0), (0, .ref (ad a0)), (1, .long x1)]) hx hb dX12_find_1 rfl hl (by decide) rfl (fun ls hl => ?_)
  have L1 : ∀ n1 : Nat, ∀ (y1_0 : Nat) (y1_1 : Int64) (y1_3 : Int32) (ky1_0 : ok g y1_0 12 0) (H : Heap) (locs : List Loc), f_X12_find_L2 n1 M y1_0 y1_1 y1_3 = some Z → va_P D vwCl (wd ad cy g M) H → va_D A (wd ad cy g M) → WT g M → va_S A s.heap H locs → ∀ (ls : Array Slot), lv_has ls 4 [(0, .ref (ad y1_0)), (1, .long y1_1), (3, .int y1_3)] → W p l e ((headSpec wsX12_find ({ frames := 0, cells := 0, slots := 0, locals := 0 })).room) s m (([.ref (ad a0), .long x1] : List Value).toArray) below meth c H locs 0 0 (MQ below (va_Qi (fun r u => r = Z ∧ u = M) (Wd D ad cy A g q) A) ([.ref (ad a0), .long x1]).toArray s 0 0 A) (F0 m 2 ls []) := by
    intro n1
    induction n1 with
    | zero => intro y1_0 y1_1 y1_3 ky1_0 H locs h; exact absurd h (by simp [f_X12_find_L2])
    | succ n1 ih1 =>
      intro y1_0 y1_1 y1_3 ky1_0 H locs h hP hD hT hS ls hl
      rw [f_X12_find_L2] at h
      refine lv_iload_n hx hb dX12_find_2 rfl (lv_at hl 2 rfl) ?_
      refine lv_aload_n hx hb dX12_find_3 rfl (lv_at hl 0 rfl) ?_
      refine r_get (T := TX12) (v := .int (gI M y1_0 8)) hx hb hts in12 hown hK hP ky1_0 (by decide) rfl 8 (by decide) (hts (.fieldLink RX12 117 "StoneWalkModel$Island" "names" "I") (List.mem_of_getElem? (i := 1) (by decide +kernel))) rfl (t := 0) rfl rfl dX12_find_4 ?_
      refine lv_icmp_ge (tgt := 29) hx hb dX12_find_7 rfl (fun c2 => ?_) (fun c2 => ?_)
      · replace h := ite_t c2 h
        refine lv_iconst (v := (-1)) hx hb dX12_find_29 rfl ?_
        exact r_iret hx hb hr hlocks hP hK hD hT hG hS (Option.some.inj h) rfl dX12_find_30
      · replace h := ite_f c2 h
        refine lv_aload_n hx hb dX12_find_10 rfl (lv_at hl 0 rfl) ?_
        rcases hN3 : gR M y1_0 45 with _ | b3
        · exact absurd (oc_n hN3 h) (by simp)
        replace h := oc_s hN3 h
        have kb3 := hT.f ky1_0 (k := 45) (t := 16) (n := 35) rfl hN3
        refine r_get (T := TX12) (v := .ref (ad b3)) hx hb hts in12 hown hK hP ky1_0 (by decide) rfl 45 (by decide) (hts (.fieldLink RX12 107 "StoneWalkModel$Island" "name" "[J") (List.mem_of_getElem? (i := 2) (by decide +kernel))) rfl (t := 2) rfl (by show va_rf _ = _; rw [hN3]; rfl) dX12_find_11 ?_
        refine lv_iload_n hx hb dX12_find_14 rfl (lv_at hl 2 rfl) ?_
        obtain ⟨hn4, h⟩ := chk_some h
        refine r_lald hx hb hK hP kb3 hn4 dX12_find_15 ?_
        refine lv_lload_n hx hb dX12_find_16 rfl (lv_at hl 1 rfl) ?_
        refine W.lcmp hx hb dX12_find_17 ?_
        refine lv_if_ne (tgt := 23) hx hb dX12_find_18 rfl (fun c5 => ?_) (fun c5 => ?_)
        · replace h := ite_f c5 h
          refine lv_iinc (v := y1_3 + 1) (lv' := [(3, .int (y1_3 + 1)), (0, .ref (ad y1_0)), (1, .long y1_1)]) hx hb dX12_find_23 hl (k := 2) rfl rfl (by decide) rfl (fun ls hl => ?_)
          refine lv_goto (tgt := 2) hx hb dX12_find_26 rfl ?_
          exact ih1 y1_0 y1_1 (y1_3 + 1) ky1_0 _ _ h hP hD hT hS ls (lv_sub hl [1, 2, 0] rfl)
        · replace h := ite_t c5 h
          refine lv_iload_n hx hb dX12_find_21 rfl (lv_at hl 2 rfl) ?_
          exact r_iret hx hb hr hlocks hP hK hD hT hG hS (Option.some.inj h) rfl dX12_find_22
  exact L1 FU a0 x1 0 k0 _ _ h hP hD hT hS ls (lv_sub hl [1, 2, 0] rfl)
set_option maxHeartbeats 4000000 in
set_option maxRecDepth 100000 in
theorem c_X13_refused {l : Launch} {D : va_G} {ad : Nat → Nat} {cy : Nat → ClassId} {A : Nat → Prop} {g : CG} {q : SE} (M : MM) (a0 : Nat) (x1 : Int32) (k0 : ok g a0 13 0) {Z : (Int32 × MM)} (h : f_X13_refused M a0 x1 = some Z) : Met l yX13_refused wsX13_refused ({ frames := 0, cells := 0, slots := 0, locals := 0 }) (va_Pc [.ref (ad a0), .int x1] (Wd D ad cy A g q M)) (va_Qi (fun r u => r = Z.1 ∧ u = Z.2) (Wd D ad cy A g q) A) 0 0 A := by
  refine Met.ofW (cc := cX13_refused) (maxL := 2) (ret := (some .int)) (by decide) rfl ?_
  intro p e s m args below meth c s₁ B hml hv
  obtain ⟨rfl, hP, hK, hD, hT, hG⟩ := hv
  have hx := B.exec
  have hb := B.bytes
  have hr := B.returns
  have hts := atoms_spec (ws := wsX13_refused) B.pre
  have hown : s.vm.findClass RX13 = some m.cls := findClass_of_methodNamed B.named
  have hlocks := B.notSynchronized
  have in13 : ∀ w ∈ u_ws RX13 TX13 29, w ∈ wsX13_refused := fun w h => List.mem_cons_of_mem _ (List.mem_append_right _ h)
  have hS : va_S A s.heap s.heap [] := va_S.rf
  have hl := lv_entry ([.ref (ad a0), .int x1]) (n := 2) (Nat.le_of_ble_eq_true rfl)
  rw [lg_entry_eq]
  generalize (lg_sl ([.ref (ad a0), .int x1]) ++ List.replicate (2 - (lg_sl ([.ref (ad a0), .int x1])).length) Slot.unset).toArray = ls at hl ⊢
  have hl : lv_has ls 2 [(0, .ref (ad a0)), (1, .int x1)] := hl
  unfold f_X13_refused at h
  refine lv_aload_n hx hb dX13_refused_0 rfl (lv_at hl 0 rfl) ?_
  refine lv_iload_n hx hb dX13_refused_1 rfl (lv_at hl 1 rfl) ?_
  refine r_putI (T := TX13) (ty := .int) (v := x1) hx hb hts in13 tyX13 tyX13_ok nmX13 hown hK hP hD hT hS k0 (by decide) rfl 1 (by decide) (hts (.fieldLink RX13 33 "StoneWalkModel" "trouble" "I") (List.mem_of_getElem? (i := 1) (by decide +kernel))) rfl rfl (tyX13_ok 1 (by decide)) rfl rfl rfl dX13_refused_2 (fun H locs hP hD hT hS => ?_)
  refine lv_aload_n hx hb dX13_refused_5 rfl (lv_at hl 0 rfl) ?_
  refine lv_iconst (v := (-1)) hx hb dX13_refused_6 rfl ?_
  refine r_putI (T := TX13) (ty := .int) (v := (-1)) hx hb hts in13 tyX13 tyX13_ok nmX13 hown hK hP hD hT hS k0 (by decide) rfl 2 (by decide) (hts (.fieldLink RX13 9 "StoneWalkModel" "where" "I") (List.mem_of_getElem? (i := 2) (by decide +kernel))) rfl rfl (tyX13_ok 2 (by decide)) rfl rfl rfl dX13_refused_7 (fun H locs hP hD hT hS => ?_)
  refine lv_iconst (v := (-1)) hx hb dX13_refused_10 rfl ?_
  have hZ := Option.some.inj h
  exact r_iret hx hb hr hlocks hP hK hD hT hG hS (congrArg Prod.fst hZ) (congrArg Prod.snd hZ) dX13_refused_11
set_option maxHeartbeats 4000000 in
set_option maxRecDepth 100000 in
theorem c_X13_done {l : Launch} {D : va_G} {ad : Nat → Nat} {cy : Nat → ClassId} {A : Nat → Prop} {g : CG} {q : SE} (M : MM) (a0 : Nat) (x1 : Int32) (k0 : ok g a0 13 0) {Z : (Int32 × MM)} (h : f_X13_done M a0 x1 = some Z) : Met l yX13_done wsX13_done ({ frames := 0, cells := 0, slots := 0, locals := 0 }) (va_Pc [.ref (ad a0), .int x1] (Wd D ad cy A g q M)) (va_Qi (fun r u => r = Z.1 ∧ u = Z.2) (Wd D ad cy A g q) A) 0 0 A := by
  refine Met.ofW (cc := cX13_done) (maxL := 2) (ret := (some .int)) (by decide) rfl ?_
  intro p e s m args below meth c s₁ B hml hv
  obtain ⟨rfl, hP, hK, hD, hT, hG⟩ := hv
  have hx := B.exec
  have hb := B.bytes
  have hr := B.returns
  have hts := atoms_spec (ws := wsX13_done) B.pre
  have hown : s.vm.findClass RX13 = some m.cls := findClass_of_methodNamed B.named
  have hlocks := B.notSynchronized
  have in13 : ∀ w ∈ u_ws RX13 TX13 29, w ∈ wsX13_done := fun w h => List.mem_cons_of_mem _ (List.mem_append_right _ h)
  have hS : va_S A s.heap s.heap [] := va_S.rf
  have hl := lv_entry ([.ref (ad a0), .int x1]) (n := 2) (Nat.le_of_ble_eq_true rfl)
  rw [lg_entry_eq]
  generalize (lg_sl ([.ref (ad a0), .int x1]) ++ List.replicate (2 - (lg_sl ([.ref (ad a0), .int x1])).length) Slot.unset).toArray = ls at hl ⊢
  have hl : lv_has ls 2 [(0, .ref (ad a0)), (1, .int x1)] := hl
  unfold f_X13_done at h
  refine lv_aload_n hx hb dX13_done_0 rfl (lv_at hl 0 rfl) ?_
  refine lv_iconst (v := 0) hx hb dX13_done_1 rfl ?_
  refine r_putI (T := TX13) (ty := .int) (v := 0) hx hb hts in13 tyX13 tyX13_ok nmX13 hown hK hP hD hT hS k0 (by decide) rfl 1 (by decide) (hts (.fieldLink RX13 33 "StoneWalkModel" "trouble" "I") (List.mem_of_getElem? (i := 1) (by decide +kernel))) rfl rfl (tyX13_ok 1 (by decide)) rfl rfl rfl dX13_done_2 (fun H locs hP hD hT hS => ?_)
  refine lv_aload_n hx hb dX13_done_5 rfl (lv_at hl 0 rfl) ?_
  refine lv_iconst (v := (-1)) hx hb dX13_done_6 rfl ?_
  refine r_putI (T := TX13) (ty := .int) (v := (-1)) hx hb hts in13 tyX13 tyX13_ok nmX13 hown hK hP hD hT hS k0 (by decide) rfl 2 (by decide) (hts (.fieldLink RX13 9 "StoneWalkModel" "where" "I") (List.mem_of_getElem? (i := 2) (by decide +kernel))) rfl rfl (tyX13_ok 2 (by decide)) rfl rfl rfl dX13_done_7 (fun H locs hP hD hT hS => ?_)
  refine lv_iload_n hx hb dX13_done_10 rfl (lv_at hl 1 rfl) ?_
  have hZ := Option.some.inj h
  exact r_iret hx hb hr hlocks hP hK hD hT hG hS (congrArg Prod.fst hZ) (congrArg Prod.snd hZ) dX13_done_11
set_option maxHeartbeats 4000000 in
set_option maxRecDepth 100000 in
theorem c_X13_in {l : Launch} {D : va_G} {ad : Nat → Nat} {cy : Nat → ClassId} {A : Nat → Prop} {g : CG} {q : SE} (M : MM) (x0 : Int32) (x1 : Int32) (x2 : Int32) {Z : Int32} (h : f_X13_in M x0 x1 x2 = some Z) : Met l yX13_in wsX13_in ({ frames := 0, cells := 0, slots := 0, locals := 0 }) (va_Pc [.int x0, .int x1, .int x2] (Wd D ad cy A g q M)) (va_Qi (fun r u => r = Z ∧ u = M ∧ zb r) (Wd D ad cy A g q) A) 0 0 A := by
  refine Met.ofW (cc := cX13_in) (maxL := 3) (ret := (some .boolean)) (by decide) rfl ?_
  intro p e s m args below meth c s₁ B hml hv
  obtain ⟨rfl, hP, hK, hD, hT, hG⟩ := hv
  have hx := B.exec
  have hb := B.bytes
  have hr := B.returns
  have hts := atoms_spec (ws := wsX13_in) B.pre
  have hown : s.vm.findClass RX13 = some m.cls := findClass_of_methodNamed B.named
  have hlocks := B.notSynchronized
  have hS : va_S A s.heap s.heap [] := va_S.rf
  have hl := lv_entry ([.int x0, .int x1, .int x2]) (n := 3) (Nat.le_of_ble_eq_true rfl)
  rw [lg_entry_eq]
  generalize (lg_sl ([.int x0, .int x1, .int x2]) ++ List.replicate (3 - (lg_sl ([.int x0, .int x1, .int x2])).length) Slot.unset).toArray = ls at hl ⊢
  have hl : lv_has ls 3 [(0, .int x0), (1, .int x1), (2, .int x2)] := hl
  unfold f_X13_in at h
  refine lv_iload_n hx hb dX13_in_0 rfl (lv_at hl 0 rfl) ?_
  refine lv_iload_n hx hb dX13_in_1 rfl (lv_at hl 1 rfl) ?_
  refine lv_icmp_lt (tgt := 14) hx hb dX13_in_2 rfl (fun c1 => ?_) (fun c1 => ?_)
  · replace h := ite_t c1 h
    refine lv_iconst (v := 0) hx hb dX13_in_14 rfl ?_
    exact r_zret hx hb hr hlocks hP hK hD hT hG hS zb_0 (Option.some.inj h) rfl dX13_in_15
  · replace h := ite_f c1 h
    refine lv_iload_n hx hb dX13_in_5 rfl (lv_at hl 0 rfl) ?_
    refine lv_iload_n hx hb dX13_in_6 rfl (lv_at hl 2 rfl) ?_
    refine lv_icmp_gt (tgt := 14) hx hb dX13_in_7 rfl (fun c2 => ?_) (fun c2 => ?_)
    · replace h := ite_t c2 h
      refine lv_iconst (v := 0) hx hb dX13_in_14 rfl ?_
      exact r_zret hx hb hr hlocks hP hK hD hT hG hS zb_0 (Option.some.inj h) rfl dX13_in_15
    · replace h := ite_f c2 h
      refine lv_iconst (v := 1) hx hb dX13_in_10 rfl ?_
      refine lv_goto (tgt := 15) hx hb dX13_in_11 rfl ?_
      exact r_zret hx hb hr hlocks hP hK hD hT hG hS zb_1 (Option.some.inj h) rfl dX13_in_15
set_option maxHeartbeats 4000000 in
set_option maxRecDepth 100000 in
theorem c_X13_byteAt {l : Launch} {D : va_G} {ad : Nat → Nat} {cy : Nat → ClassId} {A : Nat → Prop} {g : CG} {q : SE} (M : MM) (a0 : Nat) (x1 : Int32) (k0 : ok g a0 13 0) {Z : Int32} (h : f_X13_byteAt M a0 x1 = some Z) : Met l yX13_byteAt wsX13_byteAt ({ frames := 0, cells := 0, slots := 0, locals := 0 }) (va_Pc [.ref (ad a0), .int x1] (Wd D ad cy A g q M)) (va_Qi (fun r u => r = Z ∧ u = M) (Wd D ad cy A g q) A) 0 0 A := by
  refine Met.ofW (cc := cX13_byteAt) (maxL := 2) (ret := (some .int)) (by decide) rfl ?_
  intro p e s m args below meth c s₁ B hml hv
  obtain ⟨rfl, hP, hK, hD, hT, hG⟩ := hv
  have hx := B.exec
  have hb := B.bytes
  have hr := B.returns
  have hts := atoms_spec (ws := wsX13_byteAt) B.pre
  have hown : s.vm.findClass RX13 = some m.cls := findClass_of_methodNamed B.named
  have hlocks := B.notSynchronized
  have in13 : ∀ w ∈ u_ws RX13 TX13 29, w ∈ wsX13_byteAt := fun w h => List.mem_cons_of_mem _ (List.mem_append_right _ h)
  have hS : va_S A s.heap s.heap [] := va_S.rf
  have hl := lv_entry ([.ref (ad a0), .int x1]) (n := 2) (Nat.le_of_ble_eq_true rfl)
  rw [lg_entry_eq]
  generalize (lg_sl ([.ref (ad a0), .int x1]) ++ List.replicate (2 - (lg_sl ([.ref (ad a0), .int x1])).length) Slot.unset).toArray = ls at hl ⊢
  have hl : lv_has ls 2 [(0, .ref (ad a0)), (1, .int x1)] := hl
  unfold f_X13_byteAt at h
  refine lv_iload_n hx hb dX13_byteAt_0 rfl (lv_at hl 1 rfl) ?_
  refine lv_aload_n hx hb dX13_byteAt_1 rfl (lv_at hl 0 rfl) ?_
  refine r_get (T := TX13) (v := .int (gI M a0 7)) hx hb hts in13 hown hK hP k0 (by decide) rfl 7 (by decide) (hts (.fieldLink RX13 43 "StoneWalkModel" "size" "I") (List.mem_of_getElem? (i := 1) (by decide +kernel))) rfl (t := 0) rfl rfl dX13_byteAt_2 ?_
  refine lv_icmp_ge (tgt := 21) hx hb dX13_byteAt_5 rfl (fun c1 => ?_) (fun c1 => ?_)
  · replace h := ite_t c1 h
    refine lv_iconst (v := (-1)) hx hb dX13_byteAt_21 rfl ?_
    exact r_iret hx hb hr hlocks hP hK hD hT hG hS (Option.some.inj h) rfl dX13_byteAt_22
  · replace h := ite_f c1 h
    refine lv_aload_n hx hb dX13_byteAt_8 rfl (lv_at hl 0 rfl) ?_
    rcases hN2 : gR M a0 5 with _ | b2
    · exact absurd (oc_n hN2 h) (by simp)
    replace h := oc_s hN2 h
    have kb2 := hT.f k0 (k := 5) (t := 14) (n := 900) rfl hN2
    refine r_get (T := TX13) (v := .ref (ad b2)) hx hb hts in13 hown hK hP k0 (by decide) rfl 5 (by decide) (hts (.fieldLink RX13 13 "StoneWalkModel" "tape" "[B") (List.mem_of_getElem? (i := 2) (by decide +kernel))) rfl (t := 2) rfl (by show va_rf _ = _; rw [hN2]; rfl) dX13_byteAt_9 ?_
    refine lv_iload_n hx hb dX13_byteAt_12 rfl (lv_at hl 1 rfl) ?_
    obtain ⟨hn3, h⟩ := chk_some h
    refine r_bald hx hb hK hP kb2 hn3 dX13_byteAt_13 ?_
    refine lv_sipush (v := 255) hx hb dX13_byteAt_14 rfl ?_
    refine lv_iand hx hb dX13_byteAt_17 ?_
    refine lv_goto (tgt := 22) hx hb dX13_byteAt_18 rfl ?_
    exact r_iret hx hb hr hlocks hP hK hD hT hG hS (Option.some.inj h) rfl dX13_byteAt_22
set_option maxHeartbeats 4000000 in
set_option maxRecDepth 100000 in
theorem c_X13_isLetter {l : Launch} {D : va_G} {ad : Nat → Nat} {cy : Nat → ClassId} {A : Nat → Prop} {g : CG} {q : SE} (M : MM) (x0 : Int32) {Z : Int32} (h : f_X13_isLetter M x0 = some Z) : Met l yX13_isLetter wsX13_isLetter ({ frames := 0, cells := 0, slots := 0, locals := 0 }) (va_Pc [.int x0] (Wd D ad cy A g q M)) (va_Qi (fun r u => r = Z ∧ u = M ∧ zb r) (Wd D ad cy A g q) A) 0 0 A := by
  refine Met.ofW (cc := cX13_isLetter) (maxL := 1) (ret := (some .boolean)) (by decide) rfl ?_
  intro p e s m args below meth c s₁ B hml hv
  obtain ⟨rfl, hP, hK, hD, hT, hG⟩ := hv
  have hx := B.exec
  have hb := B.bytes
  have hr := B.returns
  have hts := atoms_spec (ws := wsX13_isLetter) B.pre
  have hown : s.vm.findClass RX13 = some m.cls := findClass_of_methodNamed B.named
  have hlocks := B.notSynchronized
  have hS : va_S A s.heap s.heap [] := va_S.rf
  have hl := lv_entry ([.int x0]) (n := 1) (Nat.le_of_ble_eq_true rfl)
  rw [lg_entry_eq]
  generalize (lg_sl ([.int x0]) ++ List.replicate (1 - (lg_sl ([.int x0])).length) Slot.unset).toArray = ls at hl ⊢
  have hl : lv_has ls 1 [(0, .int x0)] := hl
  unfold f_X13_isLetter at h
  refine lv_iload_n hx hb dX13_isLetter_0 rfl (lv_at hl 0 rfl) ?_
  refine lv_bipush (v := 97) hx hb dX13_isLetter_1 rfl ?_
  refine lv_icmp_lt (tgt := 16) hx hb dX13_isLetter_3 rfl (fun c1 => ?_) (fun c1 => ?_)
  · replace h := ite_t c1 h
    refine lv_iconst (v := 0) hx hb dX13_isLetter_16 rfl ?_
    exact r_zret hx hb hr hlocks hP hK hD hT hG hS zb_0 (Option.some.inj h) rfl dX13_isLetter_17
  · replace h := ite_f c1 h
    refine lv_iload_n hx hb dX13_isLetter_6 rfl (lv_at hl 0 rfl) ?_
    refine lv_bipush (v := 122) hx hb dX13_isLetter_7 rfl ?_
    refine lv_icmp_gt (tgt := 16) hx hb dX13_isLetter_9 rfl (fun c2 => ?_) (fun c2 => ?_)
    · replace h := ite_t c2 h
      refine lv_iconst (v := 0) hx hb dX13_isLetter_16 rfl ?_
      exact r_zret hx hb hr hlocks hP hK hD hT hG hS zb_0 (Option.some.inj h) rfl dX13_isLetter_17
    · replace h := ite_f c2 h
      refine lv_iconst (v := 1) hx hb dX13_isLetter_12 rfl ?_
      refine lv_goto (tgt := 17) hx hb dX13_isLetter_13 rfl ?_
      exact r_zret hx hb hr hlocks hP hK hD hT hG hS zb_1 (Option.some.inj h) rfl dX13_isLetter_17
set_option maxHeartbeats 4000000 in
set_option maxRecDepth 100000 in
theorem c_X13_isDigit {l : Launch} {D : va_G} {ad : Nat → Nat} {cy : Nat → ClassId} {A : Nat → Prop} {g : CG} {q : SE} (M : MM) (x0 : Int32) {Z : Int32} (h : f_X13_isDigit M x0 = some Z) : Met l yX13_isDigit wsX13_isDigit ({ frames := 0, cells := 0, slots := 0, locals := 0 }) (va_Pc [.int x0] (Wd D ad cy A g q M)) (va_Qi (fun r u => r = Z ∧ u = M ∧ zb r) (Wd D ad cy A g q) A) 0 0 A := by
  refine Met.ofW (cc := cX13_isDigit) (maxL := 1) (ret := (some .boolean)) (by decide) rfl ?_
  intro p e s m args below meth c s₁ B hml hv
  obtain ⟨rfl, hP, hK, hD, hT, hG⟩ := hv
  have hx := B.exec
  have hb := B.bytes
  have hr := B.returns
  have hts := atoms_spec (ws := wsX13_isDigit) B.pre
  have hown : s.vm.findClass RX13 = some m.cls := findClass_of_methodNamed B.named
  have hlocks := B.notSynchronized
  have hS : va_S A s.heap s.heap [] := va_S.rf
  have hl := lv_entry ([.int x0]) (n := 1) (Nat.le_of_ble_eq_true rfl)
  rw [lg_entry_eq]
  generalize (lg_sl ([.int x0]) ++ List.replicate (1 - (lg_sl ([.int x0])).length) Slot.unset).toArray = ls at hl ⊢
  have hl : lv_has ls 1 [(0, .int x0)] := hl
  unfold f_X13_isDigit at h
  refine lv_iload_n hx hb dX13_isDigit_0 rfl (lv_at hl 0 rfl) ?_
  refine lv_bipush (v := 48) hx hb dX13_isDigit_1 rfl ?_
  refine lv_icmp_lt (tgt := 16) hx hb dX13_isDigit_3 rfl (fun c1 => ?_) (fun c1 => ?_)
  · replace h := ite_t c1 h
    refine lv_iconst (v := 0) hx hb dX13_isDigit_16 rfl ?_
    exact r_zret hx hb hr hlocks hP hK hD hT hG hS zb_0 (Option.some.inj h) rfl dX13_isDigit_17
  · replace h := ite_f c1 h
    refine lv_iload_n hx hb dX13_isDigit_6 rfl (lv_at hl 0 rfl) ?_
    refine lv_bipush (v := 57) hx hb dX13_isDigit_7 rfl ?_
    refine lv_icmp_gt (tgt := 16) hx hb dX13_isDigit_9 rfl (fun c2 => ?_) (fun c2 => ?_)
    · replace h := ite_t c2 h
      refine lv_iconst (v := 0) hx hb dX13_isDigit_16 rfl ?_
      exact r_zret hx hb hr hlocks hP hK hD hT hG hS zb_0 (Option.some.inj h) rfl dX13_isDigit_17
    · replace h := ite_f c2 h
      refine lv_iconst (v := 1) hx hb dX13_isDigit_12 rfl ?_
      refine lv_goto (tgt := 17) hx hb dX13_isDigit_13 rfl ?_
      exact r_zret hx hb hr hlocks hP hK hD hT hG hS zb_1 (Option.some.inj h) rfl dX13_isDigit_17
set_option maxHeartbeats 4000000 in
set_option maxRecDepth 100000 in
theorem c_X13_wordOf {l : Launch} {D : va_G} {ad : Nat → Nat} {cy : Nat → ClassId} {A : Nat → Prop} {g : CG} {q : SE} (M : MM) (i0 : Nat) (k0 : i0 < nS) {Z : Int64} (h : f_X13_wordOf M i0 = some Z) : Met l yX13_wordOf wsX13_wordOf ({ frames := 4, cells := 0, slots := 0, locals := 85 }) (va_Pc [.ref (q.2.1 i0)] (Wd D ad cy A g q M)) (va_Ql (fun r u => r = Z ∧ u = M) (Wd D ad cy A g q) A) 0 0 A := by
  refine Met.ofW (cc := cX13_wordOf) (maxL := 4) (ret := (some .long)) (by decide) rfl ?_
  intro p e s m args below meth c s₁ B hml hv
  obtain ⟨rfl, hP, hK, hD, hT, hG⟩ := hv
  have hx := B.exec
  have hb := B.bytes
  have hr := B.returns
  have hts := atoms_spec (ws := wsX13_wordOf) B.pre
  have hown : s.vm.findClass RX13 = some m.cls := findClass_of_methodNamed B.named
  have hlocks := B.notSynchronized
  have hS : va_S A s.heap s.heap [] := va_S.rf
  have hl := lv_entry ([.ref (q.2.1 i0)]) (n := 4) (Nat.le_of_ble_eq_true rfl)
  rw [lg_entry_eq]
  generalize (lg_sl ([.ref (q.2.1 i0)]) ++ List.replicate (4 - (lg_sl ([.ref (q.2.1 i0)])).length) Slot.unset).toArray = ls at hl ⊢
  have hl : lv_has ls 4 [(0, .ref (q.2.1 i0))] := hl
  unfold f_X13_wordOf at h
  refine lv_lconst (v := 0) hx hb dX13_wordOf_0 rfl ?_
  refine lv_lstore_n (lv' := [(1, .long 0), (0, .ref (q.2.1 i0))]) hx hb dX13_wordOf_1 rfl hl (by decide) rfl (fun ls hl => ?_)
  refine lv_iconst (v := 0) hx hb dX13_wordOf_2 rfl ?_
  refine lv_istore_n (lv' := [(3, .int 0), (1, .long 0), (0, .ref (q.2.1 i0))]) hx hb dX13_wordOf_3 rfl hl (by decide) rfl (fun ls hl => ?_)
  have L1 : ∀ n1 : Nat, ∀ (y1_0 : Nat) (y1_1 : Int64) (y1_3 : Int32) (ky1_0 : y1_0 < nS) (H : Heap) (locs : List Loc), f_X13_wordOf_L4 n1 M y1_0 y1_1 y1_3 = some Z → va_P D vwCl (wd ad cy g M) H → va_D A (wd ad cy g M) → WT g M → va_S A s.heap H locs → ∀ (ls : Array Slot), lv_has ls 4 [(0, .ref (q.2.1 y1_0)), (1, .long y1_1), (3, .int y1_3)] → W p l e ((headSpec wsX13_wordOf ({ frames := 4, cells := 0, slots := 0, locals := 85 })).room) s m (([.ref (q.2.1 i0)] : List Value).toArray) below meth c H locs 0 0 (MQ below (va_Ql (fun r u => r = Z ∧ u = M) (Wd D ad cy A g q) A) ([.ref (q.2.1 i0)]).toArray s 0 0 A) (F0 m 4 ls []) := by
    intro n1
    induction n1 with
    | zero => intro y1_0 y1_1 y1_3 ky1_0 H locs h; exact absurd h (by simp [f_X13_wordOf_L4])
    | succ n1 ih1 =>
      intro y1_0 y1_1 y1_3 ky1_0 H locs h hP hD hT hS ls hl
      rw [f_X13_wordOf_L4] at h
      refine lv_iload_n hx hb dX13_wordOf_4 rfl (lv_at hl 2 rfl) ?_
      refine lv_aload_n hx hb dX13_wordOf_5 rfl (lv_at hl 0 rfl) ?_
      obtain ⟨z2, h2, h⟩ := ob_some h
      refine k_i (va_runV (As := []) (rest := [.int y1_3]) ⟨hx, hb, hml, hown, hts⟩ (c_J0_length_8abf5 (l := l) M y1_0 ky1_0 h2) (cwV 0 hts gX13_wordOf_J0_length_8abf5 rfl rfl rfl hdV_J0_length_8abf5 ⟨Nat.le_of_ble_eq_true rfl, Nat.le_of_ble_eq_true rfl⟩) (pT hP hK hD hT hG hS ky1_0) rfl rfl hl.1 rfl (lv_room (Nat.le_of_ble_eq_true rfl)) dX13_wordOf_6 ⟨Nat.zero_le _, Nat.zero_le _⟩) hS (fun H locs hP hD hT hS => ?_)
      refine lv_icmp_ge (tgt := 36) hx hb dX13_wordOf_9 rfl (fun c3 => ?_) (fun c3 => ?_)
      · replace h := ite_t c3 h
        refine lv_lload_n hx hb dX13_wordOf_36 rfl (lv_at hl 1 rfl) ?_
        exact r_lret hx hb hr hlocks hP hK hD hT hG hS (Option.some.inj h) rfl dX13_wordOf_37
      · replace h := ite_f c3 h
        refine lv_ldc2 hx hb hown (hts (.constantLong RX13 52 (32)) (List.mem_of_getElem? (i := 1) (by decide +kernel))) dX13_wordOf_12 ?_
        refine lv_lload_n hx hb dX13_wordOf_15 rfl (lv_at hl 1 rfl) ?_
        refine lv_lmul hx hb dX13_wordOf_16 ?_
        refine lv_aload_n hx hb dX13_wordOf_17 rfl (lv_at hl 0 rfl) ?_
        refine lv_iload_n hx hb dX13_wordOf_18 rfl (lv_at hl 2 rfl) ?_
        obtain ⟨z4, h4, h⟩ := ob_some h
        refine k_c (va_runV (As := [.int y1_3]) (rest := [.long (32 * y1_1)]) ⟨hx, hb, hml, hown, hts⟩ (c_J0_charAt_5068e (l := l) M y1_0 y1_3 ky1_0 h4) (cwV 1 hts gX13_wordOf_J0_charAt_5068e rfl rfl rfl hdV_J0_charAt_5068e ⟨Nat.le_of_ble_eq_true rfl, Nat.le_of_ble_eq_true rfl⟩) (pT hP hK hD hT hG hS ky1_0) rfl rfl hl.1 rfl (lv_room (Nat.le_of_ble_eq_true rfl)) dX13_wordOf_19 ⟨Nat.zero_le _, Nat.zero_le _⟩) hS (fun H locs hz4 hP hD hT hS => ?_)
        refine lv_bipush (v := 97) hx hb dX13_wordOf_22 rfl ?_
        refine lv_isub hx hb dX13_wordOf_24 ?_
        refine lv_iconst (v := 1) hx hb dX13_wordOf_25 rfl ?_
        refine lv_iadd hx hb dX13_wordOf_26 ?_
        refine lv_i2l hx hb dX13_wordOf_27 rfl ?_
        refine lv_ladd hx hb dX13_wordOf_28 ?_
        refine lv_lstore_n (lv' := [(1, .long ((32 * y1_1) + (((z4 - 97) + 1).toInt64))), (0, .ref (q.2.1 y1_0)), (3, .int y1_3)]) hx hb dX13_wordOf_29 rfl hl (by decide) rfl (fun ls hl => ?_)
        refine lv_iinc (v := y1_3 + 1) (lv' := [(3, .int (y1_3 + 1)), (1, .long ((32 * y1_1) + (((z4 - 97) + 1).toInt64))), (0, .ref (q.2.1 y1_0))]) hx hb dX13_wordOf_30 hl (k := 2) rfl rfl (by decide) rfl (fun ls hl => ?_)
        refine lv_goto (tgt := 4) hx hb dX13_wordOf_33 rfl ?_
        exact ih1 y1_0 ((32 * y1_1) + (((z4 - 97) + 1).toInt64)) (y1_3 + 1) ky1_0 _ _ h hP hD hT hS ls (lv_sub hl [2, 1, 0] rfl)
  exact L1 FU i0 0 0 k0 _ _ h hP hD hT hS ls (lv_sub hl [2, 1, 0] rfl)
set_option maxHeartbeats 4000000 in
set_option maxRecDepth 100000 in
theorem c_X13_goesOn {l : Launch} {D : va_G} {ad : Nat → Nat} {cy : Nat → ClassId} {A : Nat → Prop} {g : CG} {q : SE} (M : MM) (a0 : Nat) (k0 : ok g a0 13 0) {Z : MM} (h : f_X13_goesOn M a0 = some Z) : Met l yX13_goesOn wsX13_goesOn ({ frames := 1, cells := 0, slots := 0, locals := 21 }) (va_Pc [.ref (ad a0)] (Wd D ad cy A g q M)) (va_Qv (fun u => u = Z) (Wd D ad cy A g q) A) 0 0 A := by
  refine Met.ofW (cc := cX13_goesOn) (maxL := 3) (ret := none) (by decide) rfl ?_
  intro p e s m args below meth c s₁ B hml hv
  obtain ⟨rfl, hP, hK, hD, hT, hG⟩ := hv
  have hx := B.exec
  have hb := B.bytes
  have hr := B.returns
  have hts := atoms_spec (ws := wsX13_goesOn) B.pre
  have hown : s.vm.findClass RX13 = some m.cls := findClass_of_methodNamed B.named
  have hlocks := B.notSynchronized
  have in13 : ∀ w ∈ u_ws RX13 TX13 29, w ∈ wsX13_goesOn := fun w h => List.mem_cons_of_mem _ (List.mem_append_right _ h)
  have hS : va_S A s.heap s.heap [] := va_S.rf
  have hl := lv_entry ([.ref (ad a0)]) (n := 3) (Nat.le_of_ble_eq_true rfl)
  rw [lg_entry_eq]
  generalize (lg_sl ([.ref (ad a0)]) ++ List.replicate (3 - (lg_sl ([.ref (ad a0)])).length) Slot.unset).toArray = ls at hl ⊢
  have hl : lv_has ls 3 [(0, .ref (ad a0))] := hl
  unfold f_X13_goesOn at h
  refine lv_aload_n hx hb dX13_goesOn_0 rfl (lv_at hl 0 rfl) ?_
  refine r_get (T := TX13) (v := .int (gI M a0 9)) hx hb hts in13 hown hK hP k0 (by decide) rfl 9 (by decide) (hts (.fieldLink RX13 58 "StoneWalkModel" "sort" "I") (List.mem_of_getElem? (i := 1) (by decide +kernel))) rfl (t := 0) rfl rfl dX13_goesOn_1 ?_
  refine lv_iconst (v := 5) hx hb dX13_goesOn_4 rfl ?_
  refine lv_icmp_ne (tgt := 9) hx hb dX13_goesOn_5 rfl (fun c1 => ?_) (fun c1 => ?_)
  · replace h := ite_f c1 h
    have L2 : ∀ n2 : Nat, ∀ (M2 : MM) (y2_0 : Nat) (ky2_0 : ok g y2_0 13 0) (H : Heap) (locs : List Loc), f_X13_goesOn_L9 n2 M2 y2_0 = some Z → va_P D vwCl (wd ad cy g M2) H → va_D A (wd ad cy g M2) → WT g M2 → va_S A s.heap H locs → ∀ (ls : Array Slot), lv_has ls 3 [(0, .ref (ad y2_0))] → W p l e ((headSpec wsX13_goesOn ({ frames := 1, cells := 0, slots := 0, locals := 21 })).room) s m (([.ref (ad a0)] : List Value).toArray) below meth c H locs 0 0 (MQ below (va_Qv (fun u => u = Z) (Wd D ad cy A g q) A) ([.ref (ad a0)]).toArray s 0 0 A) (F0 m 9 ls []) := by
      intro n2
      induction n2 with
      | zero => intro M2 y2_0 ky2_0 H locs h; exact absurd h (by simp [f_X13_goesOn_L9])
      | succ n2 ih2 =>
        intro M2 y2_0 ky2_0 H locs h hP hD hT hS ls hl
        rw [f_X13_goesOn_L9] at h
        refine lv_aload_n hx hb dX13_goesOn_9 rfl (lv_at hl 0 rfl) ?_
        refine lv_aload_n hx hb dX13_goesOn_10 rfl (lv_at hl 0 rfl) ?_
        refine r_get (T := TX13) (v := .int (gI M2 y2_0 8)) hx hb hts in13 hown hK hP ky2_0 (by decide) rfl 8 (by decide) (hts (.fieldLink RX13 61 "StoneWalkModel" "at" "I") (List.mem_of_getElem? (i := 2) (by decide +kernel))) rfl (t := 0) rfl rfl dX13_goesOn_11 ?_
        obtain ⟨z3, h3, h⟩ := ob_some h
        refine k_i (va_runV (As := [.int (gI M2 y2_0 8)]) (rest := []) ⟨hx, hb, hml, hown, hts⟩ (c_X13_byteAt (l := l) M2 y2_0 (gI M2 y2_0 8) ky2_0 h3) (cwV 1 hts gX13_goesOn_X13_byteAt rfl rfl rfl hdV_X13_byteAt ⟨Nat.le_of_ble_eq_true rfl, Nat.le_of_ble_eq_true rfl⟩) (pV (T := TX13) hP hK hD hT hG hS ky2_0 (by decide) rfl) rfl rfl hl.1 rfl (lv_room (Nat.le_of_ble_eq_true rfl)) dX13_goesOn_14 ⟨Nat.zero_le _, Nat.zero_le _⟩) hS (fun H locs hP hD hT hS => ?_)
        refine lv_bipush (v := 32) hx hb dX13_goesOn_17 rfl ?_
        refine lv_icmp_ne (tgt := 35) hx hb dX13_goesOn_19 rfl (fun c4 => ?_) (fun c4 => ?_)
        · replace h := ite_f c4 h
          refine lv_aload_n hx hb dX13_goesOn_35 rfl (lv_at hl 0 rfl) ?_
          refine lv_aload_n hx hb dX13_goesOn_36 rfl (lv_at hl 0 rfl) ?_
          refine r_get (T := TX13) (v := .int (gI M2 y2_0 8)) hx hb hts in13 hown hK hP ky2_0 (by decide) rfl 8 (by decide) (hts (.fieldLink RX13 61 "StoneWalkModel" "at" "I") (List.mem_of_getElem? (i := 2) (by decide +kernel))) rfl (t := 0) rfl rfl dX13_goesOn_37 ?_
          refine r_putI (T := TX13) (ty := .int) (v := gI M2 y2_0 8) hx hb hts in13 tyX13 tyX13_ok nmX13 hown hK hP hD hT hS ky2_0 (by decide) rfl 10 (by decide) (hts (.fieldLink RX13 67 "StoneWalkModel" "place" "I") (List.mem_of_getElem? (i := 3) (by decide +kernel))) rfl rfl (tyX13_ok 10 (by decide)) rfl rfl rfl dX13_goesOn_40 (fun H locs hP hD hT hS => ?_)
          refine lv_aload_n hx hb dX13_goesOn_43 rfl (lv_at hl 0 rfl) ?_
          refine lv_iconst (v := 0) hx hb dX13_goesOn_44 rfl ?_
          refine r_putI (T := TX13) (ty := .int) (v := 0) hx hb hts in13 tyX13 tyX13_ok nmX13 hown hK hP hD hT hS ky2_0 (by decide) rfl 9 (by decide) (hts (.fieldLink RX13 58 "StoneWalkModel" "sort" "I") (List.mem_of_getElem? (i := 1) (by decide +kernel))) rfl rfl (tyX13_ok 9 (by decide)) rfl rfl rfl dX13_goesOn_45 (fun H locs hP hD hT hS => ?_)
          refine lv_aload_n hx hb dX13_goesOn_48 rfl (lv_at hl 0 rfl) ?_
          refine lv_iconst (v := 0) hx hb dX13_goesOn_49 rfl ?_
          refine r_putI (T := TX13) (ty := .int) (v := 0) hx hb hts in13 tyX13 tyX13_ok nmX13 hown hK hP hD hT hS ky2_0 (by decide) rfl 11 (by decide) (hts (.fieldLink RX13 70 "StoneWalkModel" "mark" "I") (List.mem_of_getElem? (i := 4) (by decide +kernel))) rfl rfl (tyX13_ok 11 (by decide)) rfl rfl rfl dX13_goesOn_50 (fun H locs hP hD hT hS => ?_)
          refine lv_aload_n hx hb dX13_goesOn_53 rfl (lv_at hl 0 rfl) ?_
          refine lv_aload_n hx hb dX13_goesOn_54 rfl (lv_at hl 0 rfl) ?_
          refine r_get (T := TX13) (v := .int (gI (pI (pI (pI M2 y2_0 10 (gI M2 y2_0 8)) y2_0 9 0) y2_0 11 0) y2_0 8)) hx hb hts in13 hown hK hP ky2_0 (by decide) rfl 8 (by decide) (hts (.fieldLink RX13 61 "StoneWalkModel" "at" "I") (List.mem_of_getElem? (i := 2) (by decide +kernel))) rfl (t := 0) rfl rfl dX13_goesOn_55 ?_
          obtain ⟨z5, h5, h⟩ := ob_some h
          refine k_i (va_runV (As := [.int (gI (pI (pI (pI M2 y2_0 10 (gI M2 y2_0 8)) y2_0 9 0) y2_0 11 0) y2_0 8)]) (rest := []) ⟨hx, hb, hml, hown, hts⟩ (c_X13_byteAt (l := l) (pI (pI (pI M2 y2_0 10 (gI M2 y2_0 8)) y2_0 9 0) y2_0 11 0) y2_0 (gI (pI (pI (pI M2 y2_0 10 (gI M2 y2_0 8)) y2_0 9 0) y2_0 11 0) y2_0 8) ky2_0 h5) (cwV 1 hts gX13_goesOn_X13_byteAt rfl rfl rfl hdV_X13_byteAt ⟨Nat.le_of_ble_eq_true rfl, Nat.le_of_ble_eq_true rfl⟩) (pV (T := TX13) hP hK hD hT hG hS ky2_0 (by decide) rfl) rfl rfl hl.1 rfl (lv_room (Nat.le_of_ble_eq_true rfl)) dX13_goesOn_58 ⟨Nat.zero_le _, Nat.zero_le _⟩) hS (fun H locs hP hD hT hS => ?_)
          refine lv_istore_n (lv' := [(1, .int z5), (0, .ref (ad y2_0))]) hx hb dX13_goesOn_61 rfl hl (by decide) rfl (fun ls hl => ?_)
          refine lv_iconst (v := 0) hx hb dX13_goesOn_62 rfl ?_
          refine lv_istore_n (lv' := [(2, .int 0), (1, .int z5), (0, .ref (ad y2_0))]) hx hb dX13_goesOn_63 rfl hl (by decide) rfl (fun ls hl => ?_)
          refine lv_iload_n hx hb dX13_goesOn_64 rfl (lv_at hl 1 rfl) ?_
          refine lv_iconst (v := (-1)) hx hb dX13_goesOn_65 rfl ?_
          refine lv_icmp_ne (tgt := 77) hx hb dX13_goesOn_66 rfl (fun c6 => ?_) (fun c6 => ?_)
          · replace h := ite_f c6 h
            refine lv_iload_n hx hb dX13_goesOn_77 rfl (lv_at hl 1 rfl) ?_
            obtain ⟨z7, h7, h⟩ := ob_some h
            refine k_z (va_runS (As := [.int z5]) (rest := []) ⟨hx, hb, hml, hown, hts⟩ (c_X13_isLetter (l := l) (pI (pI (pI M2 y2_0 10 (gI M2 y2_0 8)) y2_0 9 0) y2_0 11 0) z5 h7) (va_cwS 1 hts gX13_goesOn_X13_isLetter rfl rfl rfl hdS_X13_isLetter ⟨Nat.le_of_ble_eq_true rfl, Nat.le_of_ble_eq_true rfl⟩) (pS hP hK hD hT hG hS) rfl rfl hl.1 rfl (lv_room (Nat.le_of_ble_eq_true rfl)) dX13_goesOn_78 ⟨Nat.zero_le _, Nat.zero_le _⟩) hS (fun H locs hz7 hP hD hT hS => ?_)
            refine lv_if_eq (tgt := 166) hx hb dX13_goesOn_81 rfl (fun c8 => ?_) (fun c8 => ?_)
            · replace h := ite_t c8 h
              refine lv_iload_n hx hb dX13_goesOn_166 rfl (lv_at hl 1 rfl) ?_
              obtain ⟨z9, h9, h⟩ := ob_some h
              refine k_z (va_runS (As := [.int z5]) (rest := []) ⟨hx, hb, hml, hown, hts⟩ (c_X13_isDigit (l := l) (pI (pI (pI M2 y2_0 10 (gI M2 y2_0 8)) y2_0 9 0) y2_0 11 0) z5 h9) (va_cwS 1 hts gX13_goesOn_X13_isDigit rfl rfl rfl hdS_X13_isDigit ⟨Nat.le_of_ble_eq_true rfl, Nat.le_of_ble_eq_true rfl⟩) (pS hP hK hD hT hG hS) rfl rfl hl.1 rfl (lv_room (Nat.le_of_ble_eq_true rfl)) dX13_goesOn_167 ⟨Nat.zero_le _, Nat.zero_le _⟩) hS (fun H locs hz9 hP hD hT hS => ?_)
              refine lv_if_eq (tgt := 249) hx hb dX13_goesOn_170 rfl (fun c10 => ?_) (fun c10 => ?_)
              · replace h := ite_t c10 h
                refine lv_iload_n hx hb dX13_goesOn_249 rfl (lv_at hl 1 rfl) ?_
                refine lv_bipush (v := 59) hx hb dX13_goesOn_250 rfl ?_
                refine lv_icmp_eq (tgt := 261) hx hb dX13_goesOn_252 rfl (fun c11 => ?_) (fun c11 => ?_)
                · replace h := ite_t c11 h
                  refine lv_aload_n hx hb dX13_goesOn_261 rfl (lv_at hl 2 rfl) ?_
                  refine lv_iconst (v := 4) hx hb dX13_goesOn_262 rfl ?_
                  refine r_putI (T := TX13) (ty := .int) (v := 4) hx hb hts in13 tyX13 tyX13_ok nmX13 hown hK hP hD hT hS ky2_0 (by decide) rfl 9 (by decide) (hts (.fieldLink RX13 58 "StoneWalkModel" "sort" "I") (List.mem_of_getElem? (i := 1) (by decide +kernel))) rfl rfl (tyX13_ok 9 (by decide)) rfl rfl rfl dX13_goesOn_263 (fun H locs hP hD hT hS => ?_)
                  refine lv_aload_n hx hb dX13_goesOn_266 rfl (lv_at hl 2 rfl) ?_
                  refine lv_iload_n hx hb dX13_goesOn_267 rfl (lv_at hl 1 rfl) ?_
                  refine r_putI (T := TX13) (ty := .int) (v := z5) hx hb hts in13 tyX13 tyX13_ok nmX13 hown hK hP hD hT hS ky2_0 (by decide) rfl 11 (by decide) (hts (.fieldLink RX13 70 "StoneWalkModel" "mark" "I") (List.mem_of_getElem? (i := 4) (by decide +kernel))) rfl rfl (tyX13_ok 11 (by decide)) rfl rfl rfl dX13_goesOn_268 (fun H locs hP hD hT hS => ?_)
                  refine lv_aload_n hx hb dX13_goesOn_271 rfl (lv_at hl 2 rfl) ?_
                  refine lv_dup hx hb dX13_goesOn_272 rfl ?_
                  refine r_get (T := TX13) (v := .int (gI (pI (pI (pI (pI (pI M2 y2_0 10 (gI M2 y2_0 8)) y2_0 9 0) y2_0 11 0) y2_0 9 4) y2_0 11 z5) y2_0 8)) hx hb hts in13 hown hK hP ky2_0 (by decide) rfl 8 (by decide) (hts (.fieldLink RX13 61 "StoneWalkModel" "at" "I") (List.mem_of_getElem? (i := 2) (by decide +kernel))) rfl (t := 0) rfl rfl dX13_goesOn_273 ?_
                  refine lv_iconst (v := 1) hx hb dX13_goesOn_276 rfl ?_
                  refine lv_iadd hx hb dX13_goesOn_277 ?_
                  refine r_putI (T := TX13) (ty := .int) (v := (gI (pI (pI (pI (pI (pI M2 y2_0 10 (gI M2 y2_0 8)) y2_0 9 0) y2_0 11 0) y2_0 9 4) y2_0 11 z5) y2_0 8) + 1) hx hb hts in13 tyX13 tyX13_ok nmX13 hown hK hP hD hT hS ky2_0 (by decide) rfl 8 (by decide) (hts (.fieldLink RX13 61 "StoneWalkModel" "at" "I") (List.mem_of_getElem? (i := 2) (by decide +kernel))) rfl rfl (tyX13_ok 8 (by decide)) rfl rfl rfl dX13_goesOn_278 (fun H locs hP hD hT hS => ?_)
                  exact r_vret hx hb hr hlocks hP hK hD hT hG hS (Option.some.inj h) dX13_goesOn_281
                · replace h := ite_f c11 h
                  refine lv_iload_n hx hb dX13_goesOn_255 rfl (lv_at hl 1 rfl) ?_
                  refine lv_bipush (v := 44) hx hb dX13_goesOn_256 rfl ?_
                  refine lv_icmp_ne (tgt := 281) hx hb dX13_goesOn_258 rfl (fun c12 => ?_) (fun c12 => ?_)
                  · replace h := ite_f c12 h
                    exact r_vret hx hb hr hlocks hP hK hD hT hG hS (Option.some.inj h) dX13_goesOn_281
                  · replace h := ite_t c12 h
                    refine lv_aload_n hx hb dX13_goesOn_261 rfl (lv_at hl 2 rfl) ?_
                    refine lv_iconst (v := 4) hx hb dX13_goesOn_262 rfl ?_
                    refine r_putI (T := TX13) (ty := .int) (v := 4) hx hb hts in13 tyX13 tyX13_ok nmX13 hown hK hP hD hT hS ky2_0 (by decide) rfl 9 (by decide) (hts (.fieldLink RX13 58 "StoneWalkModel" "sort" "I") (List.mem_of_getElem? (i := 1) (by decide +kernel))) rfl rfl (tyX13_ok 9 (by decide)) rfl rfl rfl dX13_goesOn_263 (fun H locs hP hD hT hS => ?_)
                    refine lv_aload_n hx hb dX13_goesOn_266 rfl (lv_at hl 2 rfl) ?_
                    refine lv_iload_n hx hb dX13_goesOn_267 rfl (lv_at hl 1 rfl) ?_
                    refine r_putI (T := TX13) (ty := .int) (v := z5) hx hb hts in13 tyX13 tyX13_ok nmX13 hown hK hP hD hT hS ky2_0 (by decide) rfl 11 (by decide) (hts (.fieldLink RX13 70 "StoneWalkModel" "mark" "I") (List.mem_of_getElem? (i := 4) (by decide +kernel))) rfl rfl (tyX13_ok 11 (by decide)) rfl rfl rfl dX13_goesOn_268 (fun H locs hP hD hT hS => ?_)
                    refine lv_aload_n hx hb dX13_goesOn_271 rfl (lv_at hl 2 rfl) ?_
                    refine lv_dup hx hb dX13_goesOn_272 rfl ?_
                    refine r_get (T := TX13) (v := .int (gI (pI (pI (pI (pI (pI M2 y2_0 10 (gI M2 y2_0 8)) y2_0 9 0) y2_0 11 0) y2_0 9 4) y2_0 11 z5) y2_0 8)) hx hb hts in13 hown hK hP ky2_0 (by decide) rfl 8 (by decide) (hts (.fieldLink RX13 61 "StoneWalkModel" "at" "I") (List.mem_of_getElem? (i := 2) (by decide +kernel))) rfl (t := 0) rfl rfl dX13_goesOn_273 ?_
                    refine lv_iconst (v := 1) hx hb dX13_goesOn_276 rfl ?_
                    refine lv_iadd hx hb dX13_goesOn_277 ?_
                    refine r_putI (T := TX13) (ty := .int) (v := (gI (pI (pI (pI (pI (pI M2 y2_0 10 (gI M2 y2_0 8)) y2_0 9 0) y2_0 11 0) y2_0 9 4) y2_0 11 z5) y2_0 8) + 1) hx hb hts in13 tyX13 tyX13_ok nmX13 hown hK hP hD hT hS ky2_0 (by decide) rfl 8 (by decide) (hts (.fieldLink RX13 61 "StoneWalkModel" "at" "I") (List.mem_of_getElem? (i := 2) (by decide +kernel))) rfl rfl (tyX13_ok 8 (by decide)) rfl rfl rfl dX13_goesOn_278 (fun H locs hP hD hT hS => ?_)
                    exact r_vret hx hb hr hlocks hP hK hD hT hG hS (Option.some.inj h) dX13_goesOn_281
              · replace h := ite_f c10 h
                refine lv_aload_n hx hb dX13_goesOn_173 rfl (lv_at hl 2 rfl) ?_
                refine lv_iconst (v := 0) hx hb dX13_goesOn_174 rfl ?_
                refine r_putI (T := TX13) (ty := .int) (v := 0) hx hb hts in13 tyX13 tyX13_ok nmX13 hown hK hP hD hT hS ky2_0 (by decide) rfl 12 (by decide) (hts (.fieldLink RX13 84 "StoneWalkModel" "number" "I") (List.mem_of_getElem? (i := 7) (by decide +kernel))) rfl rfl (tyX13_ok 12 (by decide)) rfl rfl rfl dX13_goesOn_175 (fun H locs hP hD hT hS => ?_)
                have L13 : ∀ n13 : Nat, ∀ (M13 : MM) (y13_0 : Nat) (y13_2 : Int32) (ky13_0 : ok g y13_0 13 0) (H : Heap) (locs : List Loc), f_X13_goesOn_L178 (fun M y2_0 => f_X13_goesOn_L9 n2 M y2_0) n13 M13 y13_0 y13_2 = some Z → va_P D vwCl (wd ad cy g M13) H → va_D A (wd ad cy g M13) → WT g M13 → va_S A s.heap H locs → ∀ (ls : Array Slot), lv_has ls 3 [(0, .ref (ad y13_0)), (2, .int y13_2)] → W p l e ((headSpec wsX13_goesOn ({ frames := 1, cells := 0, slots := 0, locals := 21 })).room) s m (([.ref (ad a0)] : List Value).toArray) below meth c H locs 0 0 (MQ below (va_Qv (fun u => u = Z) (Wd D ad cy A g q) A) ([.ref (ad a0)]).toArray s 0 0 A) (F0 m 178 ls []) := by
                  intro n13
                  induction n13 with
                  | zero => intro M13 y13_0 y13_2 ky13_0 H locs h; exact absurd h (by simp [f_X13_goesOn_L178])
                  | succ n13 ih13 =>
                    intro M13 y13_0 y13_2 ky13_0 H locs h hP hD hT hS ls hl
                    rw [f_X13_goesOn_L178] at h
                    refine lv_aload_n hx hb dX13_goesOn_178 rfl (lv_at hl 0 rfl) ?_
                    refine lv_aload_n hx hb dX13_goesOn_179 rfl (lv_at hl 0 rfl) ?_
                    refine r_get (T := TX13) (v := .int (gI M13 y13_0 8)) hx hb hts in13 hown hK hP ky13_0 (by decide) rfl 8 (by decide) (hts (.fieldLink RX13 61 "StoneWalkModel" "at" "I") (List.mem_of_getElem? (i := 2) (by decide +kernel))) rfl (t := 0) rfl rfl dX13_goesOn_180 ?_
                    obtain ⟨z14, h14, h⟩ := ob_some h
                    refine k_i (va_runV (As := [.int (gI M13 y13_0 8)]) (rest := []) ⟨hx, hb, hml, hown, hts⟩ (c_X13_byteAt (l := l) M13 y13_0 (gI M13 y13_0 8) ky13_0 h14) (cwV 1 hts gX13_goesOn_X13_byteAt rfl rfl rfl hdV_X13_byteAt ⟨Nat.le_of_ble_eq_true rfl, Nat.le_of_ble_eq_true rfl⟩) (pV (T := TX13) hP hK hD hT hG hS ky13_0 (by decide) rfl) rfl rfl hl.1 rfl (lv_room (Nat.le_of_ble_eq_true rfl)) dX13_goesOn_183 ⟨Nat.zero_le _, Nat.zero_le _⟩) hS (fun H locs hP hD hT hS => ?_)
                    obtain ⟨z15, h15, h⟩ := ob_some h
                    refine k_z (va_runS (As := [.int z14]) (rest := []) ⟨hx, hb, hml, hown, hts⟩ (c_X13_isDigit (l := l) M13 z14 h15) (va_cwS 1 hts gX13_goesOn_X13_isDigit rfl rfl rfl hdS_X13_isDigit ⟨Nat.le_of_ble_eq_true rfl, Nat.le_of_ble_eq_true rfl⟩) (pS hP hK hD hT hG hS) rfl rfl hl.1 rfl (lv_room (Nat.le_of_ble_eq_true rfl)) dX13_goesOn_186 ⟨Nat.zero_le _, Nat.zero_le _⟩) hS (fun H locs hz15 hP hD hT hS => ?_)
                    refine lv_if_eq (tgt := 236) hx hb dX13_goesOn_189 rfl (fun c16 => ?_) (fun c16 => ?_)
                    · replace h := ite_t c16 h
                      refine lv_iload_n hx hb dX13_goesOn_236 rfl (lv_at hl 1 rfl) ?_
                      refine lv_iconst (v := 3) hx hb dX13_goesOn_237 rfl ?_
                      refine lv_icmp_gt (tgt := 281) hx hb dX13_goesOn_238 rfl (fun c17 => ?_) (fun c17 => ?_)
                      · replace h := ite_t c17 h
                        exact r_vret hx hb hr hlocks hP hK hD hT hG hS (Option.some.inj h) dX13_goesOn_281
                      · replace h := ite_f c17 h
                        refine lv_aload_n hx hb dX13_goesOn_241 rfl (lv_at hl 0 rfl) ?_
                        refine lv_iconst (v := 3) hx hb dX13_goesOn_242 rfl ?_
                        refine r_putI (T := TX13) (ty := .int) (v := 3) hx hb hts in13 tyX13 tyX13_ok nmX13 hown hK hP hD hT hS ky13_0 (by decide) rfl 9 (by decide) (hts (.fieldLink RX13 58 "StoneWalkModel" "sort" "I") (List.mem_of_getElem? (i := 1) (by decide +kernel))) rfl rfl (tyX13_ok 9 (by decide)) rfl rfl rfl dX13_goesOn_243 (fun H locs hP hD hT hS => ?_)
                        refine lv_goto (tgt := 281) hx hb dX13_goesOn_246 rfl ?_
                        exact r_vret hx hb hr hlocks hP hK hD hT hG hS (Option.some.inj h) dX13_goesOn_281
                    · replace h := ite_f c16 h
                      refine lv_iload_n hx hb dX13_goesOn_192 rfl (lv_at hl 1 rfl) ?_
                      refine lv_iconst (v := 3) hx hb dX13_goesOn_193 rfl ?_
                      refine lv_icmp_ge (tgt := 220) hx hb dX13_goesOn_194 rfl (fun c18 => ?_) (fun c18 => ?_)
                      · replace h := ite_t c18 h
                        refine lv_iinc (v := y13_2 + 1) (lv' := [(2, .int (y13_2 + 1)), (0, .ref (ad y13_0))]) hx hb dX13_goesOn_220 hl (k := 1) rfl rfl (by decide) rfl (fun ls hl => ?_)
                        refine lv_aload_n hx hb dX13_goesOn_223 rfl (lv_at hl 1 rfl) ?_
                        refine lv_dup hx hb dX13_goesOn_224 rfl ?_
                        refine r_get (T := TX13) (v := .int (gI M13 y13_0 8)) hx hb hts in13 hown hK hP ky13_0 (by decide) rfl 8 (by decide) (hts (.fieldLink RX13 61 "StoneWalkModel" "at" "I") (List.mem_of_getElem? (i := 2) (by decide +kernel))) rfl (t := 0) rfl rfl dX13_goesOn_225 ?_
                        refine lv_iconst (v := 1) hx hb dX13_goesOn_228 rfl ?_
                        refine lv_iadd hx hb dX13_goesOn_229 ?_
                        refine r_putI (T := TX13) (ty := .int) (v := (gI M13 y13_0 8) + 1) hx hb hts in13 tyX13 tyX13_ok nmX13 hown hK hP hD hT hS ky13_0 (by decide) rfl 8 (by decide) (hts (.fieldLink RX13 61 "StoneWalkModel" "at" "I") (List.mem_of_getElem? (i := 2) (by decide +kernel))) rfl rfl (tyX13_ok 8 (by decide)) rfl rfl rfl dX13_goesOn_230 (fun H locs hP hD hT hS => ?_)
                        refine lv_goto (tgt := 178) hx hb dX13_goesOn_233 rfl ?_
                        exact ih13 (pI M13 y13_0 8 ((gI M13 y13_0 8) + 1)) y13_0 (y13_2 + 1) ky13_0 _ _ h hP hD hT hS ls (lv_sub hl [1, 0] rfl)
                      · replace h := ite_f c18 h
                        refine lv_aload_n hx hb dX13_goesOn_197 rfl (lv_at hl 0 rfl) ?_
                        refine lv_bipush (v := 10) hx hb dX13_goesOn_198 rfl ?_
                        refine lv_aload_n hx hb dX13_goesOn_200 rfl (lv_at hl 0 rfl) ?_
                        refine r_get (T := TX13) (v := .int (gI M13 y13_0 12)) hx hb hts in13 hown hK hP ky13_0 (by decide) rfl 12 (by decide) (hts (.fieldLink RX13 84 "StoneWalkModel" "number" "I") (List.mem_of_getElem? (i := 7) (by decide +kernel))) rfl (t := 0) rfl rfl dX13_goesOn_201 ?_
                        refine lv_imul hx hb dX13_goesOn_204 ?_
                        refine lv_aload_n hx hb dX13_goesOn_205 rfl (lv_at hl 0 rfl) ?_
                        refine lv_aload_n hx hb dX13_goesOn_206 rfl (lv_at hl 0 rfl) ?_
                        refine r_get (T := TX13) (v := .int (gI M13 y13_0 8)) hx hb hts in13 hown hK hP ky13_0 (by decide) rfl 8 (by decide) (hts (.fieldLink RX13 61 "StoneWalkModel" "at" "I") (List.mem_of_getElem? (i := 2) (by decide +kernel))) rfl (t := 0) rfl rfl dX13_goesOn_207 ?_
                        obtain ⟨z19, h19, h⟩ := ob_some h
                        refine k_i (va_runV (As := [.int (gI M13 y13_0 8)]) (rest := [.int (10 * (gI M13 y13_0 12)), .ref (ad y13_0)]) ⟨hx, hb, hml, hown, hts⟩ (c_X13_byteAt (l := l) M13 y13_0 (gI M13 y13_0 8) ky13_0 h19) (cwV 1 hts gX13_goesOn_X13_byteAt rfl rfl rfl hdV_X13_byteAt ⟨Nat.le_of_ble_eq_true rfl, Nat.le_of_ble_eq_true rfl⟩) (pV (T := TX13) hP hK hD hT hG hS ky13_0 (by decide) rfl) rfl rfl hl.1 rfl (lv_room (Nat.le_of_ble_eq_true rfl)) dX13_goesOn_210 ⟨Nat.zero_le _, Nat.zero_le _⟩) hS (fun H locs hP hD hT hS => ?_)
                        refine lv_iadd hx hb dX13_goesOn_213 ?_
                        refine lv_bipush (v := 48) hx hb dX13_goesOn_214 rfl ?_
                        refine lv_isub hx hb dX13_goesOn_216 ?_
                        refine r_putI (T := TX13) (ty := .int) (v := ((10 * (gI M13 y13_0 12)) + z19) - 48) hx hb hts in13 tyX13 tyX13_ok nmX13 hown hK hP hD hT hS ky13_0 (by decide) rfl 12 (by decide) (hts (.fieldLink RX13 84 "StoneWalkModel" "number" "I") (List.mem_of_getElem? (i := 7) (by decide +kernel))) rfl rfl (tyX13_ok 12 (by decide)) rfl rfl rfl dX13_goesOn_217 (fun H locs hP hD hT hS => ?_)
                        refine lv_iinc (v := y13_2 + 1) (lv' := [(2, .int (y13_2 + 1)), (0, .ref (ad y13_0))]) hx hb dX13_goesOn_220 hl (k := 1) rfl rfl (by decide) rfl (fun ls hl => ?_)
                        refine lv_aload_n hx hb dX13_goesOn_223 rfl (lv_at hl 1 rfl) ?_
                        refine lv_dup hx hb dX13_goesOn_224 rfl ?_
                        refine r_get (T := TX13) (v := .int (gI (pI M13 y13_0 12 (((10 * (gI M13 y13_0 12)) + z19) - 48)) y13_0 8)) hx hb hts in13 hown hK hP ky13_0 (by decide) rfl 8 (by decide) (hts (.fieldLink RX13 61 "StoneWalkModel" "at" "I") (List.mem_of_getElem? (i := 2) (by decide +kernel))) rfl (t := 0) rfl rfl dX13_goesOn_225 ?_
                        refine lv_iconst (v := 1) hx hb dX13_goesOn_228 rfl ?_
                        refine lv_iadd hx hb dX13_goesOn_229 ?_
                        refine r_putI (T := TX13) (ty := .int) (v := (gI (pI M13 y13_0 12 (((10 * (gI M13 y13_0 12)) + z19) - 48)) y13_0 8) + 1) hx hb hts in13 tyX13 tyX13_ok nmX13 hown hK hP hD hT hS ky13_0 (by decide) rfl 8 (by decide) (hts (.fieldLink RX13 61 "StoneWalkModel" "at" "I") (List.mem_of_getElem? (i := 2) (by decide +kernel))) rfl rfl (tyX13_ok 8 (by decide)) rfl rfl rfl dX13_goesOn_230 (fun H locs hP hD hT hS => ?_)
                        refine lv_goto (tgt := 178) hx hb dX13_goesOn_233 rfl ?_
                        exact ih13 (pI (pI M13 y13_0 12 (((10 * (gI M13 y13_0 12)) + z19) - 48)) y13_0 8 ((gI (pI M13 y13_0 12 (((10 * (gI M13 y13_0 12)) + z19) - 48)) y13_0 8) + 1)) y13_0 (y13_2 + 1) ky13_0 _ _ h hP hD hT hS ls (lv_sub hl [1, 0] rfl)
                exact L13 FU (pI (pI (pI (pI M2 y2_0 10 (gI M2 y2_0 8)) y2_0 9 0) y2_0 11 0) y2_0 12 0) y2_0 0 ky2_0 _ _ h hP hD hT hS ls (lv_sub hl [2, 0] rfl)
            · replace h := ite_f c8 h
              refine lv_aload_n hx hb dX13_goesOn_84 rfl (lv_at hl 2 rfl) ?_
              refine lv_lconst (v := 0) hx hb dX13_goesOn_85 rfl ?_
              refine r_putL (T := TX13) (v := 0) hx hb hts in13 tyX13 tyX13_ok nmX13 hown hK hP hD hT hS ky2_0 (by decide) rfl 15 (by decide) (hts (.fieldLink RX13 77 "StoneWalkModel" "word" "J") (List.mem_of_getElem? (i := 5) (by decide +kernel))) rfl rfl (tyX13_ok 15 (by decide)) rfl dX13_goesOn_86 (fun H locs hP hD hT hS => ?_)
              have L20 : ∀ n20 : Nat, ∀ (M20 : MM) (y20_0 : Nat) (y20_2 : Int32) (ky20_0 : ok g y20_0 13 0) (H : Heap) (locs : List Loc), f_X13_goesOn_L89 (fun M y2_0 => f_X13_goesOn_L9 n2 M y2_0) n20 M20 y20_0 y20_2 = some Z → va_P D vwCl (wd ad cy g M20) H → va_D A (wd ad cy g M20) → WT g M20 → va_S A s.heap H locs → ∀ (ls : Array Slot), lv_has ls 3 [(0, .ref (ad y20_0)), (2, .int y20_2)] → W p l e ((headSpec wsX13_goesOn ({ frames := 1, cells := 0, slots := 0, locals := 21 })).room) s m (([.ref (ad a0)] : List Value).toArray) below meth c H locs 0 0 (MQ below (va_Qv (fun u => u = Z) (Wd D ad cy A g q) A) ([.ref (ad a0)]).toArray s 0 0 A) (F0 m 89 ls []) := by
                intro n20
                induction n20 with
                | zero => intro M20 y20_0 y20_2 ky20_0 H locs h; exact absurd h (by simp [f_X13_goesOn_L89])
                | succ n20 ih20 =>
                  intro M20 y20_0 y20_2 ky20_0 H locs h hP hD hT hS ls hl
                  rw [f_X13_goesOn_L89] at h
                  refine lv_aload_n hx hb dX13_goesOn_89 rfl (lv_at hl 0 rfl) ?_
                  refine lv_aload_n hx hb dX13_goesOn_90 rfl (lv_at hl 0 rfl) ?_
                  refine r_get (T := TX13) (v := .int (gI M20 y20_0 8)) hx hb hts in13 hown hK hP ky20_0 (by decide) rfl 8 (by decide) (hts (.fieldLink RX13 61 "StoneWalkModel" "at" "I") (List.mem_of_getElem? (i := 2) (by decide +kernel))) rfl (t := 0) rfl rfl dX13_goesOn_91 ?_
                  obtain ⟨z21, h21, h⟩ := ob_some h
                  refine k_i (va_runV (As := [.int (gI M20 y20_0 8)]) (rest := []) ⟨hx, hb, hml, hown, hts⟩ (c_X13_byteAt (l := l) M20 y20_0 (gI M20 y20_0 8) ky20_0 h21) (cwV 1 hts gX13_goesOn_X13_byteAt rfl rfl rfl hdV_X13_byteAt ⟨Nat.le_of_ble_eq_true rfl, Nat.le_of_ble_eq_true rfl⟩) (pV (T := TX13) hP hK hD hT hG hS ky20_0 (by decide) rfl) rfl rfl hl.1 rfl (lv_room (Nat.le_of_ble_eq_true rfl)) dX13_goesOn_94 ⟨Nat.zero_le _, Nat.zero_le _⟩) hS (fun H locs hP hD hT hS => ?_)
                  obtain ⟨z22, h22, h⟩ := ob_some h
                  refine k_z (va_runS (As := [.int z21]) (rest := []) ⟨hx, hb, hml, hown, hts⟩ (c_X13_isLetter (l := l) M20 z21 h22) (va_cwS 1 hts gX13_goesOn_X13_isLetter rfl rfl rfl hdS_X13_isLetter ⟨Nat.le_of_ble_eq_true rfl, Nat.le_of_ble_eq_true rfl⟩) (pS hP hK hD hT hG hS) rfl rfl hl.1 rfl (lv_room (Nat.le_of_ble_eq_true rfl)) dX13_goesOn_97 ⟨Nat.zero_le _, Nat.zero_le _⟩) hS (fun H locs hz22 hP hD hT hS => ?_)
                  refine lv_if_eq (tgt := 152) hx hb dX13_goesOn_100 rfl (fun c23 => ?_) (fun c23 => ?_)
                  · replace h := ite_t c23 h
                    refine lv_iload_n hx hb dX13_goesOn_152 rfl (lv_at hl 1 rfl) ?_
                    refine lv_bipush (v := 8) hx hb dX13_goesOn_153 rfl ?_
                    refine lv_icmp_gt (tgt := 281) hx hb dX13_goesOn_155 rfl (fun c24 => ?_) (fun c24 => ?_)
                    · replace h := ite_t c24 h
                      exact r_vret hx hb hr hlocks hP hK hD hT hG hS (Option.some.inj h) dX13_goesOn_281
                    · replace h := ite_f c24 h
                      refine lv_aload_n hx hb dX13_goesOn_158 rfl (lv_at hl 0 rfl) ?_
                      refine lv_iconst (v := 2) hx hb dX13_goesOn_159 rfl ?_
                      refine r_putI (T := TX13) (ty := .int) (v := 2) hx hb hts in13 tyX13 tyX13_ok nmX13 hown hK hP hD hT hS ky20_0 (by decide) rfl 9 (by decide) (hts (.fieldLink RX13 58 "StoneWalkModel" "sort" "I") (List.mem_of_getElem? (i := 1) (by decide +kernel))) rfl rfl (tyX13_ok 9 (by decide)) rfl rfl rfl dX13_goesOn_160 (fun H locs hP hD hT hS => ?_)
                      refine lv_goto (tgt := 281) hx hb dX13_goesOn_163 rfl ?_
                      exact r_vret hx hb hr hlocks hP hK hD hT hG hS (Option.some.inj h) dX13_goesOn_281
                  · replace h := ite_f c23 h
                    refine lv_iload_n hx hb dX13_goesOn_103 rfl (lv_at hl 1 rfl) ?_
                    refine lv_bipush (v := 8) hx hb dX13_goesOn_104 rfl ?_
                    refine lv_icmp_ge (tgt := 136) hx hb dX13_goesOn_106 rfl (fun c25 => ?_) (fun c25 => ?_)
                    · replace h := ite_t c25 h
                      refine lv_iinc (v := y20_2 + 1) (lv' := [(2, .int (y20_2 + 1)), (0, .ref (ad y20_0))]) hx hb dX13_goesOn_136 hl (k := 1) rfl rfl (by decide) rfl (fun ls hl => ?_)
                      refine lv_aload_n hx hb dX13_goesOn_139 rfl (lv_at hl 1 rfl) ?_
                      refine lv_dup hx hb dX13_goesOn_140 rfl ?_
                      refine r_get (T := TX13) (v := .int (gI M20 y20_0 8)) hx hb hts in13 hown hK hP ky20_0 (by decide) rfl 8 (by decide) (hts (.fieldLink RX13 61 "StoneWalkModel" "at" "I") (List.mem_of_getElem? (i := 2) (by decide +kernel))) rfl (t := 0) rfl rfl dX13_goesOn_141 ?_
                      refine lv_iconst (v := 1) hx hb dX13_goesOn_144 rfl ?_
                      refine lv_iadd hx hb dX13_goesOn_145 ?_
                      refine r_putI (T := TX13) (ty := .int) (v := (gI M20 y20_0 8) + 1) hx hb hts in13 tyX13 tyX13_ok nmX13 hown hK hP hD hT hS ky20_0 (by decide) rfl 8 (by decide) (hts (.fieldLink RX13 61 "StoneWalkModel" "at" "I") (List.mem_of_getElem? (i := 2) (by decide +kernel))) rfl rfl (tyX13_ok 8 (by decide)) rfl rfl rfl dX13_goesOn_146 (fun H locs hP hD hT hS => ?_)
                      refine lv_goto (tgt := 89) hx hb dX13_goesOn_149 rfl ?_
                      exact ih20 (pI M20 y20_0 8 ((gI M20 y20_0 8) + 1)) y20_0 (y20_2 + 1) ky20_0 _ _ h hP hD hT hS ls (lv_sub hl [1, 0] rfl)
                    · replace h := ite_f c25 h
                      refine lv_aload_n hx hb dX13_goesOn_109 rfl (lv_at hl 0 rfl) ?_
                      refine lv_ldc2 hx hb hown (hts (.constantLong RX13 52 (32)) (List.mem_of_getElem? (i := 6) (by decide +kernel))) dX13_goesOn_110 ?_
                      refine lv_aload_n hx hb dX13_goesOn_113 rfl (lv_at hl 0 rfl) ?_
                      refine r_get (T := TX13) (v := .long (gL M20 y20_0 15)) hx hb hts in13 hown hK hP ky20_0 (by decide) rfl 15 (by decide) (hts (.fieldLink RX13 77 "StoneWalkModel" "word" "J") (List.mem_of_getElem? (i := 5) (by decide +kernel))) rfl (t := 1) rfl rfl dX13_goesOn_114 ?_
                      refine lv_lmul hx hb dX13_goesOn_117 ?_
                      refine lv_aload_n hx hb dX13_goesOn_118 rfl (lv_at hl 0 rfl) ?_
                      refine lv_aload_n hx hb dX13_goesOn_119 rfl (lv_at hl 0 rfl) ?_
                      refine r_get (T := TX13) (v := .int (gI M20 y20_0 8)) hx hb hts in13 hown hK hP ky20_0 (by decide) rfl 8 (by decide) (hts (.fieldLink RX13 61 "StoneWalkModel" "at" "I") (List.mem_of_getElem? (i := 2) (by decide +kernel))) rfl (t := 0) rfl rfl dX13_goesOn_120 ?_
                      obtain ⟨z26, h26, h⟩ := ob_some h
                      refine k_i (va_runV (As := [.int (gI M20 y20_0 8)]) (rest := [.long (32 * (gL M20 y20_0 15)), .ref (ad y20_0)]) ⟨hx, hb, hml, hown, hts⟩ (c_X13_byteAt (l := l) M20 y20_0 (gI M20 y20_0 8) ky20_0 h26) (cwV 1 hts gX13_goesOn_X13_byteAt rfl rfl rfl hdV_X13_byteAt ⟨Nat.le_of_ble_eq_true rfl, Nat.le_of_ble_eq_true rfl⟩) (pV (T := TX13) hP hK hD hT hG hS ky20_0 (by decide) rfl) rfl rfl hl.1 rfl (lv_room (Nat.le_of_ble_eq_true rfl)) dX13_goesOn_123 ⟨Nat.zero_le _, Nat.zero_le _⟩) hS (fun H locs hP hD hT hS => ?_)
                      refine lv_bipush (v := 97) hx hb dX13_goesOn_126 rfl ?_
                      refine lv_isub hx hb dX13_goesOn_128 ?_
                      refine lv_iconst (v := 1) hx hb dX13_goesOn_129 rfl ?_
                      refine lv_iadd hx hb dX13_goesOn_130 ?_
                      refine lv_i2l hx hb dX13_goesOn_131 rfl ?_
                      refine lv_ladd hx hb dX13_goesOn_132 ?_
                      refine r_putL (T := TX13) (v := (32 * (gL M20 y20_0 15)) + (((z26 - 97) + 1).toInt64)) hx hb hts in13 tyX13 tyX13_ok nmX13 hown hK hP hD hT hS ky20_0 (by decide) rfl 15 (by decide) (hts (.fieldLink RX13 77 "StoneWalkModel" "word" "J") (List.mem_of_getElem? (i := 5) (by decide +kernel))) rfl rfl (tyX13_ok 15 (by decide)) rfl dX13_goesOn_133 (fun H locs hP hD hT hS => ?_)
                      refine lv_iinc (v := y20_2 + 1) (lv' := [(2, .int (y20_2 + 1)), (0, .ref (ad y20_0))]) hx hb dX13_goesOn_136 hl (k := 1) rfl rfl (by decide) rfl (fun ls hl => ?_)
                      refine lv_aload_n hx hb dX13_goesOn_139 rfl (lv_at hl 1 rfl) ?_
                      refine lv_dup hx hb dX13_goesOn_140 rfl ?_
                      refine r_get (T := TX13) (v := .int (gI (pL M20 y20_0 15 ((32 * (gL M20 y20_0 15)) + (((z26 - 97) + 1).toInt64))) y20_0 8)) hx hb hts in13 hown hK hP ky20_0 (by decide) rfl 8 (by decide) (hts (.fieldLink RX13 61 "StoneWalkModel" "at" "I") (List.mem_of_getElem? (i := 2) (by decide +kernel))) rfl (t := 0) rfl rfl dX13_goesOn_141 ?_
                      refine lv_iconst (v := 1) hx hb dX13_goesOn_144 rfl ?_
                      refine lv_iadd hx hb dX13_goesOn_145 ?_
                      refine r_putI (T := TX13) (ty := .int) (v := (gI (pL M20 y20_0 15 ((32 * (gL M20 y20_0 15)) + (((z26 - 97) + 1).toInt64))) y20_0 8) + 1) hx hb hts in13 tyX13 tyX13_ok nmX13 hown hK hP hD hT hS ky20_0 (by decide) rfl 8 (by decide) (hts (.fieldLink RX13 61 "StoneWalkModel" "at" "I") (List.mem_of_getElem? (i := 2) (by decide +kernel))) rfl rfl (tyX13_ok 8 (by decide)) rfl rfl rfl dX13_goesOn_146 (fun H locs hP hD hT hS => ?_)
                      refine lv_goto (tgt := 89) hx hb dX13_goesOn_149 rfl ?_
                      exact ih20 (pI (pL M20 y20_0 15 ((32 * (gL M20 y20_0 15)) + (((z26 - 97) + 1).toInt64))) y20_0 8 ((gI (pL M20 y20_0 15 ((32 * (gL M20 y20_0 15)) + (((z26 - 97) + 1).toInt64))) y20_0 8) + 1)) y20_0 (y20_2 + 1) ky20_0 _ _ h hP hD hT hS ls (lv_sub hl [1, 0] rfl)
              exact L20 FU (pL (pI (pI (pI M2 y2_0 10 (gI M2 y2_0 8)) y2_0 9 0) y2_0 11 0) y2_0 15 0) y2_0 0 ky2_0 _ _ h hP hD hT hS ls (lv_sub hl [2, 0] rfl)
          · replace h := ite_t c6 h
            refine lv_aload_n hx hb dX13_goesOn_69 rfl (lv_at hl 2 rfl) ?_
            refine lv_iconst (v := 1) hx hb dX13_goesOn_70 rfl ?_
            refine r_putI (T := TX13) (ty := .int) (v := 1) hx hb hts in13 tyX13 tyX13_ok nmX13 hown hK hP hD hT hS ky2_0 (by decide) rfl 9 (by decide) (hts (.fieldLink RX13 58 "StoneWalkModel" "sort" "I") (List.mem_of_getElem? (i := 1) (by decide +kernel))) rfl rfl (tyX13_ok 9 (by decide)) rfl rfl rfl dX13_goesOn_71 (fun H locs hP hD hT hS => ?_)
            refine lv_goto (tgt := 281) hx hb dX13_goesOn_74 rfl ?_
            exact r_vret hx hb hr hlocks hP hK hD hT hG hS (Option.some.inj h) dX13_goesOn_281
        · replace h := ite_t c4 h
          refine lv_aload_n hx hb dX13_goesOn_22 rfl (lv_at hl 0 rfl) ?_
          refine lv_dup hx hb dX13_goesOn_23 rfl ?_
          refine r_get (T := TX13) (v := .int (gI M2 y2_0 8)) hx hb hts in13 hown hK hP ky2_0 (by decide) rfl 8 (by decide) (hts (.fieldLink RX13 61 "StoneWalkModel" "at" "I") (List.mem_of_getElem? (i := 2) (by decide +kernel))) rfl (t := 0) rfl rfl dX13_goesOn_24 ?_
          refine lv_iconst (v := 1) hx hb dX13_goesOn_27 rfl ?_
          refine lv_iadd hx hb dX13_goesOn_28 ?_
          refine r_putI (T := TX13) (ty := .int) (v := (gI M2 y2_0 8) + 1) hx hb hts in13 tyX13 tyX13_ok nmX13 hown hK hP hD hT hS ky2_0 (by decide) rfl 8 (by decide) (hts (.fieldLink RX13 61 "StoneWalkModel" "at" "I") (List.mem_of_getElem? (i := 2) (by decide +kernel))) rfl rfl (tyX13_ok 8 (by decide)) rfl rfl rfl dX13_goesOn_29 (fun H locs hP hD hT hS => ?_)
          refine lv_goto (tgt := 9) hx hb dX13_goesOn_32 rfl ?_
          exact ih2 (pI M2 y2_0 8 ((gI M2 y2_0 8) + 1)) y2_0 ky2_0 _ _ h hP hD hT hS ls (lv_sub hl [0] rfl)
    exact L2 FU M a0 k0 _ _ h hP hD hT hS ls (lv_sub hl [0] rfl)
  · replace h := ite_t c1 h
    exact r_vret hx hb hr hlocks hP hK hD hT hG hS (Option.some.inj h) dX13_goesOn_8
set_option maxHeartbeats 4000000 in
set_option maxRecDepth 100000 in
theorem c_X13_wrong {l : Launch} {D : va_G} {ad : Nat → Nat} {cy : Nat → ClassId} {A : Nat → Prop} {g : CG} {q : SE} (M : MM) (a0 : Nat) (x1 : Int32) (k0 : ok g a0 13 0) {Z : MM} (h : f_X13_wrong M a0 x1 = some Z) : Met l yX13_wrong wsX13_wrong ({ frames := 0, cells := 0, slots := 0, locals := 0 }) (va_Pc [.ref (ad a0), .int x1] (Wd D ad cy A g q M)) (va_Qv (fun u => u = Z) (Wd D ad cy A g q) A) 0 0 A := by
  refine Met.ofW (cc := cX13_wrong) (maxL := 2) (ret := none) (by decide) rfl ?_
  intro p e s m args below meth c s₁ B hml hv
  obtain ⟨rfl, hP, hK, hD, hT, hG⟩ := hv
  have hx := B.exec
  have hb := B.bytes
  have hr := B.returns
  have hts := atoms_spec (ws := wsX13_wrong) B.pre
  have hown : s.vm.findClass RX13 = some m.cls := findClass_of_methodNamed B.named
  have hlocks := B.notSynchronized
  have in13 : ∀ w ∈ u_ws RX13 TX13 29, w ∈ wsX13_wrong := fun w h => List.mem_cons_of_mem _ (List.mem_append_right _ h)
  have hS : va_S A s.heap s.heap [] := va_S.rf
  have hl := lv_entry ([.ref (ad a0), .int x1]) (n := 2) (Nat.le_of_ble_eq_true rfl)
  rw [lg_entry_eq]
  generalize (lg_sl ([.ref (ad a0), .int x1]) ++ List.replicate (2 - (lg_sl ([.ref (ad a0), .int x1])).length) Slot.unset).toArray = ls at hl ⊢
  have hl : lv_has ls 2 [(0, .ref (ad a0)), (1, .int x1)] := hl
  unfold f_X13_wrong at h
  refine lv_aload_n hx hb dX13_wrong_0 rfl (lv_at hl 0 rfl) ?_
  refine r_get (T := TX13) (v := .int (gI M a0 9)) hx hb hts in13 hown hK hP k0 (by decide) rfl 9 (by decide) (hts (.fieldLink RX13 58 "StoneWalkModel" "sort" "I") (List.mem_of_getElem? (i := 1) (by decide +kernel))) rfl (t := 0) rfl rfl dX13_wrong_1 ?_
  refine lv_iconst (v := 5) hx hb dX13_wrong_4 rfl ?_
  refine lv_icmp_ne (tgt := 9) hx hb dX13_wrong_5 rfl (fun c1 => ?_) (fun c1 => ?_)
  · replace h := ite_f c1 h
    refine lv_aload_n hx hb dX13_wrong_9 rfl (lv_at hl 0 rfl) ?_
    refine lv_iload_n hx hb dX13_wrong_10 rfl (lv_at hl 1 rfl) ?_
    refine r_putI (T := TX13) (ty := .int) (v := x1) hx hb hts in13 tyX13 tyX13_ok nmX13 hown hK hP hD hT hS k0 (by decide) rfl 13 (by decide) (hts (.fieldLink RX13 87 "StoneWalkModel" "fault" "I") (List.mem_of_getElem? (i := 2) (by decide +kernel))) rfl rfl (tyX13_ok 13 (by decide)) rfl rfl rfl dX13_wrong_11 (fun H locs hP hD hT hS => ?_)
    refine lv_aload_n hx hb dX13_wrong_14 rfl (lv_at hl 0 rfl) ?_
    refine lv_aload_n hx hb dX13_wrong_15 rfl (lv_at hl 0 rfl) ?_
    refine r_get (T := TX13) (v := .int (gI (pI M a0 13 x1) a0 10)) hx hb hts in13 hown hK hP k0 (by decide) rfl 10 (by decide) (hts (.fieldLink RX13 67 "StoneWalkModel" "place" "I") (List.mem_of_getElem? (i := 3) (by decide +kernel))) rfl (t := 0) rfl rfl dX13_wrong_16 ?_
    refine r_putI (T := TX13) (ty := .int) (v := gI (pI M a0 13 x1) a0 10) hx hb hts in13 tyX13 tyX13_ok nmX13 hown hK hP hD hT hS k0 (by decide) rfl 14 (by decide) (hts (.fieldLink RX13 90 "StoneWalkModel" "wrongAt" "I") (List.mem_of_getElem? (i := 4) (by decide +kernel))) rfl rfl (tyX13_ok 14 (by decide)) rfl rfl rfl dX13_wrong_19 (fun H locs hP hD hT hS => ?_)
    refine lv_aload_n hx hb dX13_wrong_22 rfl (lv_at hl 0 rfl) ?_
    refine lv_iconst (v := 5) hx hb dX13_wrong_23 rfl ?_
    refine r_putI (T := TX13) (ty := .int) (v := 5) hx hb hts in13 tyX13 tyX13_ok nmX13 hown hK hP hD hT hS k0 (by decide) rfl 9 (by decide) (hts (.fieldLink RX13 58 "StoneWalkModel" "sort" "I") (List.mem_of_getElem? (i := 1) (by decide +kernel))) rfl rfl (tyX13_ok 9 (by decide)) rfl rfl rfl dX13_wrong_24 (fun H locs hP hD hT hS => ?_)
    exact r_vret hx hb hr hlocks hP hK hD hT hG hS (Option.some.inj h) dX13_wrong_27
  · replace h := ite_t c1 h
    exact r_vret hx hb hr hlocks hP hK hD hT hG hS (Option.some.inj h) dX13_wrong_8
set_option maxHeartbeats 4000000 in
set_option maxRecDepth 100000 in
theorem c_X13_isWord {l : Launch} {D : va_G} {ad : Nat → Nat} {cy : Nat → ClassId} {A : Nat → Prop} {g : CG} {q : SE} (M : MM) (a0 : Nat) (i1 : Nat) (k0 : ok g a0 13 0) (k1 : i1 < nS) {Z : Int32} (h : f_X13_isWord M a0 i1 = some Z) : Met l yX13_isWord wsX13_isWord ({ frames := 5, cells := 0, slots := 0, locals := 108 }) (va_Pc [.ref (ad a0), .ref (q.2.1 i1)] (Wd D ad cy A g q M)) (va_Qi (fun r u => r = Z ∧ u = M ∧ zb r) (Wd D ad cy A g q) A) 0 0 A := by
  refine Met.ofW (cc := cX13_isWord) (maxL := 2) (ret := (some .boolean)) (by decide) rfl ?_
  intro p e s m args below meth c s₁ B hml hv
  obtain ⟨rfl, hP, hK, hD, hT, hG⟩ := hv
  have hx := B.exec
  have hb := B.bytes
  have hr := B.returns
  have hts := atoms_spec (ws := wsX13_isWord) B.pre
  have hown : s.vm.findClass RX13 = some m.cls := findClass_of_methodNamed B.named
  have hlocks := B.notSynchronized
  have in13 : ∀ w ∈ u_ws RX13 TX13 29, w ∈ wsX13_isWord := fun w h => List.mem_cons_of_mem _ (List.mem_append_right _ h)
  have hS : va_S A s.heap s.heap [] := va_S.rf
  have hl := lv_entry ([.ref (ad a0), .ref (q.2.1 i1)]) (n := 2) (Nat.le_of_ble_eq_true rfl)
  rw [lg_entry_eq]
  generalize (lg_sl ([.ref (ad a0), .ref (q.2.1 i1)]) ++ List.replicate (2 - (lg_sl ([.ref (ad a0), .ref (q.2.1 i1)])).length) Slot.unset).toArray = ls at hl ⊢
  have hl : lv_has ls 2 [(0, .ref (ad a0)), (1, .ref (q.2.1 i1))] := hl
  unfold f_X13_isWord at h
  refine lv_aload_n hx hb dX13_isWord_0 rfl (lv_at hl 0 rfl) ?_
  refine r_get (T := TX13) (v := .int (gI M a0 9)) hx hb hts in13 hown hK hP k0 (by decide) rfl 9 (by decide) (hts (.fieldLink RX13 58 "StoneWalkModel" "sort" "I") (List.mem_of_getElem? (i := 1) (by decide +kernel))) rfl (t := 0) rfl rfl dX13_isWord_1 ?_
  refine lv_iconst (v := 2) hx hb dX13_isWord_4 rfl ?_
  refine lv_icmp_ne (tgt := 24) hx hb dX13_isWord_5 rfl (fun c1 => ?_) (fun c1 => ?_)
  · replace h := ite_f c1 h
    refine lv_iconst (v := 0) hx hb dX13_isWord_24 rfl ?_
    exact r_zret hx hb hr hlocks hP hK hD hT hG hS zb_0 (Option.some.inj h) rfl dX13_isWord_25
  · replace h := ite_t c1 h
    refine lv_aload_n hx hb dX13_isWord_8 rfl (lv_at hl 0 rfl) ?_
    refine r_get (T := TX13) (v := .long (gL M a0 15)) hx hb hts in13 hown hK hP k0 (by decide) rfl 15 (by decide) (hts (.fieldLink RX13 77 "StoneWalkModel" "word" "J") (List.mem_of_getElem? (i := 2) (by decide +kernel))) rfl (t := 1) rfl rfl dX13_isWord_9 ?_
    refine lv_aload_n hx hb dX13_isWord_12 rfl (lv_at hl 1 rfl) ?_
    obtain ⟨z2, h2, h⟩ := ob_some h
    refine k_l (va_runS (As := [.ref (q.2.1 i1)]) (rest := [.long (gL M a0 15)]) ⟨hx, hb, hml, hown, hts⟩ (c_X13_wordOf (l := l) M i1 k1 h2) (va_cwS 1 hts gX13_isWord_X13_wordOf rfl rfl rfl hdS_X13_wordOf ⟨Nat.le_of_ble_eq_true rfl, Nat.le_of_ble_eq_true rfl⟩) (pS hP hK hD hT hG hS) rfl rfl hl.1 rfl (lv_room (Nat.le_of_ble_eq_true rfl)) dX13_isWord_13 ⟨Nat.zero_le _, Nat.zero_le _⟩) hS (fun H locs hP hD hT hS => ?_)
    refine W.lcmp hx hb dX13_isWord_16 ?_
    refine lv_if_ne (tgt := 24) hx hb dX13_isWord_17 rfl (fun c3 => ?_) (fun c3 => ?_)
    · replace h := ite_f c3 h
      refine lv_iconst (v := 0) hx hb dX13_isWord_24 rfl ?_
      exact r_zret hx hb hr hlocks hP hK hD hT hG hS zb_0 (Option.some.inj h) rfl dX13_isWord_25
    · replace h := ite_t c3 h
      refine lv_iconst (v := 1) hx hb dX13_isWord_20 rfl ?_
      refine lv_goto (tgt := 25) hx hb dX13_isWord_21 rfl ?_
      exact r_zret hx hb hr hlocks hP hK hD hT hG hS zb_1 (Option.some.inj h) rfl dX13_isWord_25
set_option maxHeartbeats 4000000 in
set_option maxRecDepth 100000 in
theorem c_X13_eatsWord {l : Launch} {D : va_G} {ad : Nat → Nat} {cy : Nat → ClassId} {A : Nat → Prop} {g : CG} {q : SE} (M : MM) (a0 : Nat) (i1 : Nat) (k0 : ok g a0 13 0) (k1 : i1 < nS) {Z : (Int32 × MM)} (h : f_X13_eatsWord M a0 i1 = some Z) : Met l yX13_eatsWord wsX13_eatsWord ({ frames := 6, cells := 0, slots := 0, locals := 129 }) (va_Pc [.ref (ad a0), .ref (q.2.1 i1)] (Wd D ad cy A g q M)) (va_Qi (fun r u => r = Z.1 ∧ u = Z.2 ∧ zb r) (Wd D ad cy A g q) A) 0 0 A := by
  refine Met.ofW (cc := cX13_eatsWord) (maxL := 3) (ret := (some .boolean)) (by decide) rfl ?_
  intro p e s m args below meth c s₁ B hml hv
  obtain ⟨rfl, hP, hK, hD, hT, hG⟩ := hv
  have hx := B.exec
  have hb := B.bytes
  have hr := B.returns
  have hts := atoms_spec (ws := wsX13_eatsWord) B.pre
  have hown : s.vm.findClass RX13 = some m.cls := findClass_of_methodNamed B.named
  have hlocks := B.notSynchronized
  have hS : va_S A s.heap s.heap [] := va_S.rf
  have hl := lv_entry ([.ref (ad a0), .ref (q.2.1 i1)]) (n := 3) (Nat.le_of_ble_eq_true rfl)
  rw [lg_entry_eq]
  generalize (lg_sl ([.ref (ad a0), .ref (q.2.1 i1)]) ++ List.replicate (3 - (lg_sl ([.ref (ad a0), .ref (q.2.1 i1)])).length) Slot.unset).toArray = ls at hl ⊢
  have hl : lv_has ls 3 [(0, .ref (ad a0)), (1, .ref (q.2.1 i1))] := hl
  unfold f_X13_eatsWord at h
  refine lv_aload_n hx hb dX13_eatsWord_0 rfl (lv_at hl 0 rfl) ?_
  refine lv_aload_n hx hb dX13_eatsWord_1 rfl (lv_at hl 1 rfl) ?_
  obtain ⟨z1, h1, h⟩ := ob_some h
  refine k_z (va_runV (As := [.ref (q.2.1 i1)]) (rest := []) ⟨hx, hb, hml, hown, hts⟩ (c_X13_isWord (l := l) M a0 i1 k0 k1 h1) (cwV 1 hts gX13_eatsWord_X13_isWord rfl rfl rfl hdV_X13_isWord ⟨Nat.le_of_ble_eq_true rfl, Nat.le_of_ble_eq_true rfl⟩) (pV (T := TX13) hP hK hD hT hG hS k0 (by decide) rfl) rfl rfl hl.1 rfl (lv_room (Nat.le_of_ble_eq_true rfl)) dX13_eatsWord_2 ⟨Nat.zero_le _, Nat.zero_le _⟩) hS (fun H locs hz1 hP hD hT hS => ?_)
  refine lv_istore_n (lv' := [(2, .int z1), (0, .ref (ad a0)), (1, .ref (q.2.1 i1))]) hx hb dX13_eatsWord_5 rfl hl (by decide) rfl (fun ls hl => ?_)
  refine lv_iload_n hx hb dX13_eatsWord_6 rfl (lv_at hl 0 rfl) ?_
  refine lv_if_eq (tgt := 14) hx hb dX13_eatsWord_7 rfl (fun c2 => ?_) (fun c2 => ?_)
  · replace h := ite_t c2 h
    refine lv_iload_n hx hb dX13_eatsWord_14 rfl (lv_at hl 0 rfl) ?_
    have hZ := Option.some.inj h
    exact r_zret hx hb hr hlocks hP hK hD hT hG hS hz1 (congrArg Prod.fst hZ) (congrArg Prod.snd hZ) dX13_eatsWord_15
  · replace h := ite_f c2 h
    refine lv_aload_n hx hb dX13_eatsWord_10 rfl (lv_at hl 1 rfl) ?_
    obtain ⟨z3, h3, h⟩ := ob_some h
    refine k_v (va_runV (As := []) (rest := []) ⟨hx, hb, hml, hown, hts⟩ (c_X13_goesOn (l := l) M a0 k0 h3) (cwV 0 hts gX13_eatsWord_X13_goesOn rfl rfl rfl hdV_X13_goesOn ⟨Nat.le_of_ble_eq_true rfl, Nat.le_of_ble_eq_true rfl⟩) (pV (T := TX13) hP hK hD hT hG hS k0 (by decide) rfl) rfl rfl hl.1 rfl (lv_room (Nat.le_of_ble_eq_true rfl)) dX13_eatsWord_11 ⟨Nat.zero_le _, Nat.zero_le _⟩) hS (fun H locs hP hD hT hS => ?_)
    refine lv_iload_n hx hb dX13_eatsWord_14 rfl (lv_at hl 0 rfl) ?_
    have hZ := Option.some.inj h
    exact r_zret hx hb hr hlocks hP hK hD hT hG hS hz1 (congrArg Prod.fst hZ) (congrArg Prod.snd hZ) dX13_eatsWord_15
set_option maxHeartbeats 4000000 in
set_option maxRecDepth 100000 in
theorem c_X13_eatsSign {l : Launch} {D : va_G} {ad : Nat → Nat} {cy : Nat → ClassId} {A : Nat → Prop} {g : CG} {q : SE} (M : MM) (a0 : Nat) (x1 : Int32) (k0 : ok g a0 13 0) {Z : (Int32 × MM)} (h : f_X13_eatsSign M a0 x1 = some Z) : Met l yX13_eatsSign wsX13_eatsSign ({ frames := 2, cells := 0, slots := 0, locals := 43 }) (va_Pc [.ref (ad a0), .int x1] (Wd D ad cy A g q M)) (va_Qi (fun r u => r = Z.1 ∧ u = Z.2 ∧ zb r) (Wd D ad cy A g q) A) 0 0 A := by
  refine Met.ofW (cc := cX13_eatsSign) (maxL := 3) (ret := (some .boolean)) (by decide) rfl ?_
  intro p e s m args below meth c s₁ B hml hv
  obtain ⟨rfl, hP, hK, hD, hT, hG⟩ := hv
  have hx := B.exec
  have hb := B.bytes
  have hr := B.returns
  have hts := atoms_spec (ws := wsX13_eatsSign) B.pre
  have hown : s.vm.findClass RX13 = some m.cls := findClass_of_methodNamed B.named
  have hlocks := B.notSynchronized
  have in13 : ∀ w ∈ u_ws RX13 TX13 29, w ∈ wsX13_eatsSign := fun w h => List.mem_cons_of_mem _ (List.mem_append_right _ h)
  have hS : va_S A s.heap s.heap [] := va_S.rf
  have hl := lv_entry ([.ref (ad a0), .int x1]) (n := 3) (Nat.le_of_ble_eq_true rfl)
  rw [lg_entry_eq]
  generalize (lg_sl ([.ref (ad a0), .int x1]) ++ List.replicate (3 - (lg_sl ([.ref (ad a0), .int x1])).length) Slot.unset).toArray = ls at hl ⊢
  have hl : lv_has ls 3 [(0, .ref (ad a0)), (1, .int x1)] := hl
  unfold f_X13_eatsSign at h
  refine lv_aload_n hx hb dX13_eatsSign_0 rfl (lv_at hl 0 rfl) ?_
  refine r_get (T := TX13) (v := .int (gI M a0 9)) hx hb hts in13 hown hK hP k0 (by decide) rfl 9 (by decide) (hts (.fieldLink RX13 58 "StoneWalkModel" "sort" "I") (List.mem_of_getElem? (i := 1) (by decide +kernel))) rfl (t := 0) rfl rfl dX13_eatsSign_1 ?_
  refine lv_iconst (v := 4) hx hb dX13_eatsSign_4 rfl ?_
  refine lv_icmp_ne (tgt := 20) hx hb dX13_eatsSign_5 rfl (fun c1 => ?_) (fun c1 => ?_)
  · replace h := ite_f c1 h
    refine lv_iconst (v := 0) hx hb dX13_eatsSign_20 rfl ?_
    refine lv_istore_n (lv' := [(2, .int 0), (0, .ref (ad a0)), (1, .int x1)]) hx hb dX13_eatsSign_21 rfl hl (by decide) rfl (fun ls hl => ?_)
    refine lv_iload_n hx hb dX13_eatsSign_22 rfl (lv_at hl 0 rfl) ?_
    refine lv_if_eq (tgt := 30) hx hb dX13_eatsSign_23 rfl (fun _ => ?_) (fun c2 => absurd c2 (by decide))
    refine lv_iload_n hx hb dX13_eatsSign_30 rfl (lv_at hl 0 rfl) ?_
    have hZ := Option.some.inj h
    exact r_zret hx hb hr hlocks hP hK hD hT hG hS zb_0 (congrArg Prod.fst hZ) (congrArg Prod.snd hZ) dX13_eatsSign_31
  · replace h := ite_t c1 h
    refine lv_aload_n hx hb dX13_eatsSign_8 rfl (lv_at hl 0 rfl) ?_
    refine r_get (T := TX13) (v := .int (gI M a0 11)) hx hb hts in13 hown hK hP k0 (by decide) rfl 11 (by decide) (hts (.fieldLink RX13 70 "StoneWalkModel" "mark" "I") (List.mem_of_getElem? (i := 2) (by decide +kernel))) rfl (t := 0) rfl rfl dX13_eatsSign_9 ?_
    refine lv_iload_n hx hb dX13_eatsSign_12 rfl (lv_at hl 1 rfl) ?_
    refine lv_icmp_ne (tgt := 20) hx hb dX13_eatsSign_13 rfl (fun c3 => ?_) (fun c3 => ?_)
    · replace h := ite_f c3 h
      refine lv_iconst (v := 0) hx hb dX13_eatsSign_20 rfl ?_
      refine lv_istore_n (lv' := [(2, .int 0), (0, .ref (ad a0)), (1, .int x1)]) hx hb dX13_eatsSign_21 rfl hl (by decide) rfl (fun ls hl => ?_)
      refine lv_iload_n hx hb dX13_eatsSign_22 rfl (lv_at hl 0 rfl) ?_
      refine lv_if_eq (tgt := 30) hx hb dX13_eatsSign_23 rfl (fun _ => ?_) (fun c4 => absurd c4 (by decide))
      refine lv_iload_n hx hb dX13_eatsSign_30 rfl (lv_at hl 0 rfl) ?_
      have hZ := Option.some.inj h
      exact r_zret hx hb hr hlocks hP hK hD hT hG hS zb_0 (congrArg Prod.fst hZ) (congrArg Prod.snd hZ) dX13_eatsSign_31
    · replace h := ite_t c3 h
      refine lv_iconst (v := 1) hx hb dX13_eatsSign_16 rfl ?_
      refine lv_goto (tgt := 21) hx hb dX13_eatsSign_17 rfl ?_
      refine lv_istore_n (lv' := [(2, .int 1), (0, .ref (ad a0)), (1, .int x1)]) hx hb dX13_eatsSign_21 rfl hl (by decide) rfl (fun ls hl => ?_)
      refine lv_iload_n hx hb dX13_eatsSign_22 rfl (lv_at hl 0 rfl) ?_
      refine lv_if_eq (tgt := 30) hx hb dX13_eatsSign_23 rfl (fun c5 => absurd c5 (by decide)) (fun _ => ?_)
      refine lv_aload_n hx hb dX13_eatsSign_26 rfl (lv_at hl 1 rfl) ?_
      obtain ⟨z6, h6, h⟩ := ob_some h
      refine k_v (va_runV (As := []) (rest := []) ⟨hx, hb, hml, hown, hts⟩ (c_X13_goesOn (l := l) M a0 k0 h6) (cwV 0 hts gX13_eatsSign_X13_goesOn rfl rfl rfl hdV_X13_goesOn ⟨Nat.le_of_ble_eq_true rfl, Nat.le_of_ble_eq_true rfl⟩) (pV (T := TX13) hP hK hD hT hG hS k0 (by decide) rfl) rfl rfl hl.1 rfl (lv_room (Nat.le_of_ble_eq_true rfl)) dX13_eatsSign_27 ⟨Nat.zero_le _, Nat.zero_le _⟩) hS (fun H locs hP hD hT hS => ?_)
      refine lv_iload_n hx hb dX13_eatsSign_30 rfl (lv_at hl 0 rfl) ?_
      have hZ := Option.some.inj h
      exact r_zret hx hb hr hlocks hP hK hD hT hG hS zb_1 (congrArg Prod.fst hZ) (congrArg Prod.snd hZ) dX13_eatsSign_31
set_option maxHeartbeats 4000000 in
set_option maxRecDepth 100000 in
theorem c_X13_needs {l : Launch} {D : va_G} {ad : Nat → Nat} {cy : Nat → ClassId} {A : Nat → Prop} {g : CG} {q : SE} (M : MM) (a0 : Nat) (i1 : Nat) (k0 : ok g a0 13 0) (k1 : i1 < nS) {Z : MM} (h : f_X13_needs M a0 i1 = some Z) : Met l yX13_needs wsX13_needs ({ frames := 6, cells := 0, slots := 0, locals := 129 }) (va_Pc [.ref (ad a0), .ref (q.2.1 i1)] (Wd D ad cy A g q M)) (va_Qv (fun u => u = Z) (Wd D ad cy A g q) A) 0 0 A := by
  refine Met.ofW (cc := cX13_needs) (maxL := 2) (ret := none) (by decide) rfl ?_
  intro p e s m args below meth c s₁ B hml hv
  obtain ⟨rfl, hP, hK, hD, hT, hG⟩ := hv
  have hx := B.exec
  have hb := B.bytes
  have hr := B.returns
  have hts := atoms_spec (ws := wsX13_needs) B.pre
  have hown : s.vm.findClass RX13 = some m.cls := findClass_of_methodNamed B.named
  have hlocks := B.notSynchronized
  have hS : va_S A s.heap s.heap [] := va_S.rf
  have hl := lv_entry ([.ref (ad a0), .ref (q.2.1 i1)]) (n := 2) (Nat.le_of_ble_eq_true rfl)
  rw [lg_entry_eq]
  generalize (lg_sl ([.ref (ad a0), .ref (q.2.1 i1)]) ++ List.replicate (2 - (lg_sl ([.ref (ad a0), .ref (q.2.1 i1)])).length) Slot.unset).toArray = ls at hl ⊢
  have hl : lv_has ls 2 [(0, .ref (ad a0)), (1, .ref (q.2.1 i1))] := hl
  unfold f_X13_needs at h
  refine lv_aload_n hx hb dX13_needs_0 rfl (lv_at hl 0 rfl) ?_
  refine lv_aload_n hx hb dX13_needs_1 rfl (lv_at hl 1 rfl) ?_
  obtain ⟨z1, h1, h⟩ := ob_some h
  refine k_z (va_runV (As := [.ref (q.2.1 i1)]) (rest := []) ⟨hx, hb, hml, hown, hts⟩ (c_X13_isWord (l := l) M a0 i1 k0 k1 h1) (cwV 1 hts gX13_needs_X13_isWord rfl rfl rfl hdV_X13_isWord ⟨Nat.le_of_ble_eq_true rfl, Nat.le_of_ble_eq_true rfl⟩) (pV (T := TX13) hP hK hD hT hG hS k0 (by decide) rfl) rfl rfl hl.1 rfl (lv_room (Nat.le_of_ble_eq_true rfl)) dX13_needs_2 ⟨Nat.zero_le _, Nat.zero_le _⟩) hS (fun H locs hz1 hP hD hT hS => ?_)
  refine lv_if_ne (tgt := 13) hx hb dX13_needs_5 rfl (fun c2 => ?_) (fun c2 => ?_)
  · replace h := ite_f c2 h
    refine lv_aload_n hx hb dX13_needs_13 rfl (lv_at hl 0 rfl) ?_
    obtain ⟨z3, h3, h⟩ := ob_some h
    refine k_v (va_runV (As := []) (rest := []) ⟨hx, hb, hml, hown, hts⟩ (c_X13_goesOn (l := l) M a0 k0 h3) (cwV 0 hts gX13_needs_X13_goesOn rfl rfl rfl hdV_X13_goesOn ⟨Nat.le_of_ble_eq_true rfl, Nat.le_of_ble_eq_true rfl⟩) (pV (T := TX13) hP hK hD hT hG hS k0 (by decide) rfl) rfl rfl hl.1 rfl (lv_room (Nat.le_of_ble_eq_true rfl)) dX13_needs_14 ⟨Nat.zero_le _, Nat.zero_le _⟩) hS (fun H locs hP hD hT hS => ?_)
    exact r_vret hx hb hr hlocks hP hK hD hT hG hS (Option.some.inj h) dX13_needs_17
  · replace h := ite_t c2 h
    refine lv_aload_n hx hb dX13_needs_8 rfl (lv_at hl 0 rfl) ?_
    refine lv_iconst (v := 1) hx hb dX13_needs_9 rfl ?_
    obtain ⟨z4, h4, h⟩ := ob_some h
    refine k_v (va_runV (As := [.int 1]) (rest := []) ⟨hx, hb, hml, hown, hts⟩ (c_X13_wrong (l := l) M a0 1 k0 h4) (cwV 1 hts gX13_needs_X13_wrong rfl rfl rfl hdV_X13_wrong ⟨Nat.le_of_ble_eq_true rfl, Nat.le_of_ble_eq_true rfl⟩) (pV (T := TX13) hP hK hD hT hG hS k0 (by decide) rfl) rfl rfl hl.1 rfl (lv_room (Nat.le_of_ble_eq_true rfl)) dX13_needs_10 ⟨Nat.zero_le _, Nat.zero_le _⟩) hS (fun H locs hP hD hT hS => ?_)
    refine lv_aload_n hx hb dX13_needs_13 rfl (lv_at hl 0 rfl) ?_
    obtain ⟨z5, h5, h⟩ := ob_some h
    refine k_v (va_runV (As := []) (rest := []) ⟨hx, hb, hml, hown, hts⟩ (c_X13_goesOn (l := l) z4 a0 k0 h5) (cwV 0 hts gX13_needs_X13_goesOn rfl rfl rfl hdV_X13_goesOn ⟨Nat.le_of_ble_eq_true rfl, Nat.le_of_ble_eq_true rfl⟩) (pV (T := TX13) hP hK hD hT hG hS k0 (by decide) rfl) rfl rfl hl.1 rfl (lv_room (Nat.le_of_ble_eq_true rfl)) dX13_needs_14 ⟨Nat.zero_le _, Nat.zero_le _⟩) hS (fun H locs hP hD hT hS => ?_)
    exact r_vret hx hb hr hlocks hP hK hD hT hG hS (Option.some.inj h) dX13_needs_17
set_option maxHeartbeats 4000000 in
set_option maxRecDepth 100000 in
theorem c_X13_readWhole {l : Launch} {D : va_G} {ad : Nat → Nat} {cy : Nat → ClassId} {A : Nat → Prop} {g : CG} {q : SE} (M : MM) (a0 : Nat) (x1 : Int32) (x2 : Int32) (k0 : ok g a0 13 0) {Z : (Int32 × MM)} (h : f_X13_readWhole M a0 x1 x2 = some Z) : Met l yX13_readWhole wsX13_readWhole ({ frames := 2, cells := 0, slots := 0, locals := 43 }) (va_Pc [.ref (ad a0), .int x1, .int x2] (Wd D ad cy A g q M)) (va_Qi (fun r u => r = Z.1 ∧ u = Z.2) (Wd D ad cy A g q) A) 0 0 A := by
  refine Met.ofW (cc := cX13_readWhole) (maxL := 4) (ret := (some .int)) (by decide) rfl ?_
  intro p e s m args below meth c s₁ B hml hv
  obtain ⟨rfl, hP, hK, hD, hT, hG⟩ := hv
  have hx := B.exec
  have hb := B.bytes
  have hr := B.returns
  have hts := atoms_spec (ws := wsX13_readWhole) B.pre
  have hown : s.vm.findClass RX13 = some m.cls := findClass_of_methodNamed B.named
  have hlocks := B.notSynchronized
  have in13 : ∀ w ∈ u_ws RX13 TX13 29, w ∈ wsX13_readWhole := fun w h => List.mem_cons_of_mem _ (List.mem_append_right _ h)
  have hS : va_S A s.heap s.heap [] := va_S.rf
  have hl := lv_entry ([.ref (ad a0), .int x1, .int x2]) (n := 4) (Nat.le_of_ble_eq_true rfl)
  rw [lg_entry_eq]
  generalize (lg_sl ([.ref (ad a0), .int x1, .int x2]) ++ List.replicate (4 - (lg_sl ([.ref (ad a0), .int x1, .int x2])).length) Slot.unset).toArray = ls at hl ⊢
  have hl : lv_has ls 4 [(0, .ref (ad a0)), (1, .int x1), (2, .int x2)] := hl
  unfold f_X13_readWhole at h
  refine lv_aload_n hx hb dX13_readWhole_0 rfl (lv_at hl 0 rfl) ?_
  refine r_get (T := TX13) (v := .int (gI M a0 9)) hx hb hts in13 hown hK hP k0 (by decide) rfl 9 (by decide) (hts (.fieldLink RX13 58 "StoneWalkModel" "sort" "I") (List.mem_of_getElem? (i := 1) (by decide +kernel))) rfl (t := 0) rfl rfl dX13_readWhole_1 ?_
  refine lv_iconst (v := 3) hx hb dX13_readWhole_4 rfl ?_
  refine lv_icmp_eq (tgt := 16) hx hb dX13_readWhole_5 rfl (fun c1 => ?_) (fun c1 => ?_)
  · replace h := ite_t c1 h
    refine lv_aload_n hx hb dX13_readWhole_16 rfl (lv_at hl 0 rfl) ?_
    refine r_get (T := TX13) (v := .int (gI M a0 12)) hx hb hts in13 hown hK hP k0 (by decide) rfl 12 (by decide) (hts (.fieldLink RX13 84 "StoneWalkModel" "number" "I") (List.mem_of_getElem? (i := 2) (by decide +kernel))) rfl (t := 0) rfl rfl dX13_readWhole_17 ?_
    refine lv_iload_n hx hb dX13_readWhole_20 rfl (lv_at hl 1 rfl) ?_
    refine lv_iload_n hx hb dX13_readWhole_21 rfl (lv_at hl 2 rfl) ?_
    obtain ⟨z2, h2, h⟩ := ob_some h
    refine k_z (va_runS (As := [.int (gI M a0 12), .int x1, .int x2]) (rest := []) ⟨hx, hb, hml, hown, hts⟩ (c_X13_in (l := l) M (gI M a0 12) x1 x2 h2) (va_cwS 3 hts gX13_readWhole_X13_in rfl rfl rfl hdS_X13_in ⟨Nat.le_of_ble_eq_true rfl, Nat.le_of_ble_eq_true rfl⟩) (pS hP hK hD hT hG hS) rfl rfl hl.1 rfl (lv_room (Nat.le_of_ble_eq_true rfl)) dX13_readWhole_22 ⟨Nat.zero_le _, Nat.zero_le _⟩) hS (fun H locs hz2 hP hD hT hS => ?_)
    refine lv_if_ne (tgt := 33) hx hb dX13_readWhole_25 rfl (fun c3 => ?_) (fun c3 => ?_)
    · replace h := ite_f c3 h
      refine lv_aload_n hx hb dX13_readWhole_33 rfl (lv_at hl 0 rfl) ?_
      refine r_get (T := TX13) (v := .int (gI M a0 12)) hx hb hts in13 hown hK hP k0 (by decide) rfl 12 (by decide) (hts (.fieldLink RX13 84 "StoneWalkModel" "number" "I") (List.mem_of_getElem? (i := 2) (by decide +kernel))) rfl (t := 0) rfl rfl dX13_readWhole_34 ?_
      refine lv_istore_n (lv' := [(3, .int (gI M a0 12)), (0, .ref (ad a0)), (1, .int x1), (2, .int x2)]) hx hb dX13_readWhole_37 rfl hl (by decide) rfl (fun ls hl => ?_)
      refine lv_aload_n hx hb dX13_readWhole_38 rfl (lv_at hl 1 rfl) ?_
      obtain ⟨z4, h4, h⟩ := ob_some h
      refine k_v (va_runV (As := []) (rest := []) ⟨hx, hb, hml, hown, hts⟩ (c_X13_goesOn (l := l) M a0 k0 h4) (cwV 0 hts gX13_readWhole_X13_goesOn rfl rfl rfl hdV_X13_goesOn ⟨Nat.le_of_ble_eq_true rfl, Nat.le_of_ble_eq_true rfl⟩) (pV (T := TX13) hP hK hD hT hG hS k0 (by decide) rfl) rfl rfl hl.1 rfl (lv_room (Nat.le_of_ble_eq_true rfl)) dX13_readWhole_39 ⟨Nat.zero_le _, Nat.zero_le _⟩) hS (fun H locs hP hD hT hS => ?_)
      refine lv_iload_n hx hb dX13_readWhole_42 rfl (lv_at hl 0 rfl) ?_
      have hZ := Option.some.inj h
      exact r_iret hx hb hr hlocks hP hK hD hT hG hS (congrArg Prod.fst hZ) (congrArg Prod.snd hZ) dX13_readWhole_43
    · replace h := ite_t c3 h
      refine lv_aload_n hx hb dX13_readWhole_28 rfl (lv_at hl 0 rfl) ?_
      refine lv_iconst (v := 4) hx hb dX13_readWhole_29 rfl ?_
      obtain ⟨z5, h5, h⟩ := ob_some h
      refine k_v (va_runV (As := [.int 4]) (rest := []) ⟨hx, hb, hml, hown, hts⟩ (c_X13_wrong (l := l) M a0 4 k0 h5) (cwV 1 hts gX13_readWhole_X13_wrong rfl rfl rfl hdV_X13_wrong ⟨Nat.le_of_ble_eq_true rfl, Nat.le_of_ble_eq_true rfl⟩) (pV (T := TX13) hP hK hD hT hG hS k0 (by decide) rfl) rfl rfl hl.1 rfl (lv_room (Nat.le_of_ble_eq_true rfl)) dX13_readWhole_30 ⟨Nat.zero_le _, Nat.zero_le _⟩) hS (fun H locs hP hD hT hS => ?_)
      refine lv_aload_n hx hb dX13_readWhole_33 rfl (lv_at hl 0 rfl) ?_
      refine r_get (T := TX13) (v := .int (gI z5 a0 12)) hx hb hts in13 hown hK hP k0 (by decide) rfl 12 (by decide) (hts (.fieldLink RX13 84 "StoneWalkModel" "number" "I") (List.mem_of_getElem? (i := 2) (by decide +kernel))) rfl (t := 0) rfl rfl dX13_readWhole_34 ?_
      refine lv_istore_n (lv' := [(3, .int (gI z5 a0 12)), (0, .ref (ad a0)), (1, .int x1), (2, .int x2)]) hx hb dX13_readWhole_37 rfl hl (by decide) rfl (fun ls hl => ?_)
      refine lv_aload_n hx hb dX13_readWhole_38 rfl (lv_at hl 1 rfl) ?_
      obtain ⟨z6, h6, h⟩ := ob_some h
      refine k_v (va_runV (As := []) (rest := []) ⟨hx, hb, hml, hown, hts⟩ (c_X13_goesOn (l := l) z5 a0 k0 h6) (cwV 0 hts gX13_readWhole_X13_goesOn rfl rfl rfl hdV_X13_goesOn ⟨Nat.le_of_ble_eq_true rfl, Nat.le_of_ble_eq_true rfl⟩) (pV (T := TX13) hP hK hD hT hG hS k0 (by decide) rfl) rfl rfl hl.1 rfl (lv_room (Nat.le_of_ble_eq_true rfl)) dX13_readWhole_39 ⟨Nat.zero_le _, Nat.zero_le _⟩) hS (fun H locs hP hD hT hS => ?_)
      refine lv_iload_n hx hb dX13_readWhole_42 rfl (lv_at hl 0 rfl) ?_
      have hZ := Option.some.inj h
      exact r_iret hx hb hr hlocks hP hK hD hT hG hS (congrArg Prod.fst hZ) (congrArg Prod.snd hZ) dX13_readWhole_43
  · replace h := ite_f c1 h
    refine lv_aload_n hx hb dX13_readWhole_8 rfl (lv_at hl 0 rfl) ?_
    refine lv_iconst (v := 1) hx hb dX13_readWhole_9 rfl ?_
    obtain ⟨z7, h7, h⟩ := ob_some h
    refine k_v (va_runV (As := [.int 1]) (rest := []) ⟨hx, hb, hml, hown, hts⟩ (c_X13_wrong (l := l) M a0 1 k0 h7) (cwV 1 hts gX13_readWhole_X13_wrong rfl rfl rfl hdV_X13_wrong ⟨Nat.le_of_ble_eq_true rfl, Nat.le_of_ble_eq_true rfl⟩) (pV (T := TX13) hP hK hD hT hG hS k0 (by decide) rfl) rfl rfl hl.1 rfl (lv_room (Nat.le_of_ble_eq_true rfl)) dX13_readWhole_10 ⟨Nat.zero_le _, Nat.zero_le _⟩) hS (fun H locs hP hD hT hS => ?_)
    refine lv_goto (tgt := 33) hx hb dX13_readWhole_13 rfl ?_
    refine lv_aload_n hx hb dX13_readWhole_33 rfl (lv_at hl 0 rfl) ?_
    refine r_get (T := TX13) (v := .int (gI z7 a0 12)) hx hb hts in13 hown hK hP k0 (by decide) rfl 12 (by decide) (hts (.fieldLink RX13 84 "StoneWalkModel" "number" "I") (List.mem_of_getElem? (i := 2) (by decide +kernel))) rfl (t := 0) rfl rfl dX13_readWhole_34 ?_
    refine lv_istore_n (lv' := [(3, .int (gI z7 a0 12)), (0, .ref (ad a0)), (1, .int x1), (2, .int x2)]) hx hb dX13_readWhole_37 rfl hl (by decide) rfl (fun ls hl => ?_)
    refine lv_aload_n hx hb dX13_readWhole_38 rfl (lv_at hl 1 rfl) ?_
    obtain ⟨z8, h8, h⟩ := ob_some h
    refine k_v (va_runV (As := []) (rest := []) ⟨hx, hb, hml, hown, hts⟩ (c_X13_goesOn (l := l) z7 a0 k0 h8) (cwV 0 hts gX13_readWhole_X13_goesOn rfl rfl rfl hdV_X13_goesOn ⟨Nat.le_of_ble_eq_true rfl, Nat.le_of_ble_eq_true rfl⟩) (pV (T := TX13) hP hK hD hT hG hS k0 (by decide) rfl) rfl rfl hl.1 rfl (lv_room (Nat.le_of_ble_eq_true rfl)) dX13_readWhole_39 ⟨Nat.zero_le _, Nat.zero_le _⟩) hS (fun H locs hP hD hT hS => ?_)
    refine lv_iload_n hx hb dX13_readWhole_42 rfl (lv_at hl 0 rfl) ?_
    have hZ := Option.some.inj h
    exact r_iret hx hb hr hlocks hP hK hD hT hG hS (congrArg Prod.fst hZ) (congrArg Prod.snd hZ) dX13_readWhole_43
set_option maxHeartbeats 4000000 in
set_option maxRecDepth 100000 in
theorem c_X13_readPart {l : Launch} {D : va_G} {ad : Nat → Nat} {cy : Nat → ClassId} {A : Nat → Prop} {g : CG} {q : SE} (M : MM) (a0 : Nat) (i1 : Nat) (x2 : Int32) (x3 : Int32) (k0 : ok g a0 13 0) (k1 : i1 < nS) {Z : (Int32 × MM)} (h : f_X13_readPart M a0 i1 x2 x3 = some Z) : Met l yX13_readPart wsX13_readPart ({ frames := 7, cells := 0, slots := 0, locals := 150 }) (va_Pc [.ref (ad a0), .ref (q.2.1 i1), .int x2, .int x3] (Wd D ad cy A g q M)) (va_Qi (fun r u => r = Z.1 ∧ u = Z.2) (Wd D ad cy A g q) A) 0 0 A := by
  refine Met.ofW (cc := cX13_readPart) (maxL := 4) (ret := (some .int)) (by decide) rfl ?_
  intro p e s m args below meth c s₁ B hml hv
  obtain ⟨rfl, hP, hK, hD, hT, hG⟩ := hv
  have hx := B.exec
  have hb := B.bytes
  have hr := B.returns
  have hts := atoms_spec (ws := wsX13_readPart) B.pre
  have hown : s.vm.findClass RX13 = some m.cls := findClass_of_methodNamed B.named
  have hlocks := B.notSynchronized
  have hS : va_S A s.heap s.heap [] := va_S.rf
  have hl := lv_entry ([.ref (ad a0), .ref (q.2.1 i1), .int x2, .int x3]) (n := 4) (Nat.le_of_ble_eq_true rfl)
  rw [lg_entry_eq]
  generalize (lg_sl ([.ref (ad a0), .ref (q.2.1 i1), .int x2, .int x3]) ++ List.replicate (4 - (lg_sl ([.ref (ad a0), .ref (q.2.1 i1), .int x2, .int x3])).length) Slot.unset).toArray = ls at hl ⊢
  have hl : lv_has ls 4 [(0, .ref (ad a0)), (1, .ref (q.2.1 i1)), (2, .int x2), (3, .int x3)] := hl
  unfold f_X13_readPart at h
  refine lv_aload_n hx hb dX13_readPart_0 rfl (lv_at hl 0 rfl) ?_
  refine lv_aload_n hx hb dX13_readPart_1 rfl (lv_at hl 1 rfl) ?_
  obtain ⟨z1, h1, h⟩ := ob_some h
  refine k_v (va_runV (As := [.ref (q.2.1 i1)]) (rest := []) ⟨hx, hb, hml, hown, hts⟩ (c_X13_needs (l := l) M a0 i1 k0 k1 h1) (cwV 1 hts gX13_readPart_X13_needs rfl rfl rfl hdV_X13_needs ⟨Nat.le_of_ble_eq_true rfl, Nat.le_of_ble_eq_true rfl⟩) (pV (T := TX13) hP hK hD hT hG hS k0 (by decide) rfl) rfl rfl hl.1 rfl (lv_room (Nat.le_of_ble_eq_true rfl)) dX13_readPart_2 ⟨Nat.zero_le _, Nat.zero_le _⟩) hS (fun H locs hP hD hT hS => ?_)
  refine lv_aload_n hx hb dX13_readPart_5 rfl (lv_at hl 0 rfl) ?_
  refine lv_iload_n hx hb dX13_readPart_6 rfl (lv_at hl 2 rfl) ?_
  refine lv_iload_n hx hb dX13_readPart_7 rfl (lv_at hl 3 rfl) ?_
  obtain ⟨z2, h2, h⟩ := ob_some h
  refine k_i (va_runV (As := [.int x2, .int x3]) (rest := []) ⟨hx, hb, hml, hown, hts⟩ (c_X13_readWhole (l := l) z1 a0 x2 x3 k0 h2) (cwV 2 hts gX13_readPart_X13_readWhole rfl rfl rfl hdV_X13_readWhole ⟨Nat.le_of_ble_eq_true rfl, Nat.le_of_ble_eq_true rfl⟩) (pV (T := TX13) hP hK hD hT hG hS k0 (by decide) rfl) rfl rfl hl.1 rfl (lv_room (Nat.le_of_ble_eq_true rfl)) dX13_readPart_8 ⟨Nat.zero_le _, Nat.zero_le _⟩) hS (fun H locs hP hD hT hS => ?_)
  have hZ := Option.some.inj h
  exact r_iret hx hb hr hlocks hP hK hD hT hG hS (congrArg Prod.fst hZ) (congrArg Prod.snd hZ) dX13_readPart_11
set_option maxHeartbeats 4000000 in
set_option maxRecDepth 100000 in
theorem c_X13_isName {l : Launch} {D : va_G} {ad : Nat → Nat} {cy : Nat → ClassId} {A : Nat → Prop} {g : CG} {q : SE} (M : MM) (a0 : Nat) (k0 : ok g a0 13 0) {Z : Int32} (h : f_X13_isName M a0 = some Z) : Met l yX13_isName wsX13_isName ({ frames := 6, cells := 0, slots := 0, locals := 129 }) (va_Pc [.ref (ad a0)] (Wd D ad cy A g q M)) (va_Qi (fun r u => r = Z ∧ u = M ∧ zb r) (Wd D ad cy A g q) A) 0 0 A := by
  refine Met.ofW (cc := cX13_isName) (maxL := 1) (ret := (some .boolean)) (by decide) rfl ?_
  intro p e s m args below meth c s₁ B hml hv
  obtain ⟨rfl, hP, hK, hD, hT, hG⟩ := hv
  have hx := B.exec
  have hb := B.bytes
  have hr := B.returns
  have hts := atoms_spec (ws := wsX13_isName) B.pre
  have hown : s.vm.findClass RX13 = some m.cls := findClass_of_methodNamed B.named
  have hlocks := B.notSynchronized
  have in13 : ∀ w ∈ u_ws RX13 TX13 29, w ∈ wsX13_isName := fun w h => List.mem_cons_of_mem _ (List.mem_append_right _ h)
  have hS : va_S A s.heap s.heap [] := va_S.rf
  have hl := lv_entry ([.ref (ad a0)]) (n := 1) (Nat.le_of_ble_eq_true rfl)
  rw [lg_entry_eq]
  generalize (lg_sl ([.ref (ad a0)]) ++ List.replicate (1 - (lg_sl ([.ref (ad a0)])).length) Slot.unset).toArray = ls at hl ⊢
  have hl : lv_has ls 1 [(0, .ref (ad a0))] := hl
  unfold f_X13_isName at h
  refine lv_aload_n hx hb dX13_isName_0 rfl (lv_at hl 0 rfl) ?_
  refine r_get (T := TX13) (v := .int (gI M a0 9)) hx hb hts in13 hown hK hP k0 (by decide) rfl 9 (by decide) (hts (.fieldLink RX13 58 "StoneWalkModel" "sort" "I") (List.mem_of_getElem? (i := 1) (by decide +kernel))) rfl (t := 0) rfl rfl dX13_isName_1 ?_
  refine lv_iconst (v := 2) hx hb dX13_isName_4 rfl ?_
  refine lv_icmp_ne (tgt := 71) hx hb dX13_isName_5 rfl (fun c1 => ?_) (fun c1 => ?_)
  · replace h := ite_f c1 h
    refine lv_iconst (v := 0) hx hb dX13_isName_71 rfl ?_
    exact r_zret hx hb hr hlocks hP hK hD hT hG hS zb_0 (Option.some.inj h) rfl dX13_isName_72
  · replace h := ite_t c1 h
    refine lv_aload_n hx hb dX13_isName_8 rfl (lv_at hl 0 rfl) ?_
    refine r_ldcS (tx := "way") (i := 30) hx hb hG hown (by decide +kernel) dX13_isName_9 ?_
    obtain ⟨z2, h2, h⟩ := ob_some h
    refine k_z (va_runV (As := [.ref (q.2.1 30)]) (rest := []) ⟨hx, hb, hml, hown, hts⟩ (c_X13_isWord (l := l) M a0 30 k0 (by decide) h2) (cwV 1 hts gX13_isName_X13_isWord rfl rfl rfl hdV_X13_isWord ⟨Nat.le_of_ble_eq_true rfl, Nat.le_of_ble_eq_true rfl⟩) (pV (T := TX13) hP hK hD hT hG hS k0 (by decide) rfl) rfl rfl hl.1 rfl (lv_room (Nat.le_of_ble_eq_true rfl)) dX13_isName_11 ⟨Nat.zero_le _, Nat.zero_le _⟩) hS (fun H locs hz2 hP hD hT hS => ?_)
    refine lv_if_ne (tgt := 71) hx hb dX13_isName_14 rfl (fun c3 => ?_) (fun c3 => ?_)
    · replace h := ite_f c3 h
      refine lv_iconst (v := 0) hx hb dX13_isName_71 rfl ?_
      exact r_zret hx hb hr hlocks hP hK hD hT hG hS zb_0 (Option.some.inj h) rfl dX13_isName_72
    · replace h := ite_t c3 h
      refine lv_aload_n hx hb dX13_isName_17 rfl (lv_at hl 0 rfl) ?_
      refine r_ldcS (tx := "road") (i := 31) hx hb hG hown (by decide +kernel) dX13_isName_18 ?_
      obtain ⟨z4, h4, h⟩ := ob_some h
      refine k_z (va_runV (As := [.ref (q.2.1 31)]) (rest := []) ⟨hx, hb, hml, hown, hts⟩ (c_X13_isWord (l := l) M a0 31 k0 (by decide) h4) (cwV 1 hts gX13_isName_X13_isWord rfl rfl rfl hdV_X13_isWord ⟨Nat.le_of_ble_eq_true rfl, Nat.le_of_ble_eq_true rfl⟩) (pV (T := TX13) hP hK hD hT hG hS k0 (by decide) rfl) rfl rfl hl.1 rfl (lv_room (Nat.le_of_ble_eq_true rfl)) dX13_isName_20 ⟨Nat.zero_le _, Nat.zero_le _⟩) hS (fun H locs hz4 hP hD hT hS => ?_)
      refine lv_if_ne (tgt := 71) hx hb dX13_isName_23 rfl (fun c5 => ?_) (fun c5 => ?_)
      · replace h := ite_f c5 h
        refine lv_iconst (v := 0) hx hb dX13_isName_71 rfl ?_
        exact r_zret hx hb hr hlocks hP hK hD hT hG hS zb_0 (Option.some.inj h) rfl dX13_isName_72
      · replace h := ite_t c5 h
        refine lv_aload_n hx hb dX13_isName_26 rfl (lv_at hl 0 rfl) ?_
        refine r_ldcS (tx := "statue") (i := 32) hx hb hG hown (by decide +kernel) dX13_isName_27 ?_
        obtain ⟨z6, h6, h⟩ := ob_some h
        refine k_z (va_runV (As := [.ref (q.2.1 32)]) (rest := []) ⟨hx, hb, hml, hown, hts⟩ (c_X13_isWord (l := l) M a0 32 k0 (by decide) h6) (cwV 1 hts gX13_isName_X13_isWord rfl rfl rfl hdV_X13_isWord ⟨Nat.le_of_ble_eq_true rfl, Nat.le_of_ble_eq_true rfl⟩) (pV (T := TX13) hP hK hD hT hG hS k0 (by decide) rfl) rfl rfl hl.1 rfl (lv_room (Nat.le_of_ble_eq_true rfl)) dX13_isName_29 ⟨Nat.zero_le _, Nat.zero_le _⟩) hS (fun H locs hz6 hP hD hT hS => ?_)
        refine lv_if_ne (tgt := 71) hx hb dX13_isName_32 rfl (fun c7 => ?_) (fun c7 => ?_)
        · replace h := ite_f c7 h
          refine lv_iconst (v := 0) hx hb dX13_isName_71 rfl ?_
          exact r_zret hx hb hr hlocks hP hK hD hT hG hS zb_0 (Option.some.inj h) rfl dX13_isName_72
        · replace h := ite_t c7 h
          refine lv_aload_n hx hb dX13_isName_35 rfl (lv_at hl 0 rfl) ?_
          refine r_ldcS (tx := "trial") (i := 33) hx hb hG hown (by decide +kernel) dX13_isName_36 ?_
          obtain ⟨z8, h8, h⟩ := ob_some h
          refine k_z (va_runV (As := [.ref (q.2.1 33)]) (rest := []) ⟨hx, hb, hml, hown, hts⟩ (c_X13_isWord (l := l) M a0 33 k0 (by decide) h8) (cwV 1 hts gX13_isName_X13_isWord rfl rfl rfl hdV_X13_isWord ⟨Nat.le_of_ble_eq_true rfl, Nat.le_of_ble_eq_true rfl⟩) (pV (T := TX13) hP hK hD hT hG hS k0 (by decide) rfl) rfl rfl hl.1 rfl (lv_room (Nat.le_of_ble_eq_true rfl)) dX13_isName_38 ⟨Nat.zero_le _, Nat.zero_le _⟩) hS (fun H locs hz8 hP hD hT hS => ?_)
          refine lv_if_ne (tgt := 71) hx hb dX13_isName_41 rfl (fun c9 => ?_) (fun c9 => ?_)
          · replace h := ite_f c9 h
            refine lv_iconst (v := 0) hx hb dX13_isName_71 rfl ?_
            exact r_zret hx hb hr hlocks hP hK hD hT hG hS zb_0 (Option.some.inj h) rfl dX13_isName_72
          · replace h := ite_t c9 h
            refine lv_aload_n hx hb dX13_isName_44 rfl (lv_at hl 0 rfl) ?_
            refine r_ldcS (tx := "land") (i := 34) hx hb hG hown (by decide +kernel) dX13_isName_45 ?_
            obtain ⟨z10, h10, h⟩ := ob_some h
            refine k_z (va_runV (As := [.ref (q.2.1 34)]) (rest := []) ⟨hx, hb, hml, hown, hts⟩ (c_X13_isWord (l := l) M a0 34 k0 (by decide) h10) (cwV 1 hts gX13_isName_X13_isWord rfl rfl rfl hdV_X13_isWord ⟨Nat.le_of_ble_eq_true rfl, Nat.le_of_ble_eq_true rfl⟩) (pV (T := TX13) hP hK hD hT hG hS k0 (by decide) rfl) rfl rfl hl.1 rfl (lv_room (Nat.le_of_ble_eq_true rfl)) dX13_isName_47 ⟨Nat.zero_le _, Nat.zero_le _⟩) hS (fun H locs hz10 hP hD hT hS => ?_)
            refine lv_if_ne (tgt := 71) hx hb dX13_isName_50 rfl (fun c11 => ?_) (fun c11 => ?_)
            · replace h := ite_f c11 h
              refine lv_iconst (v := 0) hx hb dX13_isName_71 rfl ?_
              exact r_zret hx hb hr hlocks hP hK hD hT hG hS zb_0 (Option.some.inj h) rfl dX13_isName_72
            · replace h := ite_t c11 h
              refine lv_aload_n hx hb dX13_isName_53 rfl (lv_at hl 0 rfl) ?_
              refine r_ldcS (tx := "fields") (i := 35) hx hb hG hown (by decide +kernel) dX13_isName_54 ?_
              obtain ⟨z12, h12, h⟩ := ob_some h
              refine k_z (va_runV (As := [.ref (q.2.1 35)]) (rest := []) ⟨hx, hb, hml, hown, hts⟩ (c_X13_isWord (l := l) M a0 35 k0 (by decide) h12) (cwV 1 hts gX13_isName_X13_isWord rfl rfl rfl hdV_X13_isWord ⟨Nat.le_of_ble_eq_true rfl, Nat.le_of_ble_eq_true rfl⟩) (pV (T := TX13) hP hK hD hT hG hS k0 (by decide) rfl) rfl rfl hl.1 rfl (lv_room (Nat.le_of_ble_eq_true rfl)) dX13_isName_56 ⟨Nat.zero_le _, Nat.zero_le _⟩) hS (fun H locs hz12 hP hD hT hS => ?_)
              refine lv_if_ne (tgt := 71) hx hb dX13_isName_59 rfl (fun c13 => ?_) (fun c13 => ?_)
              · replace h := ite_f c13 h
                refine lv_iconst (v := 0) hx hb dX13_isName_71 rfl ?_
                exact r_zret hx hb hr hlocks hP hK hD hT hG hS zb_0 (Option.some.inj h) rfl dX13_isName_72
              · replace h := ite_t c13 h
                refine lv_aload_n hx hb dX13_isName_62 rfl (lv_at hl 0 rfl) ?_
                refine r_ldcS (tx := "houses") (i := 36) hx hb hG hown (by decide +kernel) dX13_isName_63 ?_
                obtain ⟨z14, h14, h⟩ := ob_some h
                refine k_z (va_runV (As := [.ref (q.2.1 36)]) (rest := []) ⟨hx, hb, hml, hown, hts⟩ (c_X13_isWord (l := l) M a0 36 k0 (by decide) h14) (cwV 1 hts gX13_isName_X13_isWord rfl rfl rfl hdV_X13_isWord ⟨Nat.le_of_ble_eq_true rfl, Nat.le_of_ble_eq_true rfl⟩) (pV (T := TX13) hP hK hD hT hG hS k0 (by decide) rfl) rfl rfl hl.1 rfl (lv_room (Nat.le_of_ble_eq_true rfl)) dX13_isName_65 ⟨Nat.zero_le _, Nat.zero_le _⟩) hS (fun H locs hz14 hP hD hT hS => ?_)
                refine lv_if_eq (tgt := 73) hx hb dX13_isName_68 rfl (fun c15 => ?_) (fun c15 => ?_)
                · replace h := ite_t c15 h
                  refine lv_aload_n hx hb dX13_isName_73 rfl (lv_at hl 0 rfl) ?_
                  refine r_ldcS (tx := "story") (i := 37) hx hb hG hown (by decide +kernel) dX13_isName_74 ?_
                  obtain ⟨z16, h16, h⟩ := ob_some h
                  refine k_z (va_runV (As := [.ref (q.2.1 37)]) (rest := []) ⟨hx, hb, hml, hown, hts⟩ (c_X13_isWord (l := l) M a0 37 k0 (by decide) h16) (cwV 1 hts gX13_isName_X13_isWord rfl rfl rfl hdV_X13_isWord ⟨Nat.le_of_ble_eq_true rfl, Nat.le_of_ble_eq_true rfl⟩) (pV (T := TX13) hP hK hD hT hG hS k0 (by decide) rfl) rfl rfl hl.1 rfl (lv_room (Nat.le_of_ble_eq_true rfl)) dX13_isName_76 ⟨Nat.zero_le _, Nat.zero_le _⟩) hS (fun H locs hz16 hP hD hT hS => ?_)
                  refine lv_if_ne (tgt := 131) hx hb dX13_isName_79 rfl (fun c17 => ?_) (fun c17 => ?_)
                  · replace h := ite_f c17 h
                    refine lv_iconst (v := 0) hx hb dX13_isName_131 rfl ?_
                    exact r_zret hx hb hr hlocks hP hK hD hT hG hS zb_0 (Option.some.inj h) rfl dX13_isName_132
                  · replace h := ite_t c17 h
                    refine lv_aload_n hx hb dX13_isName_82 rfl (lv_at hl 0 rfl) ?_
                    refine r_ldcS (tx := "teller") (i := 38) hx hb hG hown (by decide +kernel) dX13_isName_83 ?_
                    obtain ⟨z18, h18, h⟩ := ob_some h
                    refine k_z (va_runV (As := [.ref (q.2.1 38)]) (rest := []) ⟨hx, hb, hml, hown, hts⟩ (c_X13_isWord (l := l) M a0 38 k0 (by decide) h18) (cwV 1 hts gX13_isName_X13_isWord rfl rfl rfl hdV_X13_isWord ⟨Nat.le_of_ble_eq_true rfl, Nat.le_of_ble_eq_true rfl⟩) (pV (T := TX13) hP hK hD hT hG hS k0 (by decide) rfl) rfl rfl hl.1 rfl (lv_room (Nat.le_of_ble_eq_true rfl)) dX13_isName_85 ⟨Nat.zero_le _, Nat.zero_le _⟩) hS (fun H locs hz18 hP hD hT hS => ?_)
                    refine lv_if_ne (tgt := 131) hx hb dX13_isName_88 rfl (fun c19 => ?_) (fun c19 => ?_)
                    · replace h := ite_f c19 h
                      refine lv_iconst (v := 0) hx hb dX13_isName_131 rfl ?_
                      exact r_zret hx hb hr hlocks hP hK hD hT hG hS zb_0 (Option.some.inj h) rfl dX13_isName_132
                    · replace h := ite_t c19 h
                      refine lv_aload_n hx hb dX13_isName_91 rfl (lv_at hl 0 rfl) ?_
                      refine r_ldcS (tx := "try") (i := 39) hx hb hG hown (by decide +kernel) dX13_isName_92 ?_
                      obtain ⟨z20, h20, h⟩ := ob_some h
                      refine k_z (va_runV (As := [.ref (q.2.1 39)]) (rest := []) ⟨hx, hb, hml, hown, hts⟩ (c_X13_isWord (l := l) M a0 39 k0 (by decide) h20) (cwV 1 hts gX13_isName_X13_isWord rfl rfl rfl hdV_X13_isWord ⟨Nat.le_of_ble_eq_true rfl, Nat.le_of_ble_eq_true rfl⟩) (pV (T := TX13) hP hK hD hT hG hS k0 (by decide) rfl) rfl rfl hl.1 rfl (lv_room (Nat.le_of_ble_eq_true rfl)) dX13_isName_94 ⟨Nat.zero_le _, Nat.zero_le _⟩) hS (fun H locs hz20 hP hD hT hS => ?_)
                      refine lv_if_ne (tgt := 131) hx hb dX13_isName_97 rfl (fun c21 => ?_) (fun c21 => ?_)
                      · replace h := ite_f c21 h
                        refine lv_iconst (v := 0) hx hb dX13_isName_131 rfl ?_
                        exact r_zret hx hb hr hlocks hP hK hD hT hG hS zb_0 (Option.some.inj h) rfl dX13_isName_132
                      · replace h := ite_t c21 h
                        refine lv_aload_n hx hb dX13_isName_100 rfl (lv_at hl 0 rfl) ?_
                        refine r_ldcS (tx := "up") (i := 40) hx hb hG hown (by decide +kernel) dX13_isName_101 ?_
                        obtain ⟨z22, h22, h⟩ := ob_some h
                        refine k_z (va_runV (As := [.ref (q.2.1 40)]) (rest := []) ⟨hx, hb, hml, hown, hts⟩ (c_X13_isWord (l := l) M a0 40 k0 (by decide) h22) (cwV 1 hts gX13_isName_X13_isWord rfl rfl rfl hdV_X13_isWord ⟨Nat.le_of_ble_eq_true rfl, Nat.le_of_ble_eq_true rfl⟩) (pV (T := TX13) hP hK hD hT hG hS k0 (by decide) rfl) rfl rfl hl.1 rfl (lv_room (Nat.le_of_ble_eq_true rfl)) dX13_isName_103 ⟨Nat.zero_le _, Nat.zero_le _⟩) hS (fun H locs hz22 hP hD hT hS => ?_)
                        refine lv_if_ne (tgt := 131) hx hb dX13_isName_106 rfl (fun c23 => ?_) (fun c23 => ?_)
                        · replace h := ite_f c23 h
                          refine lv_iconst (v := 0) hx hb dX13_isName_131 rfl ?_
                          exact r_zret hx hb hr hlocks hP hK hD hT hG hS zb_0 (Option.some.inj h) rfl dX13_isName_132
                        · replace h := ite_t c23 h
                          refine lv_aload_n hx hb dX13_isName_109 rfl (lv_at hl 0 rfl) ?_
                          refine r_ldcS (tx := "down") (i := 41) hx hb hG hown (by decide +kernel) dX13_isName_110 ?_
                          obtain ⟨z24, h24, h⟩ := ob_some h
                          refine k_z (va_runV (As := [.ref (q.2.1 41)]) (rest := []) ⟨hx, hb, hml, hown, hts⟩ (c_X13_isWord (l := l) M a0 41 k0 (by decide) h24) (cwV 1 hts gX13_isName_X13_isWord rfl rfl rfl hdV_X13_isWord ⟨Nat.le_of_ble_eq_true rfl, Nat.le_of_ble_eq_true rfl⟩) (pV (T := TX13) hP hK hD hT hG hS k0 (by decide) rfl) rfl rfl hl.1 rfl (lv_room (Nat.le_of_ble_eq_true rfl)) dX13_isName_112 ⟨Nat.zero_le _, Nat.zero_le _⟩) hS (fun H locs hz24 hP hD hT hS => ?_)
                          refine lv_if_ne (tgt := 131) hx hb dX13_isName_115 rfl (fun c25 => ?_) (fun c25 => ?_)
                          · replace h := ite_f c25 h
                            refine lv_iconst (v := 0) hx hb dX13_isName_131 rfl ?_
                            exact r_zret hx hb hr hlocks hP hK hD hT hG hS zb_0 (Option.some.inj h) rfl dX13_isName_132
                          · replace h := ite_t c25 h
                            refine lv_aload_n hx hb dX13_isName_118 rfl (lv_at hl 0 rfl) ?_
                            refine r_ldcS (tx := "stranger") (i := 23) hx hb hG hown (by decide +kernel) dX13_isName_119 ?_
                            obtain ⟨z26, h26, h⟩ := ob_some h
                            refine k_z (va_runV (As := [.ref (q.2.1 23)]) (rest := []) ⟨hx, hb, hml, hown, hts⟩ (c_X13_isWord (l := l) M a0 23 k0 (by decide) h26) (cwV 1 hts gX13_isName_X13_isWord rfl rfl rfl hdV_X13_isWord ⟨Nat.le_of_ble_eq_true rfl, Nat.le_of_ble_eq_true rfl⟩) (pV (T := TX13) hP hK hD hT hG hS k0 (by decide) rfl) rfl rfl hl.1 rfl (lv_room (Nat.le_of_ble_eq_true rfl)) dX13_isName_121 ⟨Nat.zero_le _, Nat.zero_le _⟩) hS (fun H locs hz26 hP hD hT hS => ?_)
                            refine lv_if_ne (tgt := 131) hx hb dX13_isName_124 rfl (fun c27 => ?_) (fun c27 => ?_)
                            · replace h := ite_f c27 h
                              refine lv_iconst (v := 0) hx hb dX13_isName_131 rfl ?_
                              exact r_zret hx hb hr hlocks hP hK hD hT hG hS zb_0 (Option.some.inj h) rfl dX13_isName_132
                            · replace h := ite_t c27 h
                              refine lv_iconst (v := 1) hx hb dX13_isName_127 rfl ?_
                              refine lv_goto (tgt := 132) hx hb dX13_isName_128 rfl ?_
                              exact r_zret hx hb hr hlocks hP hK hD hT hG hS zb_1 (Option.some.inj h) rfl dX13_isName_132
                · replace h := ite_f c15 h
                  refine lv_iconst (v := 0) hx hb dX13_isName_71 rfl ?_
                  exact r_zret hx hb hr hlocks hP hK hD hT hG hS zb_0 (Option.some.inj h) rfl dX13_isName_72
set_option maxHeartbeats 4000000 in
set_option maxRecDepth 100000 in
theorem c_X13_begins {l : Launch} {D : va_G} {ad : Nat → Nat} {cy : Nat → ClassId} {A : Nat → Prop} {g : CG} {q : SE} (M : MM) (a0 : Nat) (x1 : Int32) (x2 : Int32) (k0 : ok g a0 13 0) {Z : MM} (h : f_X13_begins M a0 x1 x2 = some Z) : Met l yX13_begins wsX13_begins ({ frames := 2, cells := 0, slots := 0, locals := 43 }) (va_Pc [.ref (ad a0), .int x1, .int x2] (Wd D ad cy A g q M)) (va_Qv (fun u => u = Z) (Wd D ad cy A g q) A) 0 0 A := by
  refine Met.ofW (cc := cX13_begins) (maxL := 3) (ret := none) (by decide) rfl ?_
  intro p e s m args below meth c s₁ B hml hv
  obtain ⟨rfl, hP, hK, hD, hT, hG⟩ := hv
  have hx := B.exec
  have hb := B.bytes
  have hr := B.returns
  have hts := atoms_spec (ws := wsX13_begins) B.pre
  have hown : s.vm.findClass RX13 = some m.cls := findClass_of_methodNamed B.named
  have hlocks := B.notSynchronized
  have hS : va_S A s.heap s.heap [] := va_S.rf
  have hl := lv_entry ([.ref (ad a0), .int x1, .int x2]) (n := 3) (Nat.le_of_ble_eq_true rfl)
  rw [lg_entry_eq]
  generalize (lg_sl ([.ref (ad a0), .int x1, .int x2]) ++ List.replicate (3 - (lg_sl ([.ref (ad a0), .int x1, .int x2])).length) Slot.unset).toArray = ls at hl ⊢
  have hl : lv_has ls 3 [(0, .ref (ad a0)), (1, .int x1), (2, .int x2)] := hl
  unfold f_X13_begins at h
  refine lv_iload_n hx hb dX13_begins_0 rfl (lv_at hl 1 rfl) ?_
  refine lv_iload_n hx hb dX13_begins_1 rfl (lv_at hl 2 rfl) ?_
  refine lv_icmp_ne (tgt := 10) hx hb dX13_begins_2 rfl (fun c1 => ?_) (fun c1 => ?_)
  · replace h := ite_f c1 h
    refine lv_aload_n hx hb dX13_begins_10 rfl (lv_at hl 0 rfl) ?_
    obtain ⟨z2, h2, h⟩ := ob_some h
    refine k_v (va_runV (As := []) (rest := []) ⟨hx, hb, hml, hown, hts⟩ (c_X13_goesOn (l := l) M a0 k0 h2) (cwV 0 hts gX13_begins_X13_goesOn rfl rfl rfl hdV_X13_goesOn ⟨Nat.le_of_ble_eq_true rfl, Nat.le_of_ble_eq_true rfl⟩) (pV (T := TX13) hP hK hD hT hG hS k0 (by decide) rfl) rfl rfl hl.1 rfl (lv_room (Nat.le_of_ble_eq_true rfl)) dX13_begins_11 ⟨Nat.zero_le _, Nat.zero_le _⟩) hS (fun H locs hP hD hT hS => ?_)
    exact r_vret hx hb hr hlocks hP hK hD hT hG hS (Option.some.inj h) dX13_begins_14
  · replace h := ite_t c1 h
    refine lv_aload_n hx hb dX13_begins_5 rfl (lv_at hl 0 rfl) ?_
    refine lv_iconst (v := 5) hx hb dX13_begins_6 rfl ?_
    obtain ⟨z3, h3, h⟩ := ob_some h
    refine k_v (va_runV (As := [.int 5]) (rest := []) ⟨hx, hb, hml, hown, hts⟩ (c_X13_wrong (l := l) M a0 5 k0 h3) (cwV 1 hts gX13_begins_X13_wrong rfl rfl rfl hdV_X13_wrong ⟨Nat.le_of_ble_eq_true rfl, Nat.le_of_ble_eq_true rfl⟩) (pV (T := TX13) hP hK hD hT hG hS k0 (by decide) rfl) rfl rfl hl.1 rfl (lv_room (Nat.le_of_ble_eq_true rfl)) dX13_begins_7 ⟨Nat.zero_le _, Nat.zero_le _⟩) hS (fun H locs hP hD hT hS => ?_)
    refine lv_aload_n hx hb dX13_begins_10 rfl (lv_at hl 0 rfl) ?_
    obtain ⟨z4, h4, h⟩ := ob_some h
    refine k_v (va_runV (As := []) (rest := []) ⟨hx, hb, hml, hown, hts⟩ (c_X13_goesOn (l := l) z3 a0 k0 h4) (cwV 0 hts gX13_begins_X13_goesOn rfl rfl rfl hdV_X13_goesOn ⟨Nat.le_of_ble_eq_true rfl, Nat.le_of_ble_eq_true rfl⟩) (pV (T := TX13) hP hK hD hT hG hS k0 (by decide) rfl) rfl rfl hl.1 rfl (lv_room (Nat.le_of_ble_eq_true rfl)) dX13_begins_11 ⟨Nat.zero_le _, Nat.zero_le _⟩) hS (fun H locs hP hD hT hS => ?_)
    exact r_vret hx hb hr hlocks hP hK hD hT hG hS (Option.some.inj h) dX13_begins_14
set_option maxHeartbeats 4000000 in
set_option maxRecDepth 100000 in
theorem c_X13_readFresh {l : Launch} {D : va_G} {ad : Nat → Nat} {cy : Nat → ClassId} {A : Nat → Prop} {g : CG} {q : SE} (M : MM) (a0 : Nat) (x1 : Int32) (x2 : Int32) (k0 : ok g a0 13 0) {Z : MM} (h : f_X13_readFresh M a0 x1 x2 = some Z) : Met l yX13_readFresh wsX13_readFresh ({ frames := 7, cells := 0, slots := 0, locals := 149 }) (va_Pc [.ref (ad a0), .int x1, .int x2] (Wd D ad cy A g q M)) (va_Qv (fun u => u = Z) (Wd D ad cy A g q) A) 0 0 A := by
  refine Met.ofW (cc := cX13_readFresh) (maxL := 3) (ret := none) (by decide) rfl ?_
  intro p e s m args below meth c s₁ B hml hv
  obtain ⟨rfl, hP, hK, hD, hT, hG⟩ := hv
  have hx := B.exec
  have hb := B.bytes
  have hr := B.returns
  have hts := atoms_spec (ws := wsX13_readFresh) B.pre
  have hown : s.vm.findClass RX13 = some m.cls := findClass_of_methodNamed B.named
  have hlocks := B.notSynchronized
  have in12 : ∀ w ∈ u_ws RX12 TX12 48, w ∈ wsX13_readFresh := fun w h => List.mem_cons_of_mem _ (List.mem_append_right _ h)
  have in13 : ∀ w ∈ u_ws RX13 TX13 29, w ∈ wsX13_readFresh := fun w h => List.mem_cons_of_mem _ (List.mem_append_left _ (List.mem_append_right _ h))
  have hS : va_S A s.heap s.heap [] := va_S.rf
  have hl := lv_entry ([.ref (ad a0), .int x1, .int x2]) (n := 3) (Nat.le_of_ble_eq_true rfl)
  rw [lg_entry_eq]
  generalize (lg_sl ([.ref (ad a0), .int x1, .int x2]) ++ List.replicate (3 - (lg_sl ([.ref (ad a0), .int x1, .int x2])).length) Slot.unset).toArray = ls at hl ⊢
  have hl : lv_has ls 3 [(0, .ref (ad a0)), (1, .int x1), (2, .int x2)] := hl
  unfold f_X13_readFresh at h
  refine lv_aload_n hx hb dX13_readFresh_0 rfl (lv_at hl 0 rfl) ?_
  obtain ⟨z1, h1, h⟩ := ob_some h
  refine k_z (va_runV (As := []) (rest := []) ⟨hx, hb, hml, hown, hts⟩ (c_X13_isName (l := l) M a0 k0 h1) (cwV 0 hts gX13_readFresh_X13_isName rfl rfl rfl hdV_X13_isName ⟨Nat.le_of_ble_eq_true rfl, Nat.le_of_ble_eq_true rfl⟩) (pV (T := TX13) hP hK hD hT hG hS k0 (by decide) rfl) rfl rfl hl.1 rfl (lv_room (Nat.le_of_ble_eq_true rfl)) dX13_readFresh_1 ⟨Nat.zero_le _, Nat.zero_le _⟩) hS (fun H locs hz1 hP hD hT hS => ?_)
  refine lv_if_ne (tgt := 12) hx hb dX13_readFresh_4 rfl (fun c2 => ?_) (fun c2 => ?_)
  · replace h := ite_f c2 h
    refine lv_aload_n hx hb dX13_readFresh_12 rfl (lv_at hl 0 rfl) ?_
    rcases hN3 : gR M a0 4 with _ | b3
    · replace h := oc_n hN3 h
      refine r_get (T := TX13) (v := .null) hx hb hts in13 hown hK hP k0 (by decide) rfl 4 (by decide) (hts (.fieldLink RX13 150 "StoneWalkModel" "read" "LStoneWalkModel$Island;") (List.mem_of_getElem? (i := 1) (by decide +kernel))) rfl (t := 2) rfl (by show va_rf _ = _; rw [hN3]; rfl) dX13_readFresh_13 ?_
      refine lv_aload_n hx hb dX13_readFresh_16 rfl (lv_at hl 0 rfl) ?_
      refine r_get (T := TX13) (v := .long (gL M a0 15)) hx hb hts in13 hown hK hP k0 (by decide) rfl 15 (by decide) (hts (.fieldLink RX13 77 "StoneWalkModel" "word" "J") (List.mem_of_getElem? (i := 2) (by decide +kernel))) rfl (t := 1) rfl rfl dX13_readFresh_17 ?_
      exact absurd h (by simp)
    · replace h := oc_s hN3 h
      have kb3 := hT.f k0 (k := 4) (t := 12) (n := 0) rfl hN3
      refine r_get (T := TX13) (v := .ref (ad b3)) hx hb hts in13 hown hK hP k0 (by decide) rfl 4 (by decide) (hts (.fieldLink RX13 150 "StoneWalkModel" "read" "LStoneWalkModel$Island;") (List.mem_of_getElem? (i := 1) (by decide +kernel))) rfl (t := 2) rfl (by show va_rf _ = _; rw [hN3]; rfl) dX13_readFresh_13 ?_
      refine lv_aload_n hx hb dX13_readFresh_16 rfl (lv_at hl 0 rfl) ?_
      refine r_get (T := TX13) (v := .long (gL M a0 15)) hx hb hts in13 hown hK hP k0 (by decide) rfl 15 (by decide) (hts (.fieldLink RX13 77 "StoneWalkModel" "word" "J") (List.mem_of_getElem? (i := 2) (by decide +kernel))) rfl (t := 1) rfl rfl dX13_readFresh_17 ?_
      obtain ⟨z4, h4, h⟩ := ob_some h
      refine k_i (va_runV (As := [.long (gL M a0 15)]) (rest := []) ⟨hx, hb, hml, hown, hts⟩ (c_X12_find (l := l) M b3 (gL M a0 15) kb3 h4) (cwV 1 hts gX13_readFresh_X12_find rfl rfl rfl hdV_X12_find ⟨Nat.le_of_ble_eq_true rfl, Nat.le_of_ble_eq_true rfl⟩) (pV (T := TX12) hP hK hD hT hG hS kb3 (by decide) rfl) rfl rfl hl.1 rfl (lv_room (Nat.le_of_ble_eq_true rfl)) dX13_readFresh_20 ⟨Nat.zero_le _, Nat.zero_le _⟩) hS (fun H locs hP hD hT hS => ?_)
      refine lv_iconst (v := (-1)) hx hb dX13_readFresh_23 rfl ?_
      refine lv_icmp_eq (tgt := 32) hx hb dX13_readFresh_24 rfl (fun c5 => ?_) (fun c5 => ?_)
      · replace h := ite_t c5 h
        refine lv_aload_n hx hb dX13_readFresh_32 rfl (lv_at hl 0 rfl) ?_
        refine r_get (T := TX13) (v := .int (gI M a0 9)) hx hb hts in13 hown hK hP k0 (by decide) rfl 9 (by decide) (hts (.fieldLink RX13 58 "StoneWalkModel" "sort" "I") (List.mem_of_getElem? (i := 3) (by decide +kernel))) rfl (t := 0) rfl rfl dX13_readFresh_33 ?_
        refine lv_iconst (v := 5) hx hb dX13_readFresh_36 rfl ?_
        refine lv_icmp_ne (tgt := 41) hx hb dX13_readFresh_37 rfl (fun c6 => ?_) (fun c6 => ?_)
        · replace h := ite_f c6 h
          refine lv_aload_n hx hb dX13_readFresh_41 rfl (lv_at hl 0 rfl) ?_
          rcases hN7 : gR M a0 4 with _ | b7
          · replace h := oc_n hN7 h
            refine r_get (T := TX13) (v := .null) hx hb hts in13 hown hK hP k0 (by decide) rfl 4 (by decide) (hts (.fieldLink RX13 150 "StoneWalkModel" "read" "LStoneWalkModel$Island;") (List.mem_of_getElem? (i := 1) (by decide +kernel))) rfl (t := 2) rfl (by show va_rf _ = _; rw [hN7]; rfl) dX13_readFresh_42 ?_
            exact absurd h (by simp)
          · replace h := oc_s hN7 h
            have kb7 := hT.f k0 (k := 4) (t := 12) (n := 0) rfl hN7
            refine r_get (T := TX13) (v := .ref (ad b7)) hx hb hts in13 hown hK hP k0 (by decide) rfl 4 (by decide) (hts (.fieldLink RX13 150 "StoneWalkModel" "read" "LStoneWalkModel$Island;") (List.mem_of_getElem? (i := 1) (by decide +kernel))) rfl (t := 2) rfl (by show va_rf _ = _; rw [hN7]; rfl) dX13_readFresh_42 ?_
            rcases hN8 : gR M b7 45 with _ | b8
            · exact absurd (oc_n hN8 h) (by simp)
            replace h := oc_s hN8 h
            have kb8 := hT.f kb7 (k := 45) (t := 16) (n := 35) rfl hN8
            refine r_getN (T := TX12) (v := .ref (ad b8)) hx hb hts in12 hown hK hP kb7 (by decide) rfl 45 (by decide) (hG.2.2.1 _ (List.mem_of_getElem? (i := 1) rfl)) rfl (t := 2) rfl (by show va_rf _ = _; rw [hN8]; rfl) dX13_readFresh_45 ?_
            refine lv_aload_n hx hb dX13_readFresh_48 rfl (lv_at hl 0 rfl) ?_
            rcases hN9 : gR M a0 4 with _ | b9
            · replace h := oc_n hN9 h
              refine r_get (T := TX13) (v := .null) hx hb hts in13 hown hK hP k0 (by decide) rfl 4 (by decide) (hts (.fieldLink RX13 150 "StoneWalkModel" "read" "LStoneWalkModel$Island;") (List.mem_of_getElem? (i := 1) (by decide +kernel))) rfl (t := 2) rfl (by show va_rf _ = _; rw [hN9]; rfl) dX13_readFresh_49 ?_
              exact absurd h (by simp)
            · replace h := oc_s hN9 h
              have kb9 := hT.f k0 (k := 4) (t := 12) (n := 0) rfl hN9
              refine r_get (T := TX13) (v := .ref (ad b9)) hx hb hts in13 hown hK hP k0 (by decide) rfl 4 (by decide) (hts (.fieldLink RX13 150 "StoneWalkModel" "read" "LStoneWalkModel$Island;") (List.mem_of_getElem? (i := 1) (by decide +kernel))) rfl (t := 2) rfl (by show va_rf _ = _; rw [hN9]; rfl) dX13_readFresh_49 ?_
              refine r_getN (T := TX12) (v := .int (gI M b9 8)) hx hb hts in12 hown hK hP kb9 (by decide) rfl 8 (by decide) (hG.2.2.1 _ (List.mem_of_getElem? (i := 2) rfl)) rfl (t := 0) rfl rfl dX13_readFresh_52 ?_
              refine lv_aload_n hx hb dX13_readFresh_55 rfl (lv_at hl 0 rfl) ?_
              refine r_get (T := TX13) (v := .long (gL M a0 15)) hx hb hts in13 hown hK hP k0 (by decide) rfl 15 (by decide) (hts (.fieldLink RX13 77 "StoneWalkModel" "word" "J") (List.mem_of_getElem? (i := 2) (by decide +kernel))) rfl (t := 1) rfl rfl dX13_readFresh_56 ?_
              obtain ⟨hn10, h⟩ := chk_some h
              refine r_last hx hb hK hP hD hT hS kb8 hn10 dX13_readFresh_59 (fun H locs hP hD hT hS => ?_)
              refine lv_aload_n hx hb dX13_readFresh_60 rfl (lv_at hl 0 rfl) ?_
              rcases hN11 : gR (pL M b8 (ix (gI M b9 8)) (gL M a0 15)) a0 4 with _ | b11
              · replace h := oc_n hN11 h
                refine r_get (T := TX13) (v := .null) hx hb hts in13 hown hK hP k0 (by decide) rfl 4 (by decide) (hts (.fieldLink RX13 150 "StoneWalkModel" "read" "LStoneWalkModel$Island;") (List.mem_of_getElem? (i := 1) (by decide +kernel))) rfl (t := 2) rfl (by show va_rf _ = _; rw [hN11]; rfl) dX13_readFresh_61 ?_
                exact absurd h (by simp)
              · replace h := oc_s hN11 h
                have kb11 := hT.f k0 (k := 4) (t := 12) (n := 0) rfl hN11
                refine r_get (T := TX13) (v := .ref (ad b11)) hx hb hts in13 hown hK hP k0 (by decide) rfl 4 (by decide) (hts (.fieldLink RX13 150 "StoneWalkModel" "read" "LStoneWalkModel$Island;") (List.mem_of_getElem? (i := 1) (by decide +kernel))) rfl (t := 2) rfl (by show va_rf _ = _; rw [hN11]; rfl) dX13_readFresh_61 ?_
                rcases hN12 : gR (pL M b8 (ix (gI M b9 8)) (gL M a0 15)) b11 46 with _ | b12
                · exact absurd (oc_n hN12 h) (by simp)
                replace h := oc_s hN12 h
                have kb12 := hT.f kb11 (k := 46) (t := 15) (n := 35) rfl hN12
                refine r_getN (T := TX12) (v := .ref (ad b12)) hx hb hts in12 hown hK hP kb11 (by decide) rfl 46 (by decide) (hG.2.2.1 _ (List.mem_of_getElem? (i := 3) rfl)) rfl (t := 2) rfl (by show va_rf _ = _; rw [hN12]; rfl) dX13_readFresh_64 ?_
                refine lv_aload_n hx hb dX13_readFresh_67 rfl (lv_at hl 0 rfl) ?_
                rcases hN13 : gR (pL M b8 (ix (gI M b9 8)) (gL M a0 15)) a0 4 with _ | b13
                · replace h := oc_n hN13 h
                  refine r_get (T := TX13) (v := .null) hx hb hts in13 hown hK hP k0 (by decide) rfl 4 (by decide) (hts (.fieldLink RX13 150 "StoneWalkModel" "read" "LStoneWalkModel$Island;") (List.mem_of_getElem? (i := 1) (by decide +kernel))) rfl (t := 2) rfl (by show va_rf _ = _; rw [hN13]; rfl) dX13_readFresh_68 ?_
                  exact absurd h (by simp)
                · replace h := oc_s hN13 h
                  have kb13 := hT.f k0 (k := 4) (t := 12) (n := 0) rfl hN13
                  refine r_get (T := TX13) (v := .ref (ad b13)) hx hb hts in13 hown hK hP k0 (by decide) rfl 4 (by decide) (hts (.fieldLink RX13 150 "StoneWalkModel" "read" "LStoneWalkModel$Island;") (List.mem_of_getElem? (i := 1) (by decide +kernel))) rfl (t := 2) rfl (by show va_rf _ = _; rw [hN13]; rfl) dX13_readFresh_68 ?_
                  refine r_getN (T := TX12) (v := .int (gI (pL M b8 (ix (gI M b9 8)) (gL M a0 15)) b13 8)) hx hb hts in12 hown hK hP kb13 (by decide) rfl 8 (by decide) (hG.2.2.1 _ (List.mem_of_getElem? (i := 2) rfl)) rfl (t := 0) rfl rfl dX13_readFresh_71 ?_
                  refine lv_iload_n hx hb dX13_readFresh_74 rfl (lv_at hl 1 rfl) ?_
                  obtain ⟨hn14, h⟩ := chk_some h
                  refine r_iast hx hb hK hP hD hT hS kb12 hn14 dX13_readFresh_75 (fun H locs hP hD hT hS => ?_)
                  refine lv_aload_n hx hb dX13_readFresh_76 rfl (lv_at hl 0 rfl) ?_
                  rcases hN15 : gR (pI (pL M b8 (ix (gI M b9 8)) (gL M a0 15)) b12 (ix (gI (pL M b8 (ix (gI M b9 8)) (gL M a0 15)) b13 8)) x1) a0 4 with _ | b15
                  · replace h := oc_n hN15 h
                    refine r_get (T := TX13) (v := .null) hx hb hts in13 hown hK hP k0 (by decide) rfl 4 (by decide) (hts (.fieldLink RX13 150 "StoneWalkModel" "read" "LStoneWalkModel$Island;") (List.mem_of_getElem? (i := 1) (by decide +kernel))) rfl (t := 2) rfl (by show va_rf _ = _; rw [hN15]; rfl) dX13_readFresh_77 ?_
                    exact absurd h (by simp)
                  · replace h := oc_s hN15 h
                    have kb15 := hT.f k0 (k := 4) (t := 12) (n := 0) rfl hN15
                    refine r_get (T := TX13) (v := .ref (ad b15)) hx hb hts in13 hown hK hP k0 (by decide) rfl 4 (by decide) (hts (.fieldLink RX13 150 "StoneWalkModel" "read" "LStoneWalkModel$Island;") (List.mem_of_getElem? (i := 1) (by decide +kernel))) rfl (t := 2) rfl (by show va_rf _ = _; rw [hN15]; rfl) dX13_readFresh_77 ?_
                    rcases hN16 : gR (pI (pL M b8 (ix (gI M b9 8)) (gL M a0 15)) b12 (ix (gI (pL M b8 (ix (gI M b9 8)) (gL M a0 15)) b13 8)) x1) b15 47 with _ | b16
                    · exact absurd (oc_n hN16 h) (by simp)
                    replace h := oc_s hN16 h
                    have kb16 := hT.f kb15 (k := 47) (t := 15) (n := 35) rfl hN16
                    refine r_getN (T := TX12) (v := .ref (ad b16)) hx hb hts in12 hown hK hP kb15 (by decide) rfl 47 (by decide) (hG.2.2.1 _ (List.mem_of_getElem? (i := 4) rfl)) rfl (t := 2) rfl (by show va_rf _ = _; rw [hN16]; rfl) dX13_readFresh_80 ?_
                    refine lv_aload_n hx hb dX13_readFresh_83 rfl (lv_at hl 0 rfl) ?_
                    rcases hN17 : gR (pI (pL M b8 (ix (gI M b9 8)) (gL M a0 15)) b12 (ix (gI (pL M b8 (ix (gI M b9 8)) (gL M a0 15)) b13 8)) x1) a0 4 with _ | b17
                    · replace h := oc_n hN17 h
                      refine r_get (T := TX13) (v := .null) hx hb hts in13 hown hK hP k0 (by decide) rfl 4 (by decide) (hts (.fieldLink RX13 150 "StoneWalkModel" "read" "LStoneWalkModel$Island;") (List.mem_of_getElem? (i := 1) (by decide +kernel))) rfl (t := 2) rfl (by show va_rf _ = _; rw [hN17]; rfl) dX13_readFresh_84 ?_
                      exact absurd h (by simp)
                    · replace h := oc_s hN17 h
                      have kb17 := hT.f k0 (k := 4) (t := 12) (n := 0) rfl hN17
                      refine r_get (T := TX13) (v := .ref (ad b17)) hx hb hts in13 hown hK hP k0 (by decide) rfl 4 (by decide) (hts (.fieldLink RX13 150 "StoneWalkModel" "read" "LStoneWalkModel$Island;") (List.mem_of_getElem? (i := 1) (by decide +kernel))) rfl (t := 2) rfl (by show va_rf _ = _; rw [hN17]; rfl) dX13_readFresh_84 ?_
                      refine r_getN (T := TX12) (v := .int (gI (pI (pL M b8 (ix (gI M b9 8)) (gL M a0 15)) b12 (ix (gI (pL M b8 (ix (gI M b9 8)) (gL M a0 15)) b13 8)) x1) b17 8)) hx hb hts in12 hown hK hP kb17 (by decide) rfl 8 (by decide) (hG.2.2.1 _ (List.mem_of_getElem? (i := 2) rfl)) rfl (t := 0) rfl rfl dX13_readFresh_87 ?_
                      refine lv_iload_n hx hb dX13_readFresh_90 rfl (lv_at hl 2 rfl) ?_
                      obtain ⟨hn18, h⟩ := chk_some h
                      refine r_iast hx hb hK hP hD hT hS kb16 hn18 dX13_readFresh_91 (fun H locs hP hD hT hS => ?_)
                      refine lv_aload_n hx hb dX13_readFresh_92 rfl (lv_at hl 0 rfl) ?_
                      rcases hN19 : gR (pI (pI (pL M b8 (ix (gI M b9 8)) (gL M a0 15)) b12 (ix (gI (pL M b8 (ix (gI M b9 8)) (gL M a0 15)) b13 8)) x1) b16 (ix (gI (pI (pL M b8 (ix (gI M b9 8)) (gL M a0 15)) b12 (ix (gI (pL M b8 (ix (gI M b9 8)) (gL M a0 15)) b13 8)) x1) b17 8)) x2) a0 4 with _ | b19
                      · replace h := oc_n hN19 h
                        refine r_get (T := TX13) (v := .null) hx hb hts in13 hown hK hP k0 (by decide) rfl 4 (by decide) (hts (.fieldLink RX13 150 "StoneWalkModel" "read" "LStoneWalkModel$Island;") (List.mem_of_getElem? (i := 1) (by decide +kernel))) rfl (t := 2) rfl (by show va_rf _ = _; rw [hN19]; rfl) dX13_readFresh_93 ?_
                        refine lv_dup hx hb dX13_readFresh_96 rfl ?_
                        exact absurd h (by simp)
                      · replace h := oc_s hN19 h
                        have kb19 := hT.f k0 (k := 4) (t := 12) (n := 0) rfl hN19
                        refine r_get (T := TX13) (v := .ref (ad b19)) hx hb hts in13 hown hK hP k0 (by decide) rfl 4 (by decide) (hts (.fieldLink RX13 150 "StoneWalkModel" "read" "LStoneWalkModel$Island;") (List.mem_of_getElem? (i := 1) (by decide +kernel))) rfl (t := 2) rfl (by show va_rf _ = _; rw [hN19]; rfl) dX13_readFresh_93 ?_
                        refine lv_dup hx hb dX13_readFresh_96 rfl ?_
                        refine r_getN (T := TX12) (v := .int (gI (pI (pI (pL M b8 (ix (gI M b9 8)) (gL M a0 15)) b12 (ix (gI (pL M b8 (ix (gI M b9 8)) (gL M a0 15)) b13 8)) x1) b16 (ix (gI (pI (pL M b8 (ix (gI M b9 8)) (gL M a0 15)) b12 (ix (gI (pL M b8 (ix (gI M b9 8)) (gL M a0 15)) b13 8)) x1) b17 8)) x2) b19 8)) hx hb hts in12 hown hK hP kb19 (by decide) rfl 8 (by decide) (hG.2.2.1 _ (List.mem_of_getElem? (i := 2) rfl)) rfl (t := 0) rfl rfl dX13_readFresh_97 ?_
                        refine lv_iconst (v := 1) hx hb dX13_readFresh_100 rfl ?_
                        refine lv_iadd hx hb dX13_readFresh_101 ?_
                        refine r_putIN (T := TX12) (ty := .int) (v := (gI (pI (pI (pL M b8 (ix (gI M b9 8)) (gL M a0 15)) b12 (ix (gI (pL M b8 (ix (gI M b9 8)) (gL M a0 15)) b13 8)) x1) b16 (ix (gI (pI (pL M b8 (ix (gI M b9 8)) (gL M a0 15)) b12 (ix (gI (pL M b8 (ix (gI M b9 8)) (gL M a0 15)) b13 8)) x1) b17 8)) x2) b19 8) + 1) hx hb hts in12 tyX12 tyX12_ok nmX12 hown hK hP hD hT hS kb19 (by decide) rfl 8 (by decide) (hG.2.2.1 _ (List.mem_of_getElem? (i := 2) rfl)) rfl rfl (tyX12_ok 8 (by decide)) rfl rfl rfl dX13_readFresh_102 (fun H locs hP hD hT hS => ?_)
                        refine lv_aload_n hx hb dX13_readFresh_105 rfl (lv_at hl 0 rfl) ?_
                        obtain ⟨z20, h20, h⟩ := ob_some h
                        refine k_v (va_runV (As := []) (rest := []) ⟨hx, hb, hml, hown, hts⟩ (c_X13_goesOn (l := l) (pI (pI (pI (pL M b8 (ix (gI M b9 8)) (gL M a0 15)) b12 (ix (gI (pL M b8 (ix (gI M b9 8)) (gL M a0 15)) b13 8)) x1) b16 (ix (gI (pI (pL M b8 (ix (gI M b9 8)) (gL M a0 15)) b12 (ix (gI (pL M b8 (ix (gI M b9 8)) (gL M a0 15)) b13 8)) x1) b17 8)) x2) b19 8 ((gI (pI (pI (pL M b8 (ix (gI M b9 8)) (gL M a0 15)) b12 (ix (gI (pL M b8 (ix (gI M b9 8)) (gL M a0 15)) b13 8)) x1) b16 (ix (gI (pI (pL M b8 (ix (gI M b9 8)) (gL M a0 15)) b12 (ix (gI (pL M b8 (ix (gI M b9 8)) (gL M a0 15)) b13 8)) x1) b17 8)) x2) b19 8) + 1)) a0 k0 h20) (cwV 0 hts gX13_readFresh_X13_goesOn rfl rfl rfl hdV_X13_goesOn ⟨Nat.le_of_ble_eq_true rfl, Nat.le_of_ble_eq_true rfl⟩) (pV (T := TX13) hP hK hD hT hG hS k0 (by decide) rfl) rfl rfl hl.1 rfl (lv_room (Nat.le_of_ble_eq_true rfl)) dX13_readFresh_106 ⟨Nat.zero_le _, Nat.zero_le _⟩) hS (fun H locs hP hD hT hS => ?_)
                        exact r_vret hx hb hr hlocks hP hK hD hT hG hS (Option.some.inj h) dX13_readFresh_109
        · replace h := ite_t c6 h
          exact r_vret hx hb hr hlocks hP hK hD hT hG hS (Option.some.inj h) dX13_readFresh_40
      · replace h := ite_f c5 h
        refine lv_aload_n hx hb dX13_readFresh_27 rfl (lv_at hl 0 rfl) ?_
        refine lv_iconst (v := 3) hx hb dX13_readFresh_28 rfl ?_
        obtain ⟨z21, h21, h⟩ := ob_some h
        refine k_v (va_runV (As := [.int 3]) (rest := []) ⟨hx, hb, hml, hown, hts⟩ (c_X13_wrong (l := l) M a0 3 k0 h21) (cwV 1 hts gX13_readFresh_X13_wrong rfl rfl rfl hdV_X13_wrong ⟨Nat.le_of_ble_eq_true rfl, Nat.le_of_ble_eq_true rfl⟩) (pV (T := TX13) hP hK hD hT hG hS k0 (by decide) rfl) rfl rfl hl.1 rfl (lv_room (Nat.le_of_ble_eq_true rfl)) dX13_readFresh_29 ⟨Nat.zero_le _, Nat.zero_le _⟩) hS (fun H locs hP hD hT hS => ?_)
        refine lv_aload_n hx hb dX13_readFresh_32 rfl (lv_at hl 0 rfl) ?_
        refine r_get (T := TX13) (v := .int (gI z21 a0 9)) hx hb hts in13 hown hK hP k0 (by decide) rfl 9 (by decide) (hts (.fieldLink RX13 58 "StoneWalkModel" "sort" "I") (List.mem_of_getElem? (i := 3) (by decide +kernel))) rfl (t := 0) rfl rfl dX13_readFresh_33 ?_
        refine lv_iconst (v := 5) hx hb dX13_readFresh_36 rfl ?_
        refine lv_icmp_ne (tgt := 41) hx hb dX13_readFresh_37 rfl (fun c22 => ?_) (fun c22 => ?_)
        · replace h := ite_f c22 h
          refine lv_aload_n hx hb dX13_readFresh_41 rfl (lv_at hl 0 rfl) ?_
          rcases hN23 : gR z21 a0 4 with _ | b23
          · replace h := oc_n hN23 h
            refine r_get (T := TX13) (v := .null) hx hb hts in13 hown hK hP k0 (by decide) rfl 4 (by decide) (hts (.fieldLink RX13 150 "StoneWalkModel" "read" "LStoneWalkModel$Island;") (List.mem_of_getElem? (i := 1) (by decide +kernel))) rfl (t := 2) rfl (by show va_rf _ = _; rw [hN23]; rfl) dX13_readFresh_42 ?_
            exact absurd h (by simp)
          · replace h := oc_s hN23 h
            have kb23 := hT.f k0 (k := 4) (t := 12) (n := 0) rfl hN23
            refine r_get (T := TX13) (v := .ref (ad b23)) hx hb hts in13 hown hK hP k0 (by decide) rfl 4 (by decide) (hts (.fieldLink RX13 150 "StoneWalkModel" "read" "LStoneWalkModel$Island;") (List.mem_of_getElem? (i := 1) (by decide +kernel))) rfl (t := 2) rfl (by show va_rf _ = _; rw [hN23]; rfl) dX13_readFresh_42 ?_
            rcases hN24 : gR z21 b23 45 with _ | b24
            · exact absurd (oc_n hN24 h) (by simp)
            replace h := oc_s hN24 h
            have kb24 := hT.f kb23 (k := 45) (t := 16) (n := 35) rfl hN24
            refine r_getN (T := TX12) (v := .ref (ad b24)) hx hb hts in12 hown hK hP kb23 (by decide) rfl 45 (by decide) (hG.2.2.1 _ (List.mem_of_getElem? (i := 1) rfl)) rfl (t := 2) rfl (by show va_rf _ = _; rw [hN24]; rfl) dX13_readFresh_45 ?_
            refine lv_aload_n hx hb dX13_readFresh_48 rfl (lv_at hl 0 rfl) ?_
            rcases hN25 : gR z21 a0 4 with _ | b25
            · replace h := oc_n hN25 h
              refine r_get (T := TX13) (v := .null) hx hb hts in13 hown hK hP k0 (by decide) rfl 4 (by decide) (hts (.fieldLink RX13 150 "StoneWalkModel" "read" "LStoneWalkModel$Island;") (List.mem_of_getElem? (i := 1) (by decide +kernel))) rfl (t := 2) rfl (by show va_rf _ = _; rw [hN25]; rfl) dX13_readFresh_49 ?_
              exact absurd h (by simp)
            · replace h := oc_s hN25 h
              have kb25 := hT.f k0 (k := 4) (t := 12) (n := 0) rfl hN25
              refine r_get (T := TX13) (v := .ref (ad b25)) hx hb hts in13 hown hK hP k0 (by decide) rfl 4 (by decide) (hts (.fieldLink RX13 150 "StoneWalkModel" "read" "LStoneWalkModel$Island;") (List.mem_of_getElem? (i := 1) (by decide +kernel))) rfl (t := 2) rfl (by show va_rf _ = _; rw [hN25]; rfl) dX13_readFresh_49 ?_
              refine r_getN (T := TX12) (v := .int (gI z21 b25 8)) hx hb hts in12 hown hK hP kb25 (by decide) rfl 8 (by decide) (hG.2.2.1 _ (List.mem_of_getElem? (i := 2) rfl)) rfl (t := 0) rfl rfl dX13_readFresh_52 ?_
              refine lv_aload_n hx hb dX13_readFresh_55 rfl (lv_at hl 0 rfl) ?_
              refine r_get (T := TX13) (v := .long (gL z21 a0 15)) hx hb hts in13 hown hK hP k0 (by decide) rfl 15 (by decide) (hts (.fieldLink RX13 77 "StoneWalkModel" "word" "J") (List.mem_of_getElem? (i := 2) (by decide +kernel))) rfl (t := 1) rfl rfl dX13_readFresh_56 ?_
              obtain ⟨hn26, h⟩ := chk_some h
              refine r_last hx hb hK hP hD hT hS kb24 hn26 dX13_readFresh_59 (fun H locs hP hD hT hS => ?_)
              refine lv_aload_n hx hb dX13_readFresh_60 rfl (lv_at hl 0 rfl) ?_
              rcases hN27 : gR (pL z21 b24 (ix (gI z21 b25 8)) (gL z21 a0 15)) a0 4 with _ | b27
              · replace h := oc_n hN27 h
                refine r_get (T := TX13) (v := .null) hx hb hts in13 hown hK hP k0 (by decide) rfl 4 (by decide) (hts (.fieldLink RX13 150 "StoneWalkModel" "read" "LStoneWalkModel$Island;") (List.mem_of_getElem? (i := 1) (by decide +kernel))) rfl (t := 2) rfl (by show va_rf _ = _; rw [hN27]; rfl) dX13_readFresh_61 ?_
                exact absurd h (by simp)
              · replace h := oc_s hN27 h
                have kb27 := hT.f k0 (k := 4) (t := 12) (n := 0) rfl hN27
                refine r_get (T := TX13) (v := .ref (ad b27)) hx hb hts in13 hown hK hP k0 (by decide) rfl 4 (by decide) (hts (.fieldLink RX13 150 "StoneWalkModel" "read" "LStoneWalkModel$Island;") (List.mem_of_getElem? (i := 1) (by decide +kernel))) rfl (t := 2) rfl (by show va_rf _ = _; rw [hN27]; rfl) dX13_readFresh_61 ?_
                rcases hN28 : gR (pL z21 b24 (ix (gI z21 b25 8)) (gL z21 a0 15)) b27 46 with _ | b28
                · exact absurd (oc_n hN28 h) (by simp)
                replace h := oc_s hN28 h
                have kb28 := hT.f kb27 (k := 46) (t := 15) (n := 35) rfl hN28
                refine r_getN (T := TX12) (v := .ref (ad b28)) hx hb hts in12 hown hK hP kb27 (by decide) rfl 46 (by decide) (hG.2.2.1 _ (List.mem_of_getElem? (i := 3) rfl)) rfl (t := 2) rfl (by show va_rf _ = _; rw [hN28]; rfl) dX13_readFresh_64 ?_
                refine lv_aload_n hx hb dX13_readFresh_67 rfl (lv_at hl 0 rfl) ?_
                rcases hN29 : gR (pL z21 b24 (ix (gI z21 b25 8)) (gL z21 a0 15)) a0 4 with _ | b29
                · replace h := oc_n hN29 h
                  refine r_get (T := TX13) (v := .null) hx hb hts in13 hown hK hP k0 (by decide) rfl 4 (by decide) (hts (.fieldLink RX13 150 "StoneWalkModel" "read" "LStoneWalkModel$Island;") (List.mem_of_getElem? (i := 1) (by decide +kernel))) rfl (t := 2) rfl (by show va_rf _ = _; rw [hN29]; rfl) dX13_readFresh_68 ?_
                  exact absurd h (by simp)
                · replace h := oc_s hN29 h
                  have kb29 := hT.f k0 (k := 4) (t := 12) (n := 0) rfl hN29
                  refine r_get (T := TX13) (v := .ref (ad b29)) hx hb hts in13 hown hK hP k0 (by decide) rfl 4 (by decide) (hts (.fieldLink RX13 150 "StoneWalkModel" "read" "LStoneWalkModel$Island;") (List.mem_of_getElem? (i := 1) (by decide +kernel))) rfl (t := 2) rfl (by show va_rf _ = _; rw [hN29]; rfl) dX13_readFresh_68 ?_
                  refine r_getN (T := TX12) (v := .int (gI (pL z21 b24 (ix (gI z21 b25 8)) (gL z21 a0 15)) b29 8)) hx hb hts in12 hown hK hP kb29 (by decide) rfl 8 (by decide) (hG.2.2.1 _ (List.mem_of_getElem? (i := 2) rfl)) rfl (t := 0) rfl rfl dX13_readFresh_71 ?_
                  refine lv_iload_n hx hb dX13_readFresh_74 rfl (lv_at hl 1 rfl) ?_
                  obtain ⟨hn30, h⟩ := chk_some h
                  refine r_iast hx hb hK hP hD hT hS kb28 hn30 dX13_readFresh_75 (fun H locs hP hD hT hS => ?_)
                  refine lv_aload_n hx hb dX13_readFresh_76 rfl (lv_at hl 0 rfl) ?_
                  rcases hN31 : gR (pI (pL z21 b24 (ix (gI z21 b25 8)) (gL z21 a0 15)) b28 (ix (gI (pL z21 b24 (ix (gI z21 b25 8)) (gL z21 a0 15)) b29 8)) x1) a0 4 with _ | b31
                  · replace h := oc_n hN31 h
                    refine r_get (T := TX13) (v := .null) hx hb hts in13 hown hK hP k0 (by decide) rfl 4 (by decide) (hts (.fieldLink RX13 150 "StoneWalkModel" "read" "LStoneWalkModel$Island;") (List.mem_of_getElem? (i := 1) (by decide +kernel))) rfl (t := 2) rfl (by show va_rf _ = _; rw [hN31]; rfl) dX13_readFresh_77 ?_
                    exact absurd h (by simp)
                  · replace h := oc_s hN31 h
                    have kb31 := hT.f k0 (k := 4) (t := 12) (n := 0) rfl hN31
                    refine r_get (T := TX13) (v := .ref (ad b31)) hx hb hts in13 hown hK hP k0 (by decide) rfl 4 (by decide) (hts (.fieldLink RX13 150 "StoneWalkModel" "read" "LStoneWalkModel$Island;") (List.mem_of_getElem? (i := 1) (by decide +kernel))) rfl (t := 2) rfl (by show va_rf _ = _; rw [hN31]; rfl) dX13_readFresh_77 ?_
                    rcases hN32 : gR (pI (pL z21 b24 (ix (gI z21 b25 8)) (gL z21 a0 15)) b28 (ix (gI (pL z21 b24 (ix (gI z21 b25 8)) (gL z21 a0 15)) b29 8)) x1) b31 47 with _ | b32
                    · exact absurd (oc_n hN32 h) (by simp)
                    replace h := oc_s hN32 h
                    have kb32 := hT.f kb31 (k := 47) (t := 15) (n := 35) rfl hN32
                    refine r_getN (T := TX12) (v := .ref (ad b32)) hx hb hts in12 hown hK hP kb31 (by decide) rfl 47 (by decide) (hG.2.2.1 _ (List.mem_of_getElem? (i := 4) rfl)) rfl (t := 2) rfl (by show va_rf _ = _; rw [hN32]; rfl) dX13_readFresh_80 ?_
                    refine lv_aload_n hx hb dX13_readFresh_83 rfl (lv_at hl 0 rfl) ?_
                    rcases hN33 : gR (pI (pL z21 b24 (ix (gI z21 b25 8)) (gL z21 a0 15)) b28 (ix (gI (pL z21 b24 (ix (gI z21 b25 8)) (gL z21 a0 15)) b29 8)) x1) a0 4 with _ | b33
                    · replace h := oc_n hN33 h
                      refine r_get (T := TX13) (v := .null) hx hb hts in13 hown hK hP k0 (by decide) rfl 4 (by decide) (hts (.fieldLink RX13 150 "StoneWalkModel" "read" "LStoneWalkModel$Island;") (List.mem_of_getElem? (i := 1) (by decide +kernel))) rfl (t := 2) rfl (by show va_rf _ = _; rw [hN33]; rfl) dX13_readFresh_84 ?_
                      exact absurd h (by simp)
                    · replace h := oc_s hN33 h
                      have kb33 := hT.f k0 (k := 4) (t := 12) (n := 0) rfl hN33
                      refine r_get (T := TX13) (v := .ref (ad b33)) hx hb hts in13 hown hK hP k0 (by decide) rfl 4 (by decide) (hts (.fieldLink RX13 150 "StoneWalkModel" "read" "LStoneWalkModel$Island;") (List.mem_of_getElem? (i := 1) (by decide +kernel))) rfl (t := 2) rfl (by show va_rf _ = _; rw [hN33]; rfl) dX13_readFresh_84 ?_
                      refine r_getN (T := TX12) (v := .int (gI (pI (pL z21 b24 (ix (gI z21 b25 8)) (gL z21 a0 15)) b28 (ix (gI (pL z21 b24 (ix (gI z21 b25 8)) (gL z21 a0 15)) b29 8)) x1) b33 8)) hx hb hts in12 hown hK hP kb33 (by decide) rfl 8 (by decide) (hG.2.2.1 _ (List.mem_of_getElem? (i := 2) rfl)) rfl (t := 0) rfl rfl dX13_readFresh_87 ?_
                      refine lv_iload_n hx hb dX13_readFresh_90 rfl (lv_at hl 2 rfl) ?_
                      obtain ⟨hn34, h⟩ := chk_some h
                      refine r_iast hx hb hK hP hD hT hS kb32 hn34 dX13_readFresh_91 (fun H locs hP hD hT hS => ?_)
                      refine lv_aload_n hx hb dX13_readFresh_92 rfl (lv_at hl 0 rfl) ?_
                      rcases hN35 : gR (pI (pI (pL z21 b24 (ix (gI z21 b25 8)) (gL z21 a0 15)) b28 (ix (gI (pL z21 b24 (ix (gI z21 b25 8)) (gL z21 a0 15)) b29 8)) x1) b32 (ix (gI (pI (pL z21 b24 (ix (gI z21 b25 8)) (gL z21 a0 15)) b28 (ix (gI (pL z21 b24 (ix (gI z21 b25 8)) (gL z21 a0 15)) b29 8)) x1) b33 8)) x2) a0 4 with _ | b35
                      · replace h := oc_n hN35 h
                        refine r_get (T := TX13) (v := .null) hx hb hts in13 hown hK hP k0 (by decide) rfl 4 (by decide) (hts (.fieldLink RX13 150 "StoneWalkModel" "read" "LStoneWalkModel$Island;") (List.mem_of_getElem? (i := 1) (by decide +kernel))) rfl (t := 2) rfl (by show va_rf _ = _; rw [hN35]; rfl) dX13_readFresh_93 ?_
                        refine lv_dup hx hb dX13_readFresh_96 rfl ?_
                        exact absurd h (by simp)
                      · replace h := oc_s hN35 h
                        have kb35 := hT.f k0 (k := 4) (t := 12) (n := 0) rfl hN35
                        refine r_get (T := TX13) (v := .ref (ad b35)) hx hb hts in13 hown hK hP k0 (by decide) rfl 4 (by decide) (hts (.fieldLink RX13 150 "StoneWalkModel" "read" "LStoneWalkModel$Island;") (List.mem_of_getElem? (i := 1) (by decide +kernel))) rfl (t := 2) rfl (by show va_rf _ = _; rw [hN35]; rfl) dX13_readFresh_93 ?_
                        refine lv_dup hx hb dX13_readFresh_96 rfl ?_
                        refine r_getN (T := TX12) (v := .int (gI (pI (pI (pL z21 b24 (ix (gI z21 b25 8)) (gL z21 a0 15)) b28 (ix (gI (pL z21 b24 (ix (gI z21 b25 8)) (gL z21 a0 15)) b29 8)) x1) b32 (ix (gI (pI (pL z21 b24 (ix (gI z21 b25 8)) (gL z21 a0 15)) b28 (ix (gI (pL z21 b24 (ix (gI z21 b25 8)) (gL z21 a0 15)) b29 8)) x1) b33 8)) x2) b35 8)) hx hb hts in12 hown hK hP kb35 (by decide) rfl 8 (by decide) (hG.2.2.1 _ (List.mem_of_getElem? (i := 2) rfl)) rfl (t := 0) rfl rfl dX13_readFresh_97 ?_
                        refine lv_iconst (v := 1) hx hb dX13_readFresh_100 rfl ?_
                        refine lv_iadd hx hb dX13_readFresh_101 ?_
                        refine r_putIN (T := TX12) (ty := .int) (v := (gI (pI (pI (pL z21 b24 (ix (gI z21 b25 8)) (gL z21 a0 15)) b28 (ix (gI (pL z21 b24 (ix (gI z21 b25 8)) (gL z21 a0 15)) b29 8)) x1) b32 (ix (gI (pI (pL z21 b24 (ix (gI z21 b25 8)) (gL z21 a0 15)) b28 (ix (gI (pL z21 b24 (ix (gI z21 b25 8)) (gL z21 a0 15)) b29 8)) x1) b33 8)) x2) b35 8) + 1) hx hb hts in12 tyX12 tyX12_ok nmX12 hown hK hP hD hT hS kb35 (by decide) rfl 8 (by decide) (hG.2.2.1 _ (List.mem_of_getElem? (i := 2) rfl)) rfl rfl (tyX12_ok 8 (by decide)) rfl rfl rfl dX13_readFresh_102 (fun H locs hP hD hT hS => ?_)
                        refine lv_aload_n hx hb dX13_readFresh_105 rfl (lv_at hl 0 rfl) ?_
                        obtain ⟨z36, h36, h⟩ := ob_some h
                        refine k_v (va_runV (As := []) (rest := []) ⟨hx, hb, hml, hown, hts⟩ (c_X13_goesOn (l := l) (pI (pI (pI (pL z21 b24 (ix (gI z21 b25 8)) (gL z21 a0 15)) b28 (ix (gI (pL z21 b24 (ix (gI z21 b25 8)) (gL z21 a0 15)) b29 8)) x1) b32 (ix (gI (pI (pL z21 b24 (ix (gI z21 b25 8)) (gL z21 a0 15)) b28 (ix (gI (pL z21 b24 (ix (gI z21 b25 8)) (gL z21 a0 15)) b29 8)) x1) b33 8)) x2) b35 8 ((gI (pI (pI (pL z21 b24 (ix (gI z21 b25 8)) (gL z21 a0 15)) b28 (ix (gI (pL z21 b24 (ix (gI z21 b25 8)) (gL z21 a0 15)) b29 8)) x1) b32 (ix (gI (pI (pL z21 b24 (ix (gI z21 b25 8)) (gL z21 a0 15)) b28 (ix (gI (pL z21 b24 (ix (gI z21 b25 8)) (gL z21 a0 15)) b29 8)) x1) b33 8)) x2) b35 8) + 1)) a0 k0 h36) (cwV 0 hts gX13_readFresh_X13_goesOn rfl rfl rfl hdV_X13_goesOn ⟨Nat.le_of_ble_eq_true rfl, Nat.le_of_ble_eq_true rfl⟩) (pV (T := TX13) hP hK hD hT hG hS k0 (by decide) rfl) rfl rfl hl.1 rfl (lv_room (Nat.le_of_ble_eq_true rfl)) dX13_readFresh_106 ⟨Nat.zero_le _, Nat.zero_le _⟩) hS (fun H locs hP hD hT hS => ?_)
                        exact r_vret hx hb hr hlocks hP hK hD hT hG hS (Option.some.inj h) dX13_readFresh_109
        · replace h := ite_t c22 h
          exact r_vret hx hb hr hlocks hP hK hD hT hG hS (Option.some.inj h) dX13_readFresh_40
  · replace h := ite_t c2 h
    refine lv_aload_n hx hb dX13_readFresh_7 rfl (lv_at hl 0 rfl) ?_
    refine lv_iconst (v := 1) hx hb dX13_readFresh_8 rfl ?_
    obtain ⟨z37, h37, h⟩ := ob_some h
    refine k_v (va_runV (As := [.int 1]) (rest := []) ⟨hx, hb, hml, hown, hts⟩ (c_X13_wrong (l := l) M a0 1 k0 h37) (cwV 1 hts gX13_readFresh_X13_wrong rfl rfl rfl hdV_X13_wrong ⟨Nat.le_of_ble_eq_true rfl, Nat.le_of_ble_eq_true rfl⟩) (pV (T := TX13) hP hK hD hT hG hS k0 (by decide) rfl) rfl rfl hl.1 rfl (lv_room (Nat.le_of_ble_eq_true rfl)) dX13_readFresh_9 ⟨Nat.zero_le _, Nat.zero_le _⟩) hS (fun H locs hP hD hT hS => ?_)
    refine lv_aload_n hx hb dX13_readFresh_12 rfl (lv_at hl 0 rfl) ?_
    rcases hN38 : gR z37 a0 4 with _ | b38
    · replace h := oc_n hN38 h
      refine r_get (T := TX13) (v := .null) hx hb hts in13 hown hK hP k0 (by decide) rfl 4 (by decide) (hts (.fieldLink RX13 150 "StoneWalkModel" "read" "LStoneWalkModel$Island;") (List.mem_of_getElem? (i := 1) (by decide +kernel))) rfl (t := 2) rfl (by show va_rf _ = _; rw [hN38]; rfl) dX13_readFresh_13 ?_
      refine lv_aload_n hx hb dX13_readFresh_16 rfl (lv_at hl 0 rfl) ?_
      refine r_get (T := TX13) (v := .long (gL z37 a0 15)) hx hb hts in13 hown hK hP k0 (by decide) rfl 15 (by decide) (hts (.fieldLink RX13 77 "StoneWalkModel" "word" "J") (List.mem_of_getElem? (i := 2) (by decide +kernel))) rfl (t := 1) rfl rfl dX13_readFresh_17 ?_
      exact absurd h (by simp)
    · replace h := oc_s hN38 h
      have kb38 := hT.f k0 (k := 4) (t := 12) (n := 0) rfl hN38
      refine r_get (T := TX13) (v := .ref (ad b38)) hx hb hts in13 hown hK hP k0 (by decide) rfl 4 (by decide) (hts (.fieldLink RX13 150 "StoneWalkModel" "read" "LStoneWalkModel$Island;") (List.mem_of_getElem? (i := 1) (by decide +kernel))) rfl (t := 2) rfl (by show va_rf _ = _; rw [hN38]; rfl) dX13_readFresh_13 ?_
      refine lv_aload_n hx hb dX13_readFresh_16 rfl (lv_at hl 0 rfl) ?_
      refine r_get (T := TX13) (v := .long (gL z37 a0 15)) hx hb hts in13 hown hK hP k0 (by decide) rfl 15 (by decide) (hts (.fieldLink RX13 77 "StoneWalkModel" "word" "J") (List.mem_of_getElem? (i := 2) (by decide +kernel))) rfl (t := 1) rfl rfl dX13_readFresh_17 ?_
      obtain ⟨z39, h39, h⟩ := ob_some h
      refine k_i (va_runV (As := [.long (gL z37 a0 15)]) (rest := []) ⟨hx, hb, hml, hown, hts⟩ (c_X12_find (l := l) z37 b38 (gL z37 a0 15) kb38 h39) (cwV 1 hts gX13_readFresh_X12_find rfl rfl rfl hdV_X12_find ⟨Nat.le_of_ble_eq_true rfl, Nat.le_of_ble_eq_true rfl⟩) (pV (T := TX12) hP hK hD hT hG hS kb38 (by decide) rfl) rfl rfl hl.1 rfl (lv_room (Nat.le_of_ble_eq_true rfl)) dX13_readFresh_20 ⟨Nat.zero_le _, Nat.zero_le _⟩) hS (fun H locs hP hD hT hS => ?_)
      refine lv_iconst (v := (-1)) hx hb dX13_readFresh_23 rfl ?_
      refine lv_icmp_eq (tgt := 32) hx hb dX13_readFresh_24 rfl (fun c40 => ?_) (fun c40 => ?_)
      · replace h := ite_t c40 h
        refine lv_aload_n hx hb dX13_readFresh_32 rfl (lv_at hl 0 rfl) ?_
        refine r_get (T := TX13) (v := .int (gI z37 a0 9)) hx hb hts in13 hown hK hP k0 (by decide) rfl 9 (by decide) (hts (.fieldLink RX13 58 "StoneWalkModel" "sort" "I") (List.mem_of_getElem? (i := 3) (by decide +kernel))) rfl (t := 0) rfl rfl dX13_readFresh_33 ?_
        refine lv_iconst (v := 5) hx hb dX13_readFresh_36 rfl ?_
        refine lv_icmp_ne (tgt := 41) hx hb dX13_readFresh_37 rfl (fun c41 => ?_) (fun c41 => ?_)
        · replace h := ite_f c41 h
          refine lv_aload_n hx hb dX13_readFresh_41 rfl (lv_at hl 0 rfl) ?_
          rcases hN42 : gR z37 a0 4 with _ | b42
          · replace h := oc_n hN42 h
            refine r_get (T := TX13) (v := .null) hx hb hts in13 hown hK hP k0 (by decide) rfl 4 (by decide) (hts (.fieldLink RX13 150 "StoneWalkModel" "read" "LStoneWalkModel$Island;") (List.mem_of_getElem? (i := 1) (by decide +kernel))) rfl (t := 2) rfl (by show va_rf _ = _; rw [hN42]; rfl) dX13_readFresh_42 ?_
            exact absurd h (by simp)
          · replace h := oc_s hN42 h
            have kb42 := hT.f k0 (k := 4) (t := 12) (n := 0) rfl hN42
            refine r_get (T := TX13) (v := .ref (ad b42)) hx hb hts in13 hown hK hP k0 (by decide) rfl 4 (by decide) (hts (.fieldLink RX13 150 "StoneWalkModel" "read" "LStoneWalkModel$Island;") (List.mem_of_getElem? (i := 1) (by decide +kernel))) rfl (t := 2) rfl (by show va_rf _ = _; rw [hN42]; rfl) dX13_readFresh_42 ?_
            rcases hN43 : gR z37 b42 45 with _ | b43
            · exact absurd (oc_n hN43 h) (by simp)
            replace h := oc_s hN43 h
            have kb43 := hT.f kb42 (k := 45) (t := 16) (n := 35) rfl hN43
            refine r_getN (T := TX12) (v := .ref (ad b43)) hx hb hts in12 hown hK hP kb42 (by decide) rfl 45 (by decide) (hG.2.2.1 _ (List.mem_of_getElem? (i := 1) rfl)) rfl (t := 2) rfl (by show va_rf _ = _; rw [hN43]; rfl) dX13_readFresh_45 ?_
            refine lv_aload_n hx hb dX13_readFresh_48 rfl (lv_at hl 0 rfl) ?_
            rcases hN44 : gR z37 a0 4 with _ | b44
            · replace h := oc_n hN44 h
              refine r_get (T := TX13) (v := .null) hx hb hts in13 hown hK hP k0 (by decide) rfl 4 (by decide) (hts (.fieldLink RX13 150 "StoneWalkModel" "read" "LStoneWalkModel$Island;") (List.mem_of_getElem? (i := 1) (by decide +kernel))) rfl (t := 2) rfl (by show va_rf _ = _; rw [hN44]; rfl) dX13_readFresh_49 ?_
              exact absurd h (by simp)
            · replace h := oc_s hN44 h
              have kb44 := hT.f k0 (k := 4) (t := 12) (n := 0) rfl hN44
              refine r_get (T := TX13) (v := .ref (ad b44)) hx hb hts in13 hown hK hP k0 (by decide) rfl 4 (by decide) (hts (.fieldLink RX13 150 "StoneWalkModel" "read" "LStoneWalkModel$Island;") (List.mem_of_getElem? (i := 1) (by decide +kernel))) rfl (t := 2) rfl (by show va_rf _ = _; rw [hN44]; rfl) dX13_readFresh_49 ?_
              refine r_getN (T := TX12) (v := .int (gI z37 b44 8)) hx hb hts in12 hown hK hP kb44 (by decide) rfl 8 (by decide) (hG.2.2.1 _ (List.mem_of_getElem? (i := 2) rfl)) rfl (t := 0) rfl rfl dX13_readFresh_52 ?_
              refine lv_aload_n hx hb dX13_readFresh_55 rfl (lv_at hl 0 rfl) ?_
              refine r_get (T := TX13) (v := .long (gL z37 a0 15)) hx hb hts in13 hown hK hP k0 (by decide) rfl 15 (by decide) (hts (.fieldLink RX13 77 "StoneWalkModel" "word" "J") (List.mem_of_getElem? (i := 2) (by decide +kernel))) rfl (t := 1) rfl rfl dX13_readFresh_56 ?_
              obtain ⟨hn45, h⟩ := chk_some h
              refine r_last hx hb hK hP hD hT hS kb43 hn45 dX13_readFresh_59 (fun H locs hP hD hT hS => ?_)
              refine lv_aload_n hx hb dX13_readFresh_60 rfl (lv_at hl 0 rfl) ?_
              rcases hN46 : gR (pL z37 b43 (ix (gI z37 b44 8)) (gL z37 a0 15)) a0 4 with _ | b46
              · replace h := oc_n hN46 h
                refine r_get (T := TX13) (v := .null) hx hb hts in13 hown hK hP k0 (by decide) rfl 4 (by decide) (hts (.fieldLink RX13 150 "StoneWalkModel" "read" "LStoneWalkModel$Island;") (List.mem_of_getElem? (i := 1) (by decide +kernel))) rfl (t := 2) rfl (by show va_rf _ = _; rw [hN46]; rfl) dX13_readFresh_61 ?_
                exact absurd h (by simp)
              · replace h := oc_s hN46 h
                have kb46 := hT.f k0 (k := 4) (t := 12) (n := 0) rfl hN46
                refine r_get (T := TX13) (v := .ref (ad b46)) hx hb hts in13 hown hK hP k0 (by decide) rfl 4 (by decide) (hts (.fieldLink RX13 150 "StoneWalkModel" "read" "LStoneWalkModel$Island;") (List.mem_of_getElem? (i := 1) (by decide +kernel))) rfl (t := 2) rfl (by show va_rf _ = _; rw [hN46]; rfl) dX13_readFresh_61 ?_
                rcases hN47 : gR (pL z37 b43 (ix (gI z37 b44 8)) (gL z37 a0 15)) b46 46 with _ | b47
                · exact absurd (oc_n hN47 h) (by simp)
                replace h := oc_s hN47 h
                have kb47 := hT.f kb46 (k := 46) (t := 15) (n := 35) rfl hN47
                refine r_getN (T := TX12) (v := .ref (ad b47)) hx hb hts in12 hown hK hP kb46 (by decide) rfl 46 (by decide) (hG.2.2.1 _ (List.mem_of_getElem? (i := 3) rfl)) rfl (t := 2) rfl (by show va_rf _ = _; rw [hN47]; rfl) dX13_readFresh_64 ?_
                refine lv_aload_n hx hb dX13_readFresh_67 rfl (lv_at hl 0 rfl) ?_
                rcases hN48 : gR (pL z37 b43 (ix (gI z37 b44 8)) (gL z37 a0 15)) a0 4 with _ | b48
                · replace h := oc_n hN48 h
                  refine r_get (T := TX13) (v := .null) hx hb hts in13 hown hK hP k0 (by decide) rfl 4 (by decide) (hts (.fieldLink RX13 150 "StoneWalkModel" "read" "LStoneWalkModel$Island;") (List.mem_of_getElem? (i := 1) (by decide +kernel))) rfl (t := 2) rfl (by show va_rf _ = _; rw [hN48]; rfl) dX13_readFresh_68 ?_
                  exact absurd h (by simp)
                · replace h := oc_s hN48 h
                  have kb48 := hT.f k0 (k := 4) (t := 12) (n := 0) rfl hN48
                  refine r_get (T := TX13) (v := .ref (ad b48)) hx hb hts in13 hown hK hP k0 (by decide) rfl 4 (by decide) (hts (.fieldLink RX13 150 "StoneWalkModel" "read" "LStoneWalkModel$Island;") (List.mem_of_getElem? (i := 1) (by decide +kernel))) rfl (t := 2) rfl (by show va_rf _ = _; rw [hN48]; rfl) dX13_readFresh_68 ?_
                  refine r_getN (T := TX12) (v := .int (gI (pL z37 b43 (ix (gI z37 b44 8)) (gL z37 a0 15)) b48 8)) hx hb hts in12 hown hK hP kb48 (by decide) rfl 8 (by decide) (hG.2.2.1 _ (List.mem_of_getElem? (i := 2) rfl)) rfl (t := 0) rfl rfl dX13_readFresh_71 ?_
                  refine lv_iload_n hx hb dX13_readFresh_74 rfl (lv_at hl 1 rfl) ?_
                  obtain ⟨hn49, h⟩ := chk_some h
                  refine r_iast hx hb hK hP hD hT hS kb47 hn49 dX13_readFresh_75 (fun H locs hP hD hT hS => ?_)
                  refine lv_aload_n hx hb dX13_readFresh_76 rfl (lv_at hl 0 rfl) ?_
                  rcases hN50 : gR (pI (pL z37 b43 (ix (gI z37 b44 8)) (gL z37 a0 15)) b47 (ix (gI (pL z37 b43 (ix (gI z37 b44 8)) (gL z37 a0 15)) b48 8)) x1) a0 4 with _ | b50
                  · replace h := oc_n hN50 h
                    refine r_get (T := TX13) (v := .null) hx hb hts in13 hown hK hP k0 (by decide) rfl 4 (by decide) (hts (.fieldLink RX13 150 "StoneWalkModel" "read" "LStoneWalkModel$Island;") (List.mem_of_getElem? (i := 1) (by decide +kernel))) rfl (t := 2) rfl (by show va_rf _ = _; rw [hN50]; rfl) dX13_readFresh_77 ?_
                    exact absurd h (by simp)
                  · replace h := oc_s hN50 h
                    have kb50 := hT.f k0 (k := 4) (t := 12) (n := 0) rfl hN50
                    refine r_get (T := TX13) (v := .ref (ad b50)) hx hb hts in13 hown hK hP k0 (by decide) rfl 4 (by decide) (hts (.fieldLink RX13 150 "StoneWalkModel" "read" "LStoneWalkModel$Island;") (List.mem_of_getElem? (i := 1) (by decide +kernel))) rfl (t := 2) rfl (by show va_rf _ = _; rw [hN50]; rfl) dX13_readFresh_77 ?_
                    rcases hN51 : gR (pI (pL z37 b43 (ix (gI z37 b44 8)) (gL z37 a0 15)) b47 (ix (gI (pL z37 b43 (ix (gI z37 b44 8)) (gL z37 a0 15)) b48 8)) x1) b50 47 with _ | b51
                    · exact absurd (oc_n hN51 h) (by simp)
                    replace h := oc_s hN51 h
                    have kb51 := hT.f kb50 (k := 47) (t := 15) (n := 35) rfl hN51
                    refine r_getN (T := TX12) (v := .ref (ad b51)) hx hb hts in12 hown hK hP kb50 (by decide) rfl 47 (by decide) (hG.2.2.1 _ (List.mem_of_getElem? (i := 4) rfl)) rfl (t := 2) rfl (by show va_rf _ = _; rw [hN51]; rfl) dX13_readFresh_80 ?_
                    refine lv_aload_n hx hb dX13_readFresh_83 rfl (lv_at hl 0 rfl) ?_
                    rcases hN52 : gR (pI (pL z37 b43 (ix (gI z37 b44 8)) (gL z37 a0 15)) b47 (ix (gI (pL z37 b43 (ix (gI z37 b44 8)) (gL z37 a0 15)) b48 8)) x1) a0 4 with _ | b52
                    · replace h := oc_n hN52 h
                      refine r_get (T := TX13) (v := .null) hx hb hts in13 hown hK hP k0 (by decide) rfl 4 (by decide) (hts (.fieldLink RX13 150 "StoneWalkModel" "read" "LStoneWalkModel$Island;") (List.mem_of_getElem? (i := 1) (by decide +kernel))) rfl (t := 2) rfl (by show va_rf _ = _; rw [hN52]; rfl) dX13_readFresh_84 ?_
                      exact absurd h (by simp)
                    · replace h := oc_s hN52 h
                      have kb52 := hT.f k0 (k := 4) (t := 12) (n := 0) rfl hN52
                      refine r_get (T := TX13) (v := .ref (ad b52)) hx hb hts in13 hown hK hP k0 (by decide) rfl 4 (by decide) (hts (.fieldLink RX13 150 "StoneWalkModel" "read" "LStoneWalkModel$Island;") (List.mem_of_getElem? (i := 1) (by decide +kernel))) rfl (t := 2) rfl (by show va_rf _ = _; rw [hN52]; rfl) dX13_readFresh_84 ?_
                      refine r_getN (T := TX12) (v := .int (gI (pI (pL z37 b43 (ix (gI z37 b44 8)) (gL z37 a0 15)) b47 (ix (gI (pL z37 b43 (ix (gI z37 b44 8)) (gL z37 a0 15)) b48 8)) x1) b52 8)) hx hb hts in12 hown hK hP kb52 (by decide) rfl 8 (by decide) (hG.2.2.1 _ (List.mem_of_getElem? (i := 2) rfl)) rfl (t := 0) rfl rfl dX13_readFresh_87 ?_
                      refine lv_iload_n hx hb dX13_readFresh_90 rfl (lv_at hl 2 rfl) ?_
                      obtain ⟨hn53, h⟩ := chk_some h
                      refine r_iast hx hb hK hP hD hT hS kb51 hn53 dX13_readFresh_91 (fun H locs hP hD hT hS => ?_)
                      refine lv_aload_n hx hb dX13_readFresh_92 rfl (lv_at hl 0 rfl) ?_
                      rcases hN54 : gR (pI (pI (pL z37 b43 (ix (gI z37 b44 8)) (gL z37 a0 15)) b47 (ix (gI (pL z37 b43 (ix (gI z37 b44 8)) (gL z37 a0 15)) b48 8)) x1) b51 (ix (gI (pI (pL z37 b43 (ix (gI z37 b44 8)) (gL z37 a0 15)) b47 (ix (gI (pL z37 b43 (ix (gI z37 b44 8)) (gL z37 a0 15)) b48 8)) x1) b52 8)) x2) a0 4 with _ | b54
                      · replace h := oc_n hN54 h
                        refine r_get (T := TX13) (v := .null) hx hb hts in13 hown hK hP k0 (by decide) rfl 4 (by decide) (hts (.fieldLink RX13 150 "StoneWalkModel" "read" "LStoneWalkModel$Island;") (List.mem_of_getElem? (i := 1) (by decide +kernel))) rfl (t := 2) rfl (by show va_rf _ = _; rw [hN54]; rfl) dX13_readFresh_93 ?_
                        refine lv_dup hx hb dX13_readFresh_96 rfl ?_
                        exact absurd h (by simp)
                      · replace h := oc_s hN54 h
                        have kb54 := hT.f k0 (k := 4) (t := 12) (n := 0) rfl hN54
                        refine r_get (T := TX13) (v := .ref (ad b54)) hx hb hts in13 hown hK hP k0 (by decide) rfl 4 (by decide) (hts (.fieldLink RX13 150 "StoneWalkModel" "read" "LStoneWalkModel$Island;") (List.mem_of_getElem? (i := 1) (by decide +kernel))) rfl (t := 2) rfl (by show va_rf _ = _; rw [hN54]; rfl) dX13_readFresh_93 ?_
                        refine lv_dup hx hb dX13_readFresh_96 rfl ?_
                        refine r_getN (T := TX12) (v := .int (gI (pI (pI (pL z37 b43 (ix (gI z37 b44 8)) (gL z37 a0 15)) b47 (ix (gI (pL z37 b43 (ix (gI z37 b44 8)) (gL z37 a0 15)) b48 8)) x1) b51 (ix (gI (pI (pL z37 b43 (ix (gI z37 b44 8)) (gL z37 a0 15)) b47 (ix (gI (pL z37 b43 (ix (gI z37 b44 8)) (gL z37 a0 15)) b48 8)) x1) b52 8)) x2) b54 8)) hx hb hts in12 hown hK hP kb54 (by decide) rfl 8 (by decide) (hG.2.2.1 _ (List.mem_of_getElem? (i := 2) rfl)) rfl (t := 0) rfl rfl dX13_readFresh_97 ?_
                        refine lv_iconst (v := 1) hx hb dX13_readFresh_100 rfl ?_
                        refine lv_iadd hx hb dX13_readFresh_101 ?_
                        refine r_putIN (T := TX12) (ty := .int) (v := (gI (pI (pI (pL z37 b43 (ix (gI z37 b44 8)) (gL z37 a0 15)) b47 (ix (gI (pL z37 b43 (ix (gI z37 b44 8)) (gL z37 a0 15)) b48 8)) x1) b51 (ix (gI (pI (pL z37 b43 (ix (gI z37 b44 8)) (gL z37 a0 15)) b47 (ix (gI (pL z37 b43 (ix (gI z37 b44 8)) (gL z37 a0 15)) b48 8)) x1) b52 8)) x2) b54 8) + 1) hx hb hts in12 tyX12 tyX12_ok nmX12 hown hK hP hD hT hS kb54 (by decide) rfl 8 (by decide) (hG.2.2.1 _ (List.mem_of_getElem? (i := 2) rfl)) rfl rfl (tyX12_ok 8 (by decide)) rfl rfl rfl dX13_readFresh_102 (fun H locs hP hD hT hS => ?_)
                        refine lv_aload_n hx hb dX13_readFresh_105 rfl (lv_at hl 0 rfl) ?_
                        obtain ⟨z55, h55, h⟩ := ob_some h
                        refine k_v (va_runV (As := []) (rest := []) ⟨hx, hb, hml, hown, hts⟩ (c_X13_goesOn (l := l) (pI (pI (pI (pL z37 b43 (ix (gI z37 b44 8)) (gL z37 a0 15)) b47 (ix (gI (pL z37 b43 (ix (gI z37 b44 8)) (gL z37 a0 15)) b48 8)) x1) b51 (ix (gI (pI (pL z37 b43 (ix (gI z37 b44 8)) (gL z37 a0 15)) b47 (ix (gI (pL z37 b43 (ix (gI z37 b44 8)) (gL z37 a0 15)) b48 8)) x1) b52 8)) x2) b54 8 ((gI (pI (pI (pL z37 b43 (ix (gI z37 b44 8)) (gL z37 a0 15)) b47 (ix (gI (pL z37 b43 (ix (gI z37 b44 8)) (gL z37 a0 15)) b48 8)) x1) b51 (ix (gI (pI (pL z37 b43 (ix (gI z37 b44 8)) (gL z37 a0 15)) b47 (ix (gI (pL z37 b43 (ix (gI z37 b44 8)) (gL z37 a0 15)) b48 8)) x1) b52 8)) x2) b54 8) + 1)) a0 k0 h55) (cwV 0 hts gX13_readFresh_X13_goesOn rfl rfl rfl hdV_X13_goesOn ⟨Nat.le_of_ble_eq_true rfl, Nat.le_of_ble_eq_true rfl⟩) (pV (T := TX13) hP hK hD hT hG hS k0 (by decide) rfl) rfl rfl hl.1 rfl (lv_room (Nat.le_of_ble_eq_true rfl)) dX13_readFresh_106 ⟨Nat.zero_le _, Nat.zero_le _⟩) hS (fun H locs hP hD hT hS => ?_)
                        exact r_vret hx hb hr hlocks hP hK hD hT hG hS (Option.some.inj h) dX13_readFresh_109
        · replace h := ite_t c41 h
          exact r_vret hx hb hr hlocks hP hK hD hT hG hS (Option.some.inj h) dX13_readFresh_40
      · replace h := ite_f c40 h
        refine lv_aload_n hx hb dX13_readFresh_27 rfl (lv_at hl 0 rfl) ?_
        refine lv_iconst (v := 3) hx hb dX13_readFresh_28 rfl ?_
        obtain ⟨z56, h56, h⟩ := ob_some h
        refine k_v (va_runV (As := [.int 3]) (rest := []) ⟨hx, hb, hml, hown, hts⟩ (c_X13_wrong (l := l) z37 a0 3 k0 h56) (cwV 1 hts gX13_readFresh_X13_wrong rfl rfl rfl hdV_X13_wrong ⟨Nat.le_of_ble_eq_true rfl, Nat.le_of_ble_eq_true rfl⟩) (pV (T := TX13) hP hK hD hT hG hS k0 (by decide) rfl) rfl rfl hl.1 rfl (lv_room (Nat.le_of_ble_eq_true rfl)) dX13_readFresh_29 ⟨Nat.zero_le _, Nat.zero_le _⟩) hS (fun H locs hP hD hT hS => ?_)
        refine lv_aload_n hx hb dX13_readFresh_32 rfl (lv_at hl 0 rfl) ?_
        refine r_get (T := TX13) (v := .int (gI z56 a0 9)) hx hb hts in13 hown hK hP k0 (by decide) rfl 9 (by decide) (hts (.fieldLink RX13 58 "StoneWalkModel" "sort" "I") (List.mem_of_getElem? (i := 3) (by decide +kernel))) rfl (t := 0) rfl rfl dX13_readFresh_33 ?_
        refine lv_iconst (v := 5) hx hb dX13_readFresh_36 rfl ?_
        refine lv_icmp_ne (tgt := 41) hx hb dX13_readFresh_37 rfl (fun c57 => ?_) (fun c57 => ?_)
        · replace h := ite_f c57 h
          refine lv_aload_n hx hb dX13_readFresh_41 rfl (lv_at hl 0 rfl) ?_
          rcases hN58 : gR z56 a0 4 with _ | b58
          · replace h := oc_n hN58 h
            refine r_get (T := TX13) (v := .null) hx hb hts in13 hown hK hP k0 (by decide) rfl 4 (by decide) (hts (.fieldLink RX13 150 "StoneWalkModel" "read" "LStoneWalkModel$Island;") (List.mem_of_getElem? (i := 1) (by decide +kernel))) rfl (t := 2) rfl (by show va_rf _ = _; rw [hN58]; rfl) dX13_readFresh_42 ?_
            exact absurd h (by simp)
          · replace h := oc_s hN58 h
            have kb58 := hT.f k0 (k := 4) (t := 12) (n := 0) rfl hN58
            refine r_get (T := TX13) (v := .ref (ad b58)) hx hb hts in13 hown hK hP k0 (by decide) rfl 4 (by decide) (hts (.fieldLink RX13 150 "StoneWalkModel" "read" "LStoneWalkModel$Island;") (List.mem_of_getElem? (i := 1) (by decide +kernel))) rfl (t := 2) rfl (by show va_rf _ = _; rw [hN58]; rfl) dX13_readFresh_42 ?_
            rcases hN59 : gR z56 b58 45 with _ | b59
            · exact absurd (oc_n hN59 h) (by simp)
            replace h := oc_s hN59 h
            have kb59 := hT.f kb58 (k := 45) (t := 16) (n := 35) rfl hN59
            refine r_getN (T := TX12) (v := .ref (ad b59)) hx hb hts in12 hown hK hP kb58 (by decide) rfl 45 (by decide) (hG.2.2.1 _ (List.mem_of_getElem? (i := 1) rfl)) rfl (t := 2) rfl (by show va_rf _ = _; rw [hN59]; rfl) dX13_readFresh_45 ?_
            refine lv_aload_n hx hb dX13_readFresh_48 rfl (lv_at hl 0 rfl) ?_
            rcases hN60 : gR z56 a0 4 with _ | b60
            · replace h := oc_n hN60 h
              refine r_get (T := TX13) (v := .null) hx hb hts in13 hown hK hP k0 (by decide) rfl 4 (by decide) (hts (.fieldLink RX13 150 "StoneWalkModel" "read" "LStoneWalkModel$Island;") (List.mem_of_getElem? (i := 1) (by decide +kernel))) rfl (t := 2) rfl (by show va_rf _ = _; rw [hN60]; rfl) dX13_readFresh_49 ?_
              exact absurd h (by simp)
            · replace h := oc_s hN60 h
              have kb60 := hT.f k0 (k := 4) (t := 12) (n := 0) rfl hN60
              refine r_get (T := TX13) (v := .ref (ad b60)) hx hb hts in13 hown hK hP k0 (by decide) rfl 4 (by decide) (hts (.fieldLink RX13 150 "StoneWalkModel" "read" "LStoneWalkModel$Island;") (List.mem_of_getElem? (i := 1) (by decide +kernel))) rfl (t := 2) rfl (by show va_rf _ = _; rw [hN60]; rfl) dX13_readFresh_49 ?_
              refine r_getN (T := TX12) (v := .int (gI z56 b60 8)) hx hb hts in12 hown hK hP kb60 (by decide) rfl 8 (by decide) (hG.2.2.1 _ (List.mem_of_getElem? (i := 2) rfl)) rfl (t := 0) rfl rfl dX13_readFresh_52 ?_
              refine lv_aload_n hx hb dX13_readFresh_55 rfl (lv_at hl 0 rfl) ?_
              refine r_get (T := TX13) (v := .long (gL z56 a0 15)) hx hb hts in13 hown hK hP k0 (by decide) rfl 15 (by decide) (hts (.fieldLink RX13 77 "StoneWalkModel" "word" "J") (List.mem_of_getElem? (i := 2) (by decide +kernel))) rfl (t := 1) rfl rfl dX13_readFresh_56 ?_
              obtain ⟨hn61, h⟩ := chk_some h
              refine r_last hx hb hK hP hD hT hS kb59 hn61 dX13_readFresh_59 (fun H locs hP hD hT hS => ?_)
              refine lv_aload_n hx hb dX13_readFresh_60 rfl (lv_at hl 0 rfl) ?_
              rcases hN62 : gR (pL z56 b59 (ix (gI z56 b60 8)) (gL z56 a0 15)) a0 4 with _ | b62
              · replace h := oc_n hN62 h
                refine r_get (T := TX13) (v := .null) hx hb hts in13 hown hK hP k0 (by decide) rfl 4 (by decide) (hts (.fieldLink RX13 150 "StoneWalkModel" "read" "LStoneWalkModel$Island;") (List.mem_of_getElem? (i := 1) (by decide +kernel))) rfl (t := 2) rfl (by show va_rf _ = _; rw [hN62]; rfl) dX13_readFresh_61 ?_
                exact absurd h (by simp)
              · replace h := oc_s hN62 h
                have kb62 := hT.f k0 (k := 4) (t := 12) (n := 0) rfl hN62
                refine r_get (T := TX13) (v := .ref (ad b62)) hx hb hts in13 hown hK hP k0 (by decide) rfl 4 (by decide) (hts (.fieldLink RX13 150 "StoneWalkModel" "read" "LStoneWalkModel$Island;") (List.mem_of_getElem? (i := 1) (by decide +kernel))) rfl (t := 2) rfl (by show va_rf _ = _; rw [hN62]; rfl) dX13_readFresh_61 ?_
                rcases hN63 : gR (pL z56 b59 (ix (gI z56 b60 8)) (gL z56 a0 15)) b62 46 with _ | b63
                · exact absurd (oc_n hN63 h) (by simp)
                replace h := oc_s hN63 h
                have kb63 := hT.f kb62 (k := 46) (t := 15) (n := 35) rfl hN63
                refine r_getN (T := TX12) (v := .ref (ad b63)) hx hb hts in12 hown hK hP kb62 (by decide) rfl 46 (by decide) (hG.2.2.1 _ (List.mem_of_getElem? (i := 3) rfl)) rfl (t := 2) rfl (by show va_rf _ = _; rw [hN63]; rfl) dX13_readFresh_64 ?_
                refine lv_aload_n hx hb dX13_readFresh_67 rfl (lv_at hl 0 rfl) ?_
                rcases hN64 : gR (pL z56 b59 (ix (gI z56 b60 8)) (gL z56 a0 15)) a0 4 with _ | b64
                · replace h := oc_n hN64 h
                  refine r_get (T := TX13) (v := .null) hx hb hts in13 hown hK hP k0 (by decide) rfl 4 (by decide) (hts (.fieldLink RX13 150 "StoneWalkModel" "read" "LStoneWalkModel$Island;") (List.mem_of_getElem? (i := 1) (by decide +kernel))) rfl (t := 2) rfl (by show va_rf _ = _; rw [hN64]; rfl) dX13_readFresh_68 ?_
                  exact absurd h (by simp)
                · replace h := oc_s hN64 h
                  have kb64 := hT.f k0 (k := 4) (t := 12) (n := 0) rfl hN64
                  refine r_get (T := TX13) (v := .ref (ad b64)) hx hb hts in13 hown hK hP k0 (by decide) rfl 4 (by decide) (hts (.fieldLink RX13 150 "StoneWalkModel" "read" "LStoneWalkModel$Island;") (List.mem_of_getElem? (i := 1) (by decide +kernel))) rfl (t := 2) rfl (by show va_rf _ = _; rw [hN64]; rfl) dX13_readFresh_68 ?_
                  refine r_getN (T := TX12) (v := .int (gI (pL z56 b59 (ix (gI z56 b60 8)) (gL z56 a0 15)) b64 8)) hx hb hts in12 hown hK hP kb64 (by decide) rfl 8 (by decide) (hG.2.2.1 _ (List.mem_of_getElem? (i := 2) rfl)) rfl (t := 0) rfl rfl dX13_readFresh_71 ?_
                  refine lv_iload_n hx hb dX13_readFresh_74 rfl (lv_at hl 1 rfl) ?_
                  obtain ⟨hn65, h⟩ := chk_some h
                  refine r_iast hx hb hK hP hD hT hS kb63 hn65 dX13_readFresh_75 (fun H locs hP hD hT hS => ?_)
                  refine lv_aload_n hx hb dX13_readFresh_76 rfl (lv_at hl 0 rfl) ?_
                  rcases hN66 : gR (pI (pL z56 b59 (ix (gI z56 b60 8)) (gL z56 a0 15)) b63 (ix (gI (pL z56 b59 (ix (gI z56 b60 8)) (gL z56 a0 15)) b64 8)) x1) a0 4 with _ | b66
                  · replace h := oc_n hN66 h
                    refine r_get (T := TX13) (v := .null) hx hb hts in13 hown hK hP k0 (by decide) rfl 4 (by decide) (hts (.fieldLink RX13 150 "StoneWalkModel" "read" "LStoneWalkModel$Island;") (List.mem_of_getElem? (i := 1) (by decide +kernel))) rfl (t := 2) rfl (by show va_rf _ = _; rw [hN66]; rfl) dX13_readFresh_77 ?_
                    exact absurd h (by simp)
                  · replace h := oc_s hN66 h
                    have kb66 := hT.f k0 (k := 4) (t := 12) (n := 0) rfl hN66
                    refine r_get (T := TX13) (v := .ref (ad b66)) hx hb hts in13 hown hK hP k0 (by decide) rfl 4 (by decide) (hts (.fieldLink RX13 150 "StoneWalkModel" "read" "LStoneWalkModel$Island;") (List.mem_of_getElem? (i := 1) (by decide +kernel))) rfl (t := 2) rfl (by show va_rf _ = _; rw [hN66]; rfl) dX13_readFresh_77 ?_
                    rcases hN67 : gR (pI (pL z56 b59 (ix (gI z56 b60 8)) (gL z56 a0 15)) b63 (ix (gI (pL z56 b59 (ix (gI z56 b60 8)) (gL z56 a0 15)) b64 8)) x1) b66 47 with _ | b67
                    · exact absurd (oc_n hN67 h) (by simp)
                    replace h := oc_s hN67 h
                    have kb67 := hT.f kb66 (k := 47) (t := 15) (n := 35) rfl hN67
                    refine r_getN (T := TX12) (v := .ref (ad b67)) hx hb hts in12 hown hK hP kb66 (by decide) rfl 47 (by decide) (hG.2.2.1 _ (List.mem_of_getElem? (i := 4) rfl)) rfl (t := 2) rfl (by show va_rf _ = _; rw [hN67]; rfl) dX13_readFresh_80 ?_
                    refine lv_aload_n hx hb dX13_readFresh_83 rfl (lv_at hl 0 rfl) ?_
                    rcases hN68 : gR (pI (pL z56 b59 (ix (gI z56 b60 8)) (gL z56 a0 15)) b63 (ix (gI (pL z56 b59 (ix (gI z56 b60 8)) (gL z56 a0 15)) b64 8)) x1) a0 4 with _ | b68
                    · replace h := oc_n hN68 h
                      refine r_get (T := TX13) (v := .null) hx hb hts in13 hown hK hP k0 (by decide) rfl 4 (by decide) (hts (.fieldLink RX13 150 "StoneWalkModel" "read" "LStoneWalkModel$Island;") (List.mem_of_getElem? (i := 1) (by decide +kernel))) rfl (t := 2) rfl (by show va_rf _ = _; rw [hN68]; rfl) dX13_readFresh_84 ?_
                      exact absurd h (by simp)
                    · replace h := oc_s hN68 h
                      have kb68 := hT.f k0 (k := 4) (t := 12) (n := 0) rfl hN68
                      refine r_get (T := TX13) (v := .ref (ad b68)) hx hb hts in13 hown hK hP k0 (by decide) rfl 4 (by decide) (hts (.fieldLink RX13 150 "StoneWalkModel" "read" "LStoneWalkModel$Island;") (List.mem_of_getElem? (i := 1) (by decide +kernel))) rfl (t := 2) rfl (by show va_rf _ = _; rw [hN68]; rfl) dX13_readFresh_84 ?_
                      refine r_getN (T := TX12) (v := .int (gI (pI (pL z56 b59 (ix (gI z56 b60 8)) (gL z56 a0 15)) b63 (ix (gI (pL z56 b59 (ix (gI z56 b60 8)) (gL z56 a0 15)) b64 8)) x1) b68 8)) hx hb hts in12 hown hK hP kb68 (by decide) rfl 8 (by decide) (hG.2.2.1 _ (List.mem_of_getElem? (i := 2) rfl)) rfl (t := 0) rfl rfl dX13_readFresh_87 ?_
                      refine lv_iload_n hx hb dX13_readFresh_90 rfl (lv_at hl 2 rfl) ?_
                      obtain ⟨hn69, h⟩ := chk_some h
                      refine r_iast hx hb hK hP hD hT hS kb67 hn69 dX13_readFresh_91 (fun H locs hP hD hT hS => ?_)
                      refine lv_aload_n hx hb dX13_readFresh_92 rfl (lv_at hl 0 rfl) ?_
                      rcases hN70 : gR (pI (pI (pL z56 b59 (ix (gI z56 b60 8)) (gL z56 a0 15)) b63 (ix (gI (pL z56 b59 (ix (gI z56 b60 8)) (gL z56 a0 15)) b64 8)) x1) b67 (ix (gI (pI (pL z56 b59 (ix (gI z56 b60 8)) (gL z56 a0 15)) b63 (ix (gI (pL z56 b59 (ix (gI z56 b60 8)) (gL z56 a0 15)) b64 8)) x1) b68 8)) x2) a0 4 with _ | b70
                      · replace h := oc_n hN70 h
                        refine r_get (T := TX13) (v := .null) hx hb hts in13 hown hK hP k0 (by decide) rfl 4 (by decide) (hts (.fieldLink RX13 150 "StoneWalkModel" "read" "LStoneWalkModel$Island;") (List.mem_of_getElem? (i := 1) (by decide +kernel))) rfl (t := 2) rfl (by show va_rf _ = _; rw [hN70]; rfl) dX13_readFresh_93 ?_
                        refine lv_dup hx hb dX13_readFresh_96 rfl ?_
                        exact absurd h (by simp)
                      · replace h := oc_s hN70 h
                        have kb70 := hT.f k0 (k := 4) (t := 12) (n := 0) rfl hN70
                        refine r_get (T := TX13) (v := .ref (ad b70)) hx hb hts in13 hown hK hP k0 (by decide) rfl 4 (by decide) (hts (.fieldLink RX13 150 "StoneWalkModel" "read" "LStoneWalkModel$Island;") (List.mem_of_getElem? (i := 1) (by decide +kernel))) rfl (t := 2) rfl (by show va_rf _ = _; rw [hN70]; rfl) dX13_readFresh_93 ?_
                        refine lv_dup hx hb dX13_readFresh_96 rfl ?_
                        refine r_getN (T := TX12) (v := .int (gI (pI (pI (pL z56 b59 (ix (gI z56 b60 8)) (gL z56 a0 15)) b63 (ix (gI (pL z56 b59 (ix (gI z56 b60 8)) (gL z56 a0 15)) b64 8)) x1) b67 (ix (gI (pI (pL z56 b59 (ix (gI z56 b60 8)) (gL z56 a0 15)) b63 (ix (gI (pL z56 b59 (ix (gI z56 b60 8)) (gL z56 a0 15)) b64 8)) x1) b68 8)) x2) b70 8)) hx hb hts in12 hown hK hP kb70 (by decide) rfl 8 (by decide) (hG.2.2.1 _ (List.mem_of_getElem? (i := 2) rfl)) rfl (t := 0) rfl rfl dX13_readFresh_97 ?_
                        refine lv_iconst (v := 1) hx hb dX13_readFresh_100 rfl ?_
                        refine lv_iadd hx hb dX13_readFresh_101 ?_
                        refine r_putIN (T := TX12) (ty := .int) (v := (gI (pI (pI (pL z56 b59 (ix (gI z56 b60 8)) (gL z56 a0 15)) b63 (ix (gI (pL z56 b59 (ix (gI z56 b60 8)) (gL z56 a0 15)) b64 8)) x1) b67 (ix (gI (pI (pL z56 b59 (ix (gI z56 b60 8)) (gL z56 a0 15)) b63 (ix (gI (pL z56 b59 (ix (gI z56 b60 8)) (gL z56 a0 15)) b64 8)) x1) b68 8)) x2) b70 8) + 1) hx hb hts in12 tyX12 tyX12_ok nmX12 hown hK hP hD hT hS kb70 (by decide) rfl 8 (by decide) (hG.2.2.1 _ (List.mem_of_getElem? (i := 2) rfl)) rfl rfl (tyX12_ok 8 (by decide)) rfl rfl rfl dX13_readFresh_102 (fun H locs hP hD hT hS => ?_)
                        refine lv_aload_n hx hb dX13_readFresh_105 rfl (lv_at hl 0 rfl) ?_
                        obtain ⟨z71, h71, h⟩ := ob_some h
                        refine k_v (va_runV (As := []) (rest := []) ⟨hx, hb, hml, hown, hts⟩ (c_X13_goesOn (l := l) (pI (pI (pI (pL z56 b59 (ix (gI z56 b60 8)) (gL z56 a0 15)) b63 (ix (gI (pL z56 b59 (ix (gI z56 b60 8)) (gL z56 a0 15)) b64 8)) x1) b67 (ix (gI (pI (pL z56 b59 (ix (gI z56 b60 8)) (gL z56 a0 15)) b63 (ix (gI (pL z56 b59 (ix (gI z56 b60 8)) (gL z56 a0 15)) b64 8)) x1) b68 8)) x2) b70 8 ((gI (pI (pI (pL z56 b59 (ix (gI z56 b60 8)) (gL z56 a0 15)) b63 (ix (gI (pL z56 b59 (ix (gI z56 b60 8)) (gL z56 a0 15)) b64 8)) x1) b67 (ix (gI (pI (pL z56 b59 (ix (gI z56 b60 8)) (gL z56 a0 15)) b63 (ix (gI (pL z56 b59 (ix (gI z56 b60 8)) (gL z56 a0 15)) b64 8)) x1) b68 8)) x2) b70 8) + 1)) a0 k0 h71) (cwV 0 hts gX13_readFresh_X13_goesOn rfl rfl rfl hdV_X13_goesOn ⟨Nat.le_of_ble_eq_true rfl, Nat.le_of_ble_eq_true rfl⟩) (pV (T := TX13) hP hK hD hT hG hS k0 (by decide) rfl) rfl rfl hl.1 rfl (lv_room (Nat.le_of_ble_eq_true rfl)) dX13_readFresh_106 ⟨Nat.zero_le _, Nat.zero_le _⟩) hS (fun H locs hP hD hT hS => ?_)
                        exact r_vret hx hb hr hlocks hP hK hD hT hG hS (Option.some.inj h) dX13_readFresh_109
        · replace h := ite_t c57 h
          exact r_vret hx hb hr hlocks hP hK hD hT hG hS (Option.some.inj h) dX13_readFresh_40
set_option maxHeartbeats 4000000 in
set_option maxRecDepth 100000 in
theorem c_X13_known {l : Launch} {D : va_G} {ad : Nat → Nat} {cy : Nat → ClassId} {A : Nat → Prop} {g : CG} {q : SE} (M : MM) (a0 : Nat) (x1 : Int32) (k0 : ok g a0 13 0) {Z : (Int32 × MM)} (h : f_X13_known M a0 x1 = some Z) : Met l yX13_known wsX13_known ({ frames := 7, cells := 0, slots := 0, locals := 149 }) (va_Pc [.ref (ad a0), .int x1] (Wd D ad cy A g q M)) (va_Qi (fun r u => r = Z.1 ∧ u = Z.2) (Wd D ad cy A g q) A) 0 0 A := by
  refine Met.ofW (cc := cX13_known) (maxL := 3) (ret := (some .int)) (by decide) rfl ?_
  intro p e s m args below meth c s₁ B hml hv
  obtain ⟨rfl, hP, hK, hD, hT, hG⟩ := hv
  have hx := B.exec
  have hb := B.bytes
  have hr := B.returns
  have hts := atoms_spec (ws := wsX13_known) B.pre
  have hown : s.vm.findClass RX13 = some m.cls := findClass_of_methodNamed B.named
  have hlocks := B.notSynchronized
  have in12 : ∀ w ∈ u_ws RX12 TX12 48, w ∈ wsX13_known := fun w h => List.mem_cons_of_mem _ (List.mem_append_right _ h)
  have in13 : ∀ w ∈ u_ws RX13 TX13 29, w ∈ wsX13_known := fun w h => List.mem_cons_of_mem _ (List.mem_append_left _ (List.mem_append_right _ h))
  have hS : va_S A s.heap s.heap [] := va_S.rf
  have hl := lv_entry ([.ref (ad a0), .int x1]) (n := 3) (Nat.le_of_ble_eq_true rfl)
  rw [lg_entry_eq]
  generalize (lg_sl ([.ref (ad a0), .int x1]) ++ List.replicate (3 - (lg_sl ([.ref (ad a0), .int x1])).length) Slot.unset).toArray = ls at hl ⊢
  have hl : lv_has ls 3 [(0, .ref (ad a0)), (1, .int x1)] := hl
  unfold f_X13_known at h
  refine lv_aload_n hx hb dX13_known_0 rfl (lv_at hl 0 rfl) ?_
  obtain ⟨z1, h1, h⟩ := ob_some h
  refine k_z (va_runV (As := []) (rest := []) ⟨hx, hb, hml, hown, hts⟩ (c_X13_isName (l := l) M a0 k0 h1) (cwV 0 hts gX13_known_X13_isName rfl rfl rfl hdV_X13_isName ⟨Nat.le_of_ble_eq_true rfl, Nat.le_of_ble_eq_true rfl⟩) (pV (T := TX13) hP hK hD hT hG hS k0 (by decide) rfl) rfl rfl hl.1 rfl (lv_room (Nat.le_of_ble_eq_true rfl)) dX13_known_1 ⟨Nat.zero_le _, Nat.zero_le _⟩) hS (fun H locs hz1 hP hD hT hS => ?_)
  refine lv_if_ne (tgt := 12) hx hb dX13_known_4 rfl (fun c2 => ?_) (fun c2 => ?_)
  · replace h := ite_f c2 h
    refine lv_aload_n hx hb dX13_known_12 rfl (lv_at hl 0 rfl) ?_
    rcases hN3 : gR M a0 4 with _ | b3
    · replace h := oc_n hN3 h
      refine r_get (T := TX13) (v := .null) hx hb hts in13 hown hK hP k0 (by decide) rfl 4 (by decide) (hts (.fieldLink RX13 150 "StoneWalkModel" "read" "LStoneWalkModel$Island;") (List.mem_of_getElem? (i := 1) (by decide +kernel))) rfl (t := 2) rfl (by show va_rf _ = _; rw [hN3]; rfl) dX13_known_13 ?_
      refine lv_aload_n hx hb dX13_known_16 rfl (lv_at hl 0 rfl) ?_
      refine r_get (T := TX13) (v := .long (gL M a0 15)) hx hb hts in13 hown hK hP k0 (by decide) rfl 15 (by decide) (hts (.fieldLink RX13 77 "StoneWalkModel" "word" "J") (List.mem_of_getElem? (i := 2) (by decide +kernel))) rfl (t := 1) rfl rfl dX13_known_17 ?_
      exact absurd h (by simp)
    · replace h := oc_s hN3 h
      have kb3 := hT.f k0 (k := 4) (t := 12) (n := 0) rfl hN3
      refine r_get (T := TX13) (v := .ref (ad b3)) hx hb hts in13 hown hK hP k0 (by decide) rfl 4 (by decide) (hts (.fieldLink RX13 150 "StoneWalkModel" "read" "LStoneWalkModel$Island;") (List.mem_of_getElem? (i := 1) (by decide +kernel))) rfl (t := 2) rfl (by show va_rf _ = _; rw [hN3]; rfl) dX13_known_13 ?_
      refine lv_aload_n hx hb dX13_known_16 rfl (lv_at hl 0 rfl) ?_
      refine r_get (T := TX13) (v := .long (gL M a0 15)) hx hb hts in13 hown hK hP k0 (by decide) rfl 15 (by decide) (hts (.fieldLink RX13 77 "StoneWalkModel" "word" "J") (List.mem_of_getElem? (i := 2) (by decide +kernel))) rfl (t := 1) rfl rfl dX13_known_17 ?_
      obtain ⟨z4, h4, h⟩ := ob_some h
      refine k_i (va_runV (As := [.long (gL M a0 15)]) (rest := []) ⟨hx, hb, hml, hown, hts⟩ (c_X12_find (l := l) M b3 (gL M a0 15) kb3 h4) (cwV 1 hts gX13_known_X12_find rfl rfl rfl hdV_X12_find ⟨Nat.le_of_ble_eq_true rfl, Nat.le_of_ble_eq_true rfl⟩) (pV (T := TX12) hP hK hD hT hG hS kb3 (by decide) rfl) rfl rfl hl.1 rfl (lv_room (Nat.le_of_ble_eq_true rfl)) dX13_known_20 ⟨Nat.zero_le _, Nat.zero_le _⟩) hS (fun H locs hP hD hT hS => ?_)
      refine lv_istore_n (lv' := [(2, .int z4), (0, .ref (ad a0)), (1, .int x1)]) hx hb dX13_known_23 rfl hl (by decide) rfl (fun ls hl => ?_)
      refine lv_iload_n hx hb dX13_known_24 rfl (lv_at hl 0 rfl) ?_
      refine lv_iconst (v := (-1)) hx hb dX13_known_25 rfl ?_
      refine lv_icmp_eq (tgt := 42) hx hb dX13_known_26 rfl (fun c5 => ?_) (fun c5 => ?_)
      · replace h := ite_t c5 h
        refine lv_aload_n hx hb dX13_known_42 rfl (lv_at hl 1 rfl) ?_
        refine lv_iconst (v := 2) hx hb dX13_known_43 rfl ?_
        obtain ⟨z6, h6, h⟩ := ob_some h
        refine k_v (va_runV (As := [.int 2]) (rest := []) ⟨hx, hb, hml, hown, hts⟩ (c_X13_wrong (l := l) M a0 2 k0 h6) (cwV 1 hts gX13_known_X13_wrong rfl rfl rfl hdV_X13_wrong ⟨Nat.le_of_ble_eq_true rfl, Nat.le_of_ble_eq_true rfl⟩) (pV (T := TX13) hP hK hD hT hG hS k0 (by decide) rfl) rfl rfl hl.1 rfl (lv_room (Nat.le_of_ble_eq_true rfl)) dX13_known_44 ⟨Nat.zero_le _, Nat.zero_le _⟩) hS (fun H locs hP hD hT hS => ?_)
        refine lv_aload_n hx hb dX13_known_47 rfl (lv_at hl 1 rfl) ?_
        refine r_get (T := TX13) (v := .int (gI z6 a0 9)) hx hb hts in13 hown hK hP k0 (by decide) rfl 9 (by decide) (hts (.fieldLink RX13 58 "StoneWalkModel" "sort" "I") (List.mem_of_getElem? (i := 3) (by decide +kernel))) rfl (t := 0) rfl rfl dX13_known_48 ?_
        refine lv_iconst (v := 5) hx hb dX13_known_51 rfl ?_
        refine lv_icmp_ne (tgt := 59) hx hb dX13_known_52 rfl (fun c7 => ?_) (fun c7 => ?_)
        · replace h := ite_f c7 h
          refine lv_aload_n hx hb dX13_known_59 rfl (lv_at hl 1 rfl) ?_
          rcases hN8 : gR z6 a0 4 with _ | b8
          · replace h := oc_n hN8 h
            refine r_get (T := TX13) (v := .null) hx hb hts in13 hown hK hP k0 (by decide) rfl 4 (by decide) (hts (.fieldLink RX13 150 "StoneWalkModel" "read" "LStoneWalkModel$Island;") (List.mem_of_getElem? (i := 1) (by decide +kernel))) rfl (t := 2) rfl (by show va_rf _ = _; rw [hN8]; rfl) dX13_known_60 ?_
            exact absurd h (by simp)
          · replace h := oc_s hN8 h
            have kb8 := hT.f k0 (k := 4) (t := 12) (n := 0) rfl hN8
            refine r_get (T := TX13) (v := .ref (ad b8)) hx hb hts in13 hown hK hP k0 (by decide) rfl 4 (by decide) (hts (.fieldLink RX13 150 "StoneWalkModel" "read" "LStoneWalkModel$Island;") (List.mem_of_getElem? (i := 1) (by decide +kernel))) rfl (t := 2) rfl (by show va_rf _ = _; rw [hN8]; rfl) dX13_known_60 ?_
            rcases hN9 : gR z6 b8 47 with _ | b9
            · exact absurd (oc_n hN9 h) (by simp)
            replace h := oc_s hN9 h
            have kb9 := hT.f kb8 (k := 47) (t := 15) (n := 35) rfl hN9
            refine r_getN (T := TX12) (v := .ref (ad b9)) hx hb hts in12 hown hK hP kb8 (by decide) rfl 47 (by decide) (hG.2.2.1 _ (List.mem_of_getElem? (i := 4) rfl)) rfl (t := 2) rfl (by show va_rf _ = _; rw [hN9]; rfl) dX13_known_63 ?_
            refine lv_iload_n hx hb dX13_known_66 rfl (lv_at hl 0 rfl) ?_
            obtain ⟨hn10, h⟩ := chk_some h
            refine r_iald hx hb hK hP kb9 hn10 dX13_known_67 ?_
            have hZ := Option.some.inj h
            exact r_iret hx hb hr hlocks hP hK hD hT hG hS (congrArg Prod.fst hZ) (congrArg Prod.snd hZ) dX13_known_68
        · replace h := ite_t c7 h
          refine lv_iconst (v := 0) hx hb dX13_known_55 rfl ?_
          refine lv_goto (tgt := 68) hx hb dX13_known_56 rfl ?_
          have hZ := Option.some.inj h
          exact r_iret hx hb hr hlocks hP hK hD hT hG hS (congrArg Prod.fst hZ) (congrArg Prod.snd hZ) dX13_known_68
      · replace h := ite_f c5 h
        refine lv_aload_n hx hb dX13_known_29 rfl (lv_at hl 1 rfl) ?_
        rcases hN11 : gR M a0 4 with _ | b11
        · replace h := oc_n hN11 h
          refine r_get (T := TX13) (v := .null) hx hb hts in13 hown hK hP k0 (by decide) rfl 4 (by decide) (hts (.fieldLink RX13 150 "StoneWalkModel" "read" "LStoneWalkModel$Island;") (List.mem_of_getElem? (i := 1) (by decide +kernel))) rfl (t := 2) rfl (by show va_rf _ = _; rw [hN11]; rfl) dX13_known_30 ?_
          exact absurd h (by simp)
        · replace h := oc_s hN11 h
          have kb11 := hT.f k0 (k := 4) (t := 12) (n := 0) rfl hN11
          refine r_get (T := TX13) (v := .ref (ad b11)) hx hb hts in13 hown hK hP k0 (by decide) rfl 4 (by decide) (hts (.fieldLink RX13 150 "StoneWalkModel" "read" "LStoneWalkModel$Island;") (List.mem_of_getElem? (i := 1) (by decide +kernel))) rfl (t := 2) rfl (by show va_rf _ = _; rw [hN11]; rfl) dX13_known_30 ?_
          rcases hN12 : gR M b11 46 with _ | b12
          · exact absurd (oc_n hN12 h) (by simp)
          replace h := oc_s hN12 h
          have kb12 := hT.f kb11 (k := 46) (t := 15) (n := 35) rfl hN12
          refine r_getN (T := TX12) (v := .ref (ad b12)) hx hb hts in12 hown hK hP kb11 (by decide) rfl 46 (by decide) (hG.2.2.1 _ (List.mem_of_getElem? (i := 3) rfl)) rfl (t := 2) rfl (by show va_rf _ = _; rw [hN12]; rfl) dX13_known_33 ?_
          refine lv_iload_n hx hb dX13_known_36 rfl (lv_at hl 0 rfl) ?_
          obtain ⟨hn13, h⟩ := chk_some h
          refine r_iald hx hb hK hP kb12 hn13 dX13_known_37 ?_
          refine lv_iload_n hx hb dX13_known_38 rfl (lv_at hl 2 rfl) ?_
          refine lv_icmp_eq (tgt := 47) hx hb dX13_known_39 rfl (fun c14 => ?_) (fun c14 => ?_)
          · replace h := ite_t c14 h
            refine lv_aload_n hx hb dX13_known_47 rfl (lv_at hl 1 rfl) ?_
            refine r_get (T := TX13) (v := .int (gI M a0 9)) hx hb hts in13 hown hK hP k0 (by decide) rfl 9 (by decide) (hts (.fieldLink RX13 58 "StoneWalkModel" "sort" "I") (List.mem_of_getElem? (i := 3) (by decide +kernel))) rfl (t := 0) rfl rfl dX13_known_48 ?_
            refine lv_iconst (v := 5) hx hb dX13_known_51 rfl ?_
            refine lv_icmp_ne (tgt := 59) hx hb dX13_known_52 rfl (fun c15 => ?_) (fun c15 => ?_)
            · replace h := ite_f c15 h
              refine lv_aload_n hx hb dX13_known_59 rfl (lv_at hl 1 rfl) ?_
              rcases hN16 : gR M a0 4 with _ | b16
              · replace h := oc_n hN16 h
                refine r_get (T := TX13) (v := .null) hx hb hts in13 hown hK hP k0 (by decide) rfl 4 (by decide) (hts (.fieldLink RX13 150 "StoneWalkModel" "read" "LStoneWalkModel$Island;") (List.mem_of_getElem? (i := 1) (by decide +kernel))) rfl (t := 2) rfl (by show va_rf _ = _; rw [hN16]; rfl) dX13_known_60 ?_
                exact absurd h (by simp)
              · replace h := oc_s hN16 h
                have kb16 := hT.f k0 (k := 4) (t := 12) (n := 0) rfl hN16
                refine r_get (T := TX13) (v := .ref (ad b16)) hx hb hts in13 hown hK hP k0 (by decide) rfl 4 (by decide) (hts (.fieldLink RX13 150 "StoneWalkModel" "read" "LStoneWalkModel$Island;") (List.mem_of_getElem? (i := 1) (by decide +kernel))) rfl (t := 2) rfl (by show va_rf _ = _; rw [hN16]; rfl) dX13_known_60 ?_
                rcases hN17 : gR M b16 47 with _ | b17
                · exact absurd (oc_n hN17 h) (by simp)
                replace h := oc_s hN17 h
                have kb17 := hT.f kb16 (k := 47) (t := 15) (n := 35) rfl hN17
                refine r_getN (T := TX12) (v := .ref (ad b17)) hx hb hts in12 hown hK hP kb16 (by decide) rfl 47 (by decide) (hG.2.2.1 _ (List.mem_of_getElem? (i := 4) rfl)) rfl (t := 2) rfl (by show va_rf _ = _; rw [hN17]; rfl) dX13_known_63 ?_
                refine lv_iload_n hx hb dX13_known_66 rfl (lv_at hl 0 rfl) ?_
                obtain ⟨hn18, h⟩ := chk_some h
                refine r_iald hx hb hK hP kb17 hn18 dX13_known_67 ?_
                have hZ := Option.some.inj h
                exact r_iret hx hb hr hlocks hP hK hD hT hG hS (congrArg Prod.fst hZ) (congrArg Prod.snd hZ) dX13_known_68
            · replace h := ite_t c15 h
              refine lv_iconst (v := 0) hx hb dX13_known_55 rfl ?_
              refine lv_goto (tgt := 68) hx hb dX13_known_56 rfl ?_
              have hZ := Option.some.inj h
              exact r_iret hx hb hr hlocks hP hK hD hT hG hS (congrArg Prod.fst hZ) (congrArg Prod.snd hZ) dX13_known_68
          · replace h := ite_f c14 h
            refine lv_aload_n hx hb dX13_known_42 rfl (lv_at hl 1 rfl) ?_
            refine lv_iconst (v := 2) hx hb dX13_known_43 rfl ?_
            obtain ⟨z19, h19, h⟩ := ob_some h
            refine k_v (va_runV (As := [.int 2]) (rest := []) ⟨hx, hb, hml, hown, hts⟩ (c_X13_wrong (l := l) M a0 2 k0 h19) (cwV 1 hts gX13_known_X13_wrong rfl rfl rfl hdV_X13_wrong ⟨Nat.le_of_ble_eq_true rfl, Nat.le_of_ble_eq_true rfl⟩) (pV (T := TX13) hP hK hD hT hG hS k0 (by decide) rfl) rfl rfl hl.1 rfl (lv_room (Nat.le_of_ble_eq_true rfl)) dX13_known_44 ⟨Nat.zero_le _, Nat.zero_le _⟩) hS (fun H locs hP hD hT hS => ?_)
            refine lv_aload_n hx hb dX13_known_47 rfl (lv_at hl 1 rfl) ?_
            refine r_get (T := TX13) (v := .int (gI z19 a0 9)) hx hb hts in13 hown hK hP k0 (by decide) rfl 9 (by decide) (hts (.fieldLink RX13 58 "StoneWalkModel" "sort" "I") (List.mem_of_getElem? (i := 3) (by decide +kernel))) rfl (t := 0) rfl rfl dX13_known_48 ?_
            refine lv_iconst (v := 5) hx hb dX13_known_51 rfl ?_
            refine lv_icmp_ne (tgt := 59) hx hb dX13_known_52 rfl (fun c20 => ?_) (fun c20 => ?_)
            · replace h := ite_f c20 h
              refine lv_aload_n hx hb dX13_known_59 rfl (lv_at hl 1 rfl) ?_
              rcases hN21 : gR z19 a0 4 with _ | b21
              · replace h := oc_n hN21 h
                refine r_get (T := TX13) (v := .null) hx hb hts in13 hown hK hP k0 (by decide) rfl 4 (by decide) (hts (.fieldLink RX13 150 "StoneWalkModel" "read" "LStoneWalkModel$Island;") (List.mem_of_getElem? (i := 1) (by decide +kernel))) rfl (t := 2) rfl (by show va_rf _ = _; rw [hN21]; rfl) dX13_known_60 ?_
                exact absurd h (by simp)
              · replace h := oc_s hN21 h
                have kb21 := hT.f k0 (k := 4) (t := 12) (n := 0) rfl hN21
                refine r_get (T := TX13) (v := .ref (ad b21)) hx hb hts in13 hown hK hP k0 (by decide) rfl 4 (by decide) (hts (.fieldLink RX13 150 "StoneWalkModel" "read" "LStoneWalkModel$Island;") (List.mem_of_getElem? (i := 1) (by decide +kernel))) rfl (t := 2) rfl (by show va_rf _ = _; rw [hN21]; rfl) dX13_known_60 ?_
                rcases hN22 : gR z19 b21 47 with _ | b22
                · exact absurd (oc_n hN22 h) (by simp)
                replace h := oc_s hN22 h
                have kb22 := hT.f kb21 (k := 47) (t := 15) (n := 35) rfl hN22
                refine r_getN (T := TX12) (v := .ref (ad b22)) hx hb hts in12 hown hK hP kb21 (by decide) rfl 47 (by decide) (hG.2.2.1 _ (List.mem_of_getElem? (i := 4) rfl)) rfl (t := 2) rfl (by show va_rf _ = _; rw [hN22]; rfl) dX13_known_63 ?_
                refine lv_iload_n hx hb dX13_known_66 rfl (lv_at hl 0 rfl) ?_
                obtain ⟨hn23, h⟩ := chk_some h
                refine r_iald hx hb hK hP kb22 hn23 dX13_known_67 ?_
                have hZ := Option.some.inj h
                exact r_iret hx hb hr hlocks hP hK hD hT hG hS (congrArg Prod.fst hZ) (congrArg Prod.snd hZ) dX13_known_68
            · replace h := ite_t c20 h
              refine lv_iconst (v := 0) hx hb dX13_known_55 rfl ?_
              refine lv_goto (tgt := 68) hx hb dX13_known_56 rfl ?_
              have hZ := Option.some.inj h
              exact r_iret hx hb hr hlocks hP hK hD hT hG hS (congrArg Prod.fst hZ) (congrArg Prod.snd hZ) dX13_known_68
  · replace h := ite_t c2 h
    refine lv_aload_n hx hb dX13_known_7 rfl (lv_at hl 0 rfl) ?_
    refine lv_iconst (v := 1) hx hb dX13_known_8 rfl ?_
    obtain ⟨z24, h24, h⟩ := ob_some h
    refine k_v (va_runV (As := [.int 1]) (rest := []) ⟨hx, hb, hml, hown, hts⟩ (c_X13_wrong (l := l) M a0 1 k0 h24) (cwV 1 hts gX13_known_X13_wrong rfl rfl rfl hdV_X13_wrong ⟨Nat.le_of_ble_eq_true rfl, Nat.le_of_ble_eq_true rfl⟩) (pV (T := TX13) hP hK hD hT hG hS k0 (by decide) rfl) rfl rfl hl.1 rfl (lv_room (Nat.le_of_ble_eq_true rfl)) dX13_known_9 ⟨Nat.zero_le _, Nat.zero_le _⟩) hS (fun H locs hP hD hT hS => ?_)
    refine lv_aload_n hx hb dX13_known_12 rfl (lv_at hl 0 rfl) ?_
    rcases hN25 : gR z24 a0 4 with _ | b25
    · replace h := oc_n hN25 h
      refine r_get (T := TX13) (v := .null) hx hb hts in13 hown hK hP k0 (by decide) rfl 4 (by decide) (hts (.fieldLink RX13 150 "StoneWalkModel" "read" "LStoneWalkModel$Island;") (List.mem_of_getElem? (i := 1) (by decide +kernel))) rfl (t := 2) rfl (by show va_rf _ = _; rw [hN25]; rfl) dX13_known_13 ?_
      refine lv_aload_n hx hb dX13_known_16 rfl (lv_at hl 0 rfl) ?_
      refine r_get (T := TX13) (v := .long (gL z24 a0 15)) hx hb hts in13 hown hK hP k0 (by decide) rfl 15 (by decide) (hts (.fieldLink RX13 77 "StoneWalkModel" "word" "J") (List.mem_of_getElem? (i := 2) (by decide +kernel))) rfl (t := 1) rfl rfl dX13_known_17 ?_
      exact absurd h (by simp)
    · replace h := oc_s hN25 h
      have kb25 := hT.f k0 (k := 4) (t := 12) (n := 0) rfl hN25
      refine r_get (T := TX13) (v := .ref (ad b25)) hx hb hts in13 hown hK hP k0 (by decide) rfl 4 (by decide) (hts (.fieldLink RX13 150 "StoneWalkModel" "read" "LStoneWalkModel$Island;") (List.mem_of_getElem? (i := 1) (by decide +kernel))) rfl (t := 2) rfl (by show va_rf _ = _; rw [hN25]; rfl) dX13_known_13 ?_
      refine lv_aload_n hx hb dX13_known_16 rfl (lv_at hl 0 rfl) ?_
      refine r_get (T := TX13) (v := .long (gL z24 a0 15)) hx hb hts in13 hown hK hP k0 (by decide) rfl 15 (by decide) (hts (.fieldLink RX13 77 "StoneWalkModel" "word" "J") (List.mem_of_getElem? (i := 2) (by decide +kernel))) rfl (t := 1) rfl rfl dX13_known_17 ?_
      obtain ⟨z26, h26, h⟩ := ob_some h
      refine k_i (va_runV (As := [.long (gL z24 a0 15)]) (rest := []) ⟨hx, hb, hml, hown, hts⟩ (c_X12_find (l := l) z24 b25 (gL z24 a0 15) kb25 h26) (cwV 1 hts gX13_known_X12_find rfl rfl rfl hdV_X12_find ⟨Nat.le_of_ble_eq_true rfl, Nat.le_of_ble_eq_true rfl⟩) (pV (T := TX12) hP hK hD hT hG hS kb25 (by decide) rfl) rfl rfl hl.1 rfl (lv_room (Nat.le_of_ble_eq_true rfl)) dX13_known_20 ⟨Nat.zero_le _, Nat.zero_le _⟩) hS (fun H locs hP hD hT hS => ?_)
      refine lv_istore_n (lv' := [(2, .int z26), (0, .ref (ad a0)), (1, .int x1)]) hx hb dX13_known_23 rfl hl (by decide) rfl (fun ls hl => ?_)
      refine lv_iload_n hx hb dX13_known_24 rfl (lv_at hl 0 rfl) ?_
      refine lv_iconst (v := (-1)) hx hb dX13_known_25 rfl ?_
      refine lv_icmp_eq (tgt := 42) hx hb dX13_known_26 rfl (fun c27 => ?_) (fun c27 => ?_)
      · replace h := ite_t c27 h
        refine lv_aload_n hx hb dX13_known_42 rfl (lv_at hl 1 rfl) ?_
        refine lv_iconst (v := 2) hx hb dX13_known_43 rfl ?_
        obtain ⟨z28, h28, h⟩ := ob_some h
        refine k_v (va_runV (As := [.int 2]) (rest := []) ⟨hx, hb, hml, hown, hts⟩ (c_X13_wrong (l := l) z24 a0 2 k0 h28) (cwV 1 hts gX13_known_X13_wrong rfl rfl rfl hdV_X13_wrong ⟨Nat.le_of_ble_eq_true rfl, Nat.le_of_ble_eq_true rfl⟩) (pV (T := TX13) hP hK hD hT hG hS k0 (by decide) rfl) rfl rfl hl.1 rfl (lv_room (Nat.le_of_ble_eq_true rfl)) dX13_known_44 ⟨Nat.zero_le _, Nat.zero_le _⟩) hS (fun H locs hP hD hT hS => ?_)
        refine lv_aload_n hx hb dX13_known_47 rfl (lv_at hl 1 rfl) ?_
        refine r_get (T := TX13) (v := .int (gI z28 a0 9)) hx hb hts in13 hown hK hP k0 (by decide) rfl 9 (by decide) (hts (.fieldLink RX13 58 "StoneWalkModel" "sort" "I") (List.mem_of_getElem? (i := 3) (by decide +kernel))) rfl (t := 0) rfl rfl dX13_known_48 ?_
        refine lv_iconst (v := 5) hx hb dX13_known_51 rfl ?_
        refine lv_icmp_ne (tgt := 59) hx hb dX13_known_52 rfl (fun c29 => ?_) (fun c29 => ?_)
        · replace h := ite_f c29 h
          refine lv_aload_n hx hb dX13_known_59 rfl (lv_at hl 1 rfl) ?_
          rcases hN30 : gR z28 a0 4 with _ | b30
          · replace h := oc_n hN30 h
            refine r_get (T := TX13) (v := .null) hx hb hts in13 hown hK hP k0 (by decide) rfl 4 (by decide) (hts (.fieldLink RX13 150 "StoneWalkModel" "read" "LStoneWalkModel$Island;") (List.mem_of_getElem? (i := 1) (by decide +kernel))) rfl (t := 2) rfl (by show va_rf _ = _; rw [hN30]; rfl) dX13_known_60 ?_
            exact absurd h (by simp)
          · replace h := oc_s hN30 h
            have kb30 := hT.f k0 (k := 4) (t := 12) (n := 0) rfl hN30
            refine r_get (T := TX13) (v := .ref (ad b30)) hx hb hts in13 hown hK hP k0 (by decide) rfl 4 (by decide) (hts (.fieldLink RX13 150 "StoneWalkModel" "read" "LStoneWalkModel$Island;") (List.mem_of_getElem? (i := 1) (by decide +kernel))) rfl (t := 2) rfl (by show va_rf _ = _; rw [hN30]; rfl) dX13_known_60 ?_
            rcases hN31 : gR z28 b30 47 with _ | b31
            · exact absurd (oc_n hN31 h) (by simp)
            replace h := oc_s hN31 h
            have kb31 := hT.f kb30 (k := 47) (t := 15) (n := 35) rfl hN31
            refine r_getN (T := TX12) (v := .ref (ad b31)) hx hb hts in12 hown hK hP kb30 (by decide) rfl 47 (by decide) (hG.2.2.1 _ (List.mem_of_getElem? (i := 4) rfl)) rfl (t := 2) rfl (by show va_rf _ = _; rw [hN31]; rfl) dX13_known_63 ?_
            refine lv_iload_n hx hb dX13_known_66 rfl (lv_at hl 0 rfl) ?_
            obtain ⟨hn32, h⟩ := chk_some h
            refine r_iald hx hb hK hP kb31 hn32 dX13_known_67 ?_
            have hZ := Option.some.inj h
            exact r_iret hx hb hr hlocks hP hK hD hT hG hS (congrArg Prod.fst hZ) (congrArg Prod.snd hZ) dX13_known_68
        · replace h := ite_t c29 h
          refine lv_iconst (v := 0) hx hb dX13_known_55 rfl ?_
          refine lv_goto (tgt := 68) hx hb dX13_known_56 rfl ?_
          have hZ := Option.some.inj h
          exact r_iret hx hb hr hlocks hP hK hD hT hG hS (congrArg Prod.fst hZ) (congrArg Prod.snd hZ) dX13_known_68
      · replace h := ite_f c27 h
        refine lv_aload_n hx hb dX13_known_29 rfl (lv_at hl 1 rfl) ?_
        rcases hN33 : gR z24 a0 4 with _ | b33
        · replace h := oc_n hN33 h
          refine r_get (T := TX13) (v := .null) hx hb hts in13 hown hK hP k0 (by decide) rfl 4 (by decide) (hts (.fieldLink RX13 150 "StoneWalkModel" "read" "LStoneWalkModel$Island;") (List.mem_of_getElem? (i := 1) (by decide +kernel))) rfl (t := 2) rfl (by show va_rf _ = _; rw [hN33]; rfl) dX13_known_30 ?_
          exact absurd h (by simp)
        · replace h := oc_s hN33 h
          have kb33 := hT.f k0 (k := 4) (t := 12) (n := 0) rfl hN33
          refine r_get (T := TX13) (v := .ref (ad b33)) hx hb hts in13 hown hK hP k0 (by decide) rfl 4 (by decide) (hts (.fieldLink RX13 150 "StoneWalkModel" "read" "LStoneWalkModel$Island;") (List.mem_of_getElem? (i := 1) (by decide +kernel))) rfl (t := 2) rfl (by show va_rf _ = _; rw [hN33]; rfl) dX13_known_30 ?_
          rcases hN34 : gR z24 b33 46 with _ | b34
          · exact absurd (oc_n hN34 h) (by simp)
          replace h := oc_s hN34 h
          have kb34 := hT.f kb33 (k := 46) (t := 15) (n := 35) rfl hN34
          refine r_getN (T := TX12) (v := .ref (ad b34)) hx hb hts in12 hown hK hP kb33 (by decide) rfl 46 (by decide) (hG.2.2.1 _ (List.mem_of_getElem? (i := 3) rfl)) rfl (t := 2) rfl (by show va_rf _ = _; rw [hN34]; rfl) dX13_known_33 ?_
          refine lv_iload_n hx hb dX13_known_36 rfl (lv_at hl 0 rfl) ?_
          obtain ⟨hn35, h⟩ := chk_some h
          refine r_iald hx hb hK hP kb34 hn35 dX13_known_37 ?_
          refine lv_iload_n hx hb dX13_known_38 rfl (lv_at hl 2 rfl) ?_
          refine lv_icmp_eq (tgt := 47) hx hb dX13_known_39 rfl (fun c36 => ?_) (fun c36 => ?_)
          · replace h := ite_t c36 h
            refine lv_aload_n hx hb dX13_known_47 rfl (lv_at hl 1 rfl) ?_
            refine r_get (T := TX13) (v := .int (gI z24 a0 9)) hx hb hts in13 hown hK hP k0 (by decide) rfl 9 (by decide) (hts (.fieldLink RX13 58 "StoneWalkModel" "sort" "I") (List.mem_of_getElem? (i := 3) (by decide +kernel))) rfl (t := 0) rfl rfl dX13_known_48 ?_
            refine lv_iconst (v := 5) hx hb dX13_known_51 rfl ?_
            refine lv_icmp_ne (tgt := 59) hx hb dX13_known_52 rfl (fun c37 => ?_) (fun c37 => ?_)
            · replace h := ite_f c37 h
              refine lv_aload_n hx hb dX13_known_59 rfl (lv_at hl 1 rfl) ?_
              rcases hN38 : gR z24 a0 4 with _ | b38
              · replace h := oc_n hN38 h
                refine r_get (T := TX13) (v := .null) hx hb hts in13 hown hK hP k0 (by decide) rfl 4 (by decide) (hts (.fieldLink RX13 150 "StoneWalkModel" "read" "LStoneWalkModel$Island;") (List.mem_of_getElem? (i := 1) (by decide +kernel))) rfl (t := 2) rfl (by show va_rf _ = _; rw [hN38]; rfl) dX13_known_60 ?_
                exact absurd h (by simp)
              · replace h := oc_s hN38 h
                have kb38 := hT.f k0 (k := 4) (t := 12) (n := 0) rfl hN38
                refine r_get (T := TX13) (v := .ref (ad b38)) hx hb hts in13 hown hK hP k0 (by decide) rfl 4 (by decide) (hts (.fieldLink RX13 150 "StoneWalkModel" "read" "LStoneWalkModel$Island;") (List.mem_of_getElem? (i := 1) (by decide +kernel))) rfl (t := 2) rfl (by show va_rf _ = _; rw [hN38]; rfl) dX13_known_60 ?_
                rcases hN39 : gR z24 b38 47 with _ | b39
                · exact absurd (oc_n hN39 h) (by simp)
                replace h := oc_s hN39 h
                have kb39 := hT.f kb38 (k := 47) (t := 15) (n := 35) rfl hN39
                refine r_getN (T := TX12) (v := .ref (ad b39)) hx hb hts in12 hown hK hP kb38 (by decide) rfl 47 (by decide) (hG.2.2.1 _ (List.mem_of_getElem? (i := 4) rfl)) rfl (t := 2) rfl (by show va_rf _ = _; rw [hN39]; rfl) dX13_known_63 ?_
                refine lv_iload_n hx hb dX13_known_66 rfl (lv_at hl 0 rfl) ?_
                obtain ⟨hn40, h⟩ := chk_some h
                refine r_iald hx hb hK hP kb39 hn40 dX13_known_67 ?_
                have hZ := Option.some.inj h
                exact r_iret hx hb hr hlocks hP hK hD hT hG hS (congrArg Prod.fst hZ) (congrArg Prod.snd hZ) dX13_known_68
            · replace h := ite_t c37 h
              refine lv_iconst (v := 0) hx hb dX13_known_55 rfl ?_
              refine lv_goto (tgt := 68) hx hb dX13_known_56 rfl ?_
              have hZ := Option.some.inj h
              exact r_iret hx hb hr hlocks hP hK hD hT hG hS (congrArg Prod.fst hZ) (congrArg Prod.snd hZ) dX13_known_68
          · replace h := ite_f c36 h
            refine lv_aload_n hx hb dX13_known_42 rfl (lv_at hl 1 rfl) ?_
            refine lv_iconst (v := 2) hx hb dX13_known_43 rfl ?_
            obtain ⟨z41, h41, h⟩ := ob_some h
            refine k_v (va_runV (As := [.int 2]) (rest := []) ⟨hx, hb, hml, hown, hts⟩ (c_X13_wrong (l := l) z24 a0 2 k0 h41) (cwV 1 hts gX13_known_X13_wrong rfl rfl rfl hdV_X13_wrong ⟨Nat.le_of_ble_eq_true rfl, Nat.le_of_ble_eq_true rfl⟩) (pV (T := TX13) hP hK hD hT hG hS k0 (by decide) rfl) rfl rfl hl.1 rfl (lv_room (Nat.le_of_ble_eq_true rfl)) dX13_known_44 ⟨Nat.zero_le _, Nat.zero_le _⟩) hS (fun H locs hP hD hT hS => ?_)
            refine lv_aload_n hx hb dX13_known_47 rfl (lv_at hl 1 rfl) ?_
            refine r_get (T := TX13) (v := .int (gI z41 a0 9)) hx hb hts in13 hown hK hP k0 (by decide) rfl 9 (by decide) (hts (.fieldLink RX13 58 "StoneWalkModel" "sort" "I") (List.mem_of_getElem? (i := 3) (by decide +kernel))) rfl (t := 0) rfl rfl dX13_known_48 ?_
            refine lv_iconst (v := 5) hx hb dX13_known_51 rfl ?_
            refine lv_icmp_ne (tgt := 59) hx hb dX13_known_52 rfl (fun c42 => ?_) (fun c42 => ?_)
            · replace h := ite_f c42 h
              refine lv_aload_n hx hb dX13_known_59 rfl (lv_at hl 1 rfl) ?_
              rcases hN43 : gR z41 a0 4 with _ | b43
              · replace h := oc_n hN43 h
                refine r_get (T := TX13) (v := .null) hx hb hts in13 hown hK hP k0 (by decide) rfl 4 (by decide) (hts (.fieldLink RX13 150 "StoneWalkModel" "read" "LStoneWalkModel$Island;") (List.mem_of_getElem? (i := 1) (by decide +kernel))) rfl (t := 2) rfl (by show va_rf _ = _; rw [hN43]; rfl) dX13_known_60 ?_
                exact absurd h (by simp)
              · replace h := oc_s hN43 h
                have kb43 := hT.f k0 (k := 4) (t := 12) (n := 0) rfl hN43
                refine r_get (T := TX13) (v := .ref (ad b43)) hx hb hts in13 hown hK hP k0 (by decide) rfl 4 (by decide) (hts (.fieldLink RX13 150 "StoneWalkModel" "read" "LStoneWalkModel$Island;") (List.mem_of_getElem? (i := 1) (by decide +kernel))) rfl (t := 2) rfl (by show va_rf _ = _; rw [hN43]; rfl) dX13_known_60 ?_
                rcases hN44 : gR z41 b43 47 with _ | b44
                · exact absurd (oc_n hN44 h) (by simp)
                replace h := oc_s hN44 h
                have kb44 := hT.f kb43 (k := 47) (t := 15) (n := 35) rfl hN44
                refine r_getN (T := TX12) (v := .ref (ad b44)) hx hb hts in12 hown hK hP kb43 (by decide) rfl 47 (by decide) (hG.2.2.1 _ (List.mem_of_getElem? (i := 4) rfl)) rfl (t := 2) rfl (by show va_rf _ = _; rw [hN44]; rfl) dX13_known_63 ?_
                refine lv_iload_n hx hb dX13_known_66 rfl (lv_at hl 0 rfl) ?_
                obtain ⟨hn45, h⟩ := chk_some h
                refine r_iald hx hb hK hP kb44 hn45 dX13_known_67 ?_
                have hZ := Option.some.inj h
                exact r_iret hx hb hr hlocks hP hK hD hT hG hS (congrArg Prod.fst hZ) (congrArg Prod.snd hZ) dX13_known_68
            · replace h := ite_t c42 h
              refine lv_iconst (v := 0) hx hb dX13_known_55 rfl ?_
              refine lv_goto (tgt := 68) hx hb dX13_known_56 rfl ?_
              have hZ := Option.some.inj h
              exact r_iret hx hb hr hlocks hP hK hD hT hG hS (congrArg Prod.fst hZ) (congrArg Prod.snd hZ) dX13_known_68
set_option maxHeartbeats 4000000 in
set_option maxRecDepth 100000 in
theorem c_X13_readKnown {l : Launch} {D : va_G} {ad : Nat → Nat} {cy : Nat → ClassId} {A : Nat → Prop} {g : CG} {q : SE} (M : MM) (a0 : Nat) (x1 : Int32) (k0 : ok g a0 13 0) {Z : (Int32 × MM)} (h : f_X13_readKnown M a0 x1 = some Z) : Met l yX13_readKnown wsX13_readKnown ({ frames := 8, cells := 0, slots := 0, locals := 171 }) (va_Pc [.ref (ad a0), .int x1] (Wd D ad cy A g q M)) (va_Qi (fun r u => r = Z.1 ∧ u = Z.2) (Wd D ad cy A g q) A) 0 0 A := by
  refine Met.ofW (cc := cX13_readKnown) (maxL := 3) (ret := (some .int)) (by decide) rfl ?_
  intro p e s m args below meth c s₁ B hml hv
  obtain ⟨rfl, hP, hK, hD, hT, hG⟩ := hv
  have hx := B.exec
  have hb := B.bytes
  have hr := B.returns
  have hts := atoms_spec (ws := wsX13_readKnown) B.pre
  have hown : s.vm.findClass RX13 = some m.cls := findClass_of_methodNamed B.named
  have hlocks := B.notSynchronized
  have hS : va_S A s.heap s.heap [] := va_S.rf
  have hl := lv_entry ([.ref (ad a0), .int x1]) (n := 3) (Nat.le_of_ble_eq_true rfl)
  rw [lg_entry_eq]
  generalize (lg_sl ([.ref (ad a0), .int x1]) ++ List.replicate (3 - (lg_sl ([.ref (ad a0), .int x1])).length) Slot.unset).toArray = ls at hl ⊢
  have hl : lv_has ls 3 [(0, .ref (ad a0)), (1, .int x1)] := hl
  unfold f_X13_readKnown at h
  refine lv_aload_n hx hb dX13_readKnown_0 rfl (lv_at hl 0 rfl) ?_
  refine lv_iload_n hx hb dX13_readKnown_1 rfl (lv_at hl 1 rfl) ?_
  obtain ⟨z1, h1, h⟩ := ob_some h
  refine k_i (va_runV (As := [.int x1]) (rest := []) ⟨hx, hb, hml, hown, hts⟩ (c_X13_known (l := l) M a0 x1 k0 h1) (cwV 1 hts gX13_readKnown_X13_known rfl rfl rfl hdV_X13_known ⟨Nat.le_of_ble_eq_true rfl, Nat.le_of_ble_eq_true rfl⟩) (pV (T := TX13) hP hK hD hT hG hS k0 (by decide) rfl) rfl rfl hl.1 rfl (lv_room (Nat.le_of_ble_eq_true rfl)) dX13_readKnown_2 ⟨Nat.zero_le _, Nat.zero_le _⟩) hS (fun H locs hP hD hT hS => ?_)
  refine lv_istore_n (lv' := [(2, .int z1.1), (0, .ref (ad a0)), (1, .int x1)]) hx hb dX13_readKnown_5 rfl hl (by decide) rfl (fun ls hl => ?_)
  refine lv_aload_n hx hb dX13_readKnown_6 rfl (lv_at hl 1 rfl) ?_
  obtain ⟨z2, h2, h⟩ := ob_some h
  refine k_v (va_runV (As := []) (rest := []) ⟨hx, hb, hml, hown, hts⟩ (c_X13_goesOn (l := l) z1.2 a0 k0 h2) (cwV 0 hts gX13_readKnown_X13_goesOn rfl rfl rfl hdV_X13_goesOn ⟨Nat.le_of_ble_eq_true rfl, Nat.le_of_ble_eq_true rfl⟩) (pV (T := TX13) hP hK hD hT hG hS k0 (by decide) rfl) rfl rfl hl.1 rfl (lv_room (Nat.le_of_ble_eq_true rfl)) dX13_readKnown_7 ⟨Nat.zero_le _, Nat.zero_le _⟩) hS (fun H locs hP hD hT hS => ?_)
  refine lv_iload_n hx hb dX13_readKnown_10 rfl (lv_at hl 0 rfl) ?_
  have hZ := Option.some.inj h
  exact r_iret hx hb hr hlocks hP hK hD hT hG hS (congrArg Prod.fst hZ) (congrArg Prod.snd hZ) dX13_readKnown_11
set_option maxHeartbeats 4000000 in
set_option maxRecDepth 100000 in
theorem c_X13_isSlope {l : Launch} {D : va_G} {ad : Nat → Nat} {cy : Nat → ClassId} {A : Nat → Prop} {g : CG} {q : SE} (M : MM) (a0 : Nat) (k0 : ok g a0 13 0) {Z : Int32} (h : f_X13_isSlope M a0 = some Z) : Met l yX13_isSlope wsX13_isSlope ({ frames := 6, cells := 0, slots := 0, locals := 129 }) (va_Pc [.ref (ad a0)] (Wd D ad cy A g q M)) (va_Qi (fun r u => r = Z ∧ u = M ∧ zb r) (Wd D ad cy A g q) A) 0 0 A := by
  refine Met.ofW (cc := cX13_isSlope) (maxL := 1) (ret := (some .boolean)) (by decide) rfl ?_
  intro p e s m args below meth c s₁ B hml hv
  obtain ⟨rfl, hP, hK, hD, hT, hG⟩ := hv
  have hx := B.exec
  have hb := B.bytes
  have hr := B.returns
  have hts := atoms_spec (ws := wsX13_isSlope) B.pre
  have hown : s.vm.findClass RX13 = some m.cls := findClass_of_methodNamed B.named
  have hlocks := B.notSynchronized
  have hS : va_S A s.heap s.heap [] := va_S.rf
  have hl := lv_entry ([.ref (ad a0)]) (n := 1) (Nat.le_of_ble_eq_true rfl)
  rw [lg_entry_eq]
  generalize (lg_sl ([.ref (ad a0)]) ++ List.replicate (1 - (lg_sl ([.ref (ad a0)])).length) Slot.unset).toArray = ls at hl ⊢
  have hl : lv_has ls 1 [(0, .ref (ad a0))] := hl
  unfold f_X13_isSlope at h
  refine lv_aload_n hx hb dX13_isSlope_0 rfl (lv_at hl 0 rfl) ?_
  refine r_ldcS (tx := "up") (i := 40) hx hb hG hown (by decide +kernel) dX13_isSlope_1 ?_
  obtain ⟨z1, h1, h⟩ := ob_some h
  refine k_z (va_runV (As := [.ref (q.2.1 40)]) (rest := []) ⟨hx, hb, hml, hown, hts⟩ (c_X13_isWord (l := l) M a0 40 k0 (by decide) h1) (cwV 1 hts gX13_isSlope_X13_isWord rfl rfl rfl hdV_X13_isWord ⟨Nat.le_of_ble_eq_true rfl, Nat.le_of_ble_eq_true rfl⟩) (pV (T := TX13) hP hK hD hT hG hS k0 (by decide) rfl) rfl rfl hl.1 rfl (lv_room (Nat.le_of_ble_eq_true rfl)) dX13_isSlope_3 ⟨Nat.zero_le _, Nat.zero_le _⟩) hS (fun H locs hz1 hP hD hT hS => ?_)
  refine lv_if_ne (tgt := 18) hx hb dX13_isSlope_6 rfl (fun c2 => ?_) (fun c2 => ?_)
  · replace h := ite_f c2 h
    refine lv_iconst (v := 1) hx hb dX13_isSlope_18 rfl ?_
    refine lv_goto (tgt := 23) hx hb dX13_isSlope_19 rfl ?_
    exact r_zret hx hb hr hlocks hP hK hD hT hG hS zb_1 (Option.some.inj h) rfl dX13_isSlope_23
  · replace h := ite_t c2 h
    refine lv_aload_n hx hb dX13_isSlope_9 rfl (lv_at hl 0 rfl) ?_
    refine r_ldcS (tx := "down") (i := 41) hx hb hG hown (by decide +kernel) dX13_isSlope_10 ?_
    obtain ⟨z3, h3, h⟩ := ob_some h
    refine k_z (va_runV (As := [.ref (q.2.1 41)]) (rest := []) ⟨hx, hb, hml, hown, hts⟩ (c_X13_isWord (l := l) M a0 41 k0 (by decide) h3) (cwV 1 hts gX13_isSlope_X13_isWord rfl rfl rfl hdV_X13_isWord ⟨Nat.le_of_ble_eq_true rfl, Nat.le_of_ble_eq_true rfl⟩) (pV (T := TX13) hP hK hD hT hG hS k0 (by decide) rfl) rfl rfl hl.1 rfl (lv_room (Nat.le_of_ble_eq_true rfl)) dX13_isSlope_12 ⟨Nat.zero_le _, Nat.zero_le _⟩) hS (fun H locs hz3 hP hD hT hS => ?_)
    refine lv_if_eq (tgt := 22) hx hb dX13_isSlope_15 rfl (fun c4 => ?_) (fun c4 => ?_)
    · replace h := ite_t c4 h
      refine lv_iconst (v := 0) hx hb dX13_isSlope_22 rfl ?_
      exact r_zret hx hb hr hlocks hP hK hD hT hG hS zb_0 (Option.some.inj h) rfl dX13_isSlope_23
    · replace h := ite_f c4 h
      refine lv_iconst (v := 1) hx hb dX13_isSlope_18 rfl ?_
      refine lv_goto (tgt := 23) hx hb dX13_isSlope_19 rfl ?_
      exact r_zret hx hb hr hlocks hP hK hD hT hG hS zb_1 (Option.some.inj h) rfl dX13_isSlope_23
set_option maxHeartbeats 4000000 in
set_option maxRecDepth 100000 in
theorem c_X13_readSlope {l : Launch} {D : va_G} {ad : Nat → Nat} {cy : Nat → ClassId} {A : Nat → Prop} {g : CG} {q : SE} (M : MM) (a0 : Nat) (k0 : ok g a0 13 0) {Z : (Int32 × MM)} (h : f_X13_readSlope M a0 = some Z) : Met l yX13_readSlope wsX13_readSlope ({ frames := 7, cells := 0, slots := 0, locals := 149 }) (va_Pc [.ref (ad a0)] (Wd D ad cy A g q M)) (va_Qi (fun r u => r = Z.1 ∧ u = Z.2) (Wd D ad cy A g q) A) 0 0 A := by
  refine Met.ofW (cc := cX13_readSlope) (maxL := 3) (ret := (some .int)) (by decide) rfl ?_
  intro p e s m args below meth c s₁ B hml hv
  obtain ⟨rfl, hP, hK, hD, hT, hG⟩ := hv
  have hx := B.exec
  have hb := B.bytes
  have hr := B.returns
  have hts := atoms_spec (ws := wsX13_readSlope) B.pre
  have hown : s.vm.findClass RX13 = some m.cls := findClass_of_methodNamed B.named
  have hlocks := B.notSynchronized
  have hS : va_S A s.heap s.heap [] := va_S.rf
  have hl := lv_entry ([.ref (ad a0)]) (n := 3) (Nat.le_of_ble_eq_true rfl)
  rw [lg_entry_eq]
  generalize (lg_sl ([.ref (ad a0)]) ++ List.replicate (3 - (lg_sl ([.ref (ad a0)])).length) Slot.unset).toArray = ls at hl ⊢
  have hl : lv_has ls 3 [(0, .ref (ad a0))] := hl
  unfold f_X13_readSlope at h
  refine lv_aload_n hx hb dX13_readSlope_0 rfl (lv_at hl 0 rfl) ?_
  refine r_ldcS (tx := "down") (i := 41) hx hb hG hown (by decide +kernel) dX13_readSlope_1 ?_
  obtain ⟨z1, h1, h⟩ := ob_some h
  refine k_z (va_runV (As := [.ref (q.2.1 41)]) (rest := []) ⟨hx, hb, hml, hown, hts⟩ (c_X13_isWord (l := l) M a0 41 k0 (by decide) h1) (cwV 1 hts gX13_readSlope_X13_isWord rfl rfl rfl hdV_X13_isWord ⟨Nat.le_of_ble_eq_true rfl, Nat.le_of_ble_eq_true rfl⟩) (pV (T := TX13) hP hK hD hT hG hS k0 (by decide) rfl) rfl rfl hl.1 rfl (lv_room (Nat.le_of_ble_eq_true rfl)) dX13_readSlope_3 ⟨Nat.zero_le _, Nat.zero_le _⟩) hS (fun H locs hz1 hP hD hT hS => ?_)
  refine lv_istore_n (lv' := [(1, .int z1), (0, .ref (ad a0))]) hx hb dX13_readSlope_6 rfl hl (by decide) rfl (fun ls hl => ?_)
  refine lv_aload_n hx hb dX13_readSlope_7 rfl (lv_at hl 1 rfl) ?_
  obtain ⟨z2, h2, h⟩ := ob_some h
  refine k_z (va_runV (As := []) (rest := []) ⟨hx, hb, hml, hown, hts⟩ (c_X13_isSlope (l := l) M a0 k0 h2) (cwV 0 hts gX13_readSlope_X13_isSlope rfl rfl rfl hdV_X13_isSlope ⟨Nat.le_of_ble_eq_true rfl, Nat.le_of_ble_eq_true rfl⟩) (pV (T := TX13) hP hK hD hT hG hS k0 (by decide) rfl) rfl rfl hl.1 rfl (lv_room (Nat.le_of_ble_eq_true rfl)) dX13_readSlope_8 ⟨Nat.zero_le _, Nat.zero_le _⟩) hS (fun H locs hz2 hP hD hT hS => ?_)
  refine lv_if_ne (tgt := 19) hx hb dX13_readSlope_11 rfl (fun c3 => ?_) (fun c3 => ?_)
  · replace h := ite_f c3 h
    refine lv_aload_n hx hb dX13_readSlope_19 rfl (lv_at hl 1 rfl) ?_
    obtain ⟨z4, h4, h⟩ := ob_some h
    refine k_v (va_runV (As := []) (rest := []) ⟨hx, hb, hml, hown, hts⟩ (c_X13_goesOn (l := l) M a0 k0 h4) (cwV 0 hts gX13_readSlope_X13_goesOn rfl rfl rfl hdV_X13_goesOn ⟨Nat.le_of_ble_eq_true rfl, Nat.le_of_ble_eq_true rfl⟩) (pV (T := TX13) hP hK hD hT hG hS k0 (by decide) rfl) rfl rfl hl.1 rfl (lv_room (Nat.le_of_ble_eq_true rfl)) dX13_readSlope_20 ⟨Nat.zero_le _, Nat.zero_le _⟩) hS (fun H locs hP hD hT hS => ?_)
    refine lv_aload_n hx hb dX13_readSlope_23 rfl (lv_at hl 1 rfl) ?_
    refine lv_iconst (v := 0) hx hb dX13_readSlope_24 rfl ?_
    refine lv_bipush (v := 20) hx hb dX13_readSlope_25 rfl ?_
    obtain ⟨z5, h5, h⟩ := ob_some h
    refine k_i (va_runV (As := [.int 0, .int 20]) (rest := []) ⟨hx, hb, hml, hown, hts⟩ (c_X13_readWhole (l := l) z4 a0 0 20 k0 h5) (cwV 2 hts gX13_readSlope_X13_readWhole rfl rfl rfl hdV_X13_readWhole ⟨Nat.le_of_ble_eq_true rfl, Nat.le_of_ble_eq_true rfl⟩) (pV (T := TX13) hP hK hD hT hG hS k0 (by decide) rfl) rfl rfl hl.1 rfl (lv_room (Nat.le_of_ble_eq_true rfl)) dX13_readSlope_27 ⟨Nat.zero_le _, Nat.zero_le _⟩) hS (fun H locs hP hD hT hS => ?_)
    refine lv_istore_n (lv' := [(2, .int z5.1), (1, .int z1), (0, .ref (ad a0))]) hx hb dX13_readSlope_30 rfl hl (by decide) rfl (fun ls hl => ?_)
    refine lv_iload_n hx hb dX13_readSlope_31 rfl (lv_at hl 1 rfl) ?_
    refine lv_if_eq (tgt := 40) hx hb dX13_readSlope_32 rfl (fun c6 => ?_) (fun c6 => ?_)
    · replace h := ite_t c6 h
      refine lv_iload_n hx hb dX13_readSlope_40 rfl (lv_at hl 0 rfl) ?_
      have hZ := Option.some.inj h
      exact r_iret hx hb hr hlocks hP hK hD hT hG hS (congrArg Prod.fst hZ) (congrArg Prod.snd hZ) dX13_readSlope_41
    · replace h := ite_f c6 h
      refine lv_iload_n hx hb dX13_readSlope_35 rfl (lv_at hl 0 rfl) ?_
      refine lv_ineg hx hb dX13_readSlope_36 ?_
      refine lv_goto (tgt := 41) hx hb dX13_readSlope_37 rfl ?_
      have hZ := Option.some.inj h
      exact r_iret hx hb hr hlocks hP hK hD hT hG hS (congrArg Prod.fst hZ) (congrArg Prod.snd hZ) dX13_readSlope_41
  · replace h := ite_t c3 h
    refine lv_aload_n hx hb dX13_readSlope_14 rfl (lv_at hl 1 rfl) ?_
    refine lv_iconst (v := 1) hx hb dX13_readSlope_15 rfl ?_
    obtain ⟨z7, h7, h⟩ := ob_some h
    refine k_v (va_runV (As := [.int 1]) (rest := []) ⟨hx, hb, hml, hown, hts⟩ (c_X13_wrong (l := l) M a0 1 k0 h7) (cwV 1 hts gX13_readSlope_X13_wrong rfl rfl rfl hdV_X13_wrong ⟨Nat.le_of_ble_eq_true rfl, Nat.le_of_ble_eq_true rfl⟩) (pV (T := TX13) hP hK hD hT hG hS k0 (by decide) rfl) rfl rfl hl.1 rfl (lv_room (Nat.le_of_ble_eq_true rfl)) dX13_readSlope_16 ⟨Nat.zero_le _, Nat.zero_le _⟩) hS (fun H locs hP hD hT hS => ?_)
    refine lv_aload_n hx hb dX13_readSlope_19 rfl (lv_at hl 1 rfl) ?_
    obtain ⟨z8, h8, h⟩ := ob_some h
    refine k_v (va_runV (As := []) (rest := []) ⟨hx, hb, hml, hown, hts⟩ (c_X13_goesOn (l := l) z7 a0 k0 h8) (cwV 0 hts gX13_readSlope_X13_goesOn rfl rfl rfl hdV_X13_goesOn ⟨Nat.le_of_ble_eq_true rfl, Nat.le_of_ble_eq_true rfl⟩) (pV (T := TX13) hP hK hD hT hG hS k0 (by decide) rfl) rfl rfl hl.1 rfl (lv_room (Nat.le_of_ble_eq_true rfl)) dX13_readSlope_20 ⟨Nat.zero_le _, Nat.zero_le _⟩) hS (fun H locs hP hD hT hS => ?_)
    refine lv_aload_n hx hb dX13_readSlope_23 rfl (lv_at hl 1 rfl) ?_
    refine lv_iconst (v := 0) hx hb dX13_readSlope_24 rfl ?_
    refine lv_bipush (v := 20) hx hb dX13_readSlope_25 rfl ?_
    obtain ⟨z9, h9, h⟩ := ob_some h
    refine k_i (va_runV (As := [.int 0, .int 20]) (rest := []) ⟨hx, hb, hml, hown, hts⟩ (c_X13_readWhole (l := l) z8 a0 0 20 k0 h9) (cwV 2 hts gX13_readSlope_X13_readWhole rfl rfl rfl hdV_X13_readWhole ⟨Nat.le_of_ble_eq_true rfl, Nat.le_of_ble_eq_true rfl⟩) (pV (T := TX13) hP hK hD hT hG hS k0 (by decide) rfl) rfl rfl hl.1 rfl (lv_room (Nat.le_of_ble_eq_true rfl)) dX13_readSlope_27 ⟨Nat.zero_le _, Nat.zero_le _⟩) hS (fun H locs hP hD hT hS => ?_)
    refine lv_istore_n (lv' := [(2, .int z9.1), (1, .int z1), (0, .ref (ad a0))]) hx hb dX13_readSlope_30 rfl hl (by decide) rfl (fun ls hl => ?_)
    refine lv_iload_n hx hb dX13_readSlope_31 rfl (lv_at hl 1 rfl) ?_
    refine lv_if_eq (tgt := 40) hx hb dX13_readSlope_32 rfl (fun c10 => ?_) (fun c10 => ?_)
    · replace h := ite_t c10 h
      refine lv_iload_n hx hb dX13_readSlope_40 rfl (lv_at hl 0 rfl) ?_
      have hZ := Option.some.inj h
      exact r_iret hx hb hr hlocks hP hK hD hT hG hS (congrArg Prod.fst hZ) (congrArg Prod.snd hZ) dX13_readSlope_41
    · replace h := ite_f c10 h
      refine lv_iload_n hx hb dX13_readSlope_35 rfl (lv_at hl 0 rfl) ?_
      refine lv_ineg hx hb dX13_readSlope_36 ?_
      refine lv_goto (tgt := 41) hx hb dX13_readSlope_37 rfl ?_
      have hZ := Option.some.inj h
      exact r_iret hx hb hr hlocks hP hK hD hT hG hS (congrArg Prod.fst hZ) (congrArg Prod.snd hZ) dX13_readSlope_41
set_option maxHeartbeats 4000000 in
set_option maxRecDepth 100000 in
theorem c_X13_readWay {l : Launch} {D : va_G} {ad : Nat → Nat} {cy : Nat → ClassId} {A : Nat → Prop} {g : CG} {q : SE} (M : MM) (a0 : Nat) (k0 : ok g a0 13 0) {Z : MM} (h : f_X13_readWay M a0 = some Z) : Met l yX13_readWay wsX13_readWay ({ frames := 8, cells := 0, slots := 0, locals := 173 }) (va_Pc [.ref (ad a0)] (Wd D ad cy A g q M)) (va_Qv (fun u => u = Z) (Wd D ad cy A g q) A) 0 0 A := by
  refine Met.ofW (cc := cX13_readWay) (maxL := 4) (ret := none) (by decide) rfl ?_
  intro p e s m args below meth c s₁ B hml hv
  obtain ⟨rfl, hP, hK, hD, hT, hG⟩ := hv
  have hx := B.exec
  have hb := B.bytes
  have hr := B.returns
  have hts := atoms_spec (ws := wsX13_readWay) B.pre
  have hown : s.vm.findClass RX13 = some m.cls := findClass_of_methodNamed B.named
  have hlocks := B.notSynchronized
  have in12 : ∀ w ∈ u_ws RX12 TX12 48, w ∈ wsX13_readWay := fun w h => List.mem_cons_of_mem _ (List.mem_append_right _ h)
  have in13 : ∀ w ∈ u_ws RX13 TX13 29, w ∈ wsX13_readWay := fun w h => List.mem_cons_of_mem _ (List.mem_append_left _ (List.mem_append_right _ h))
  have hS : va_S A s.heap s.heap [] := va_S.rf
  have hl := lv_entry ([.ref (ad a0)]) (n := 4) (Nat.le_of_ble_eq_true rfl)
  rw [lg_entry_eq]
  generalize (lg_sl ([.ref (ad a0)]) ++ List.replicate (4 - (lg_sl ([.ref (ad a0)])).length) Slot.unset).toArray = ls at hl ⊢
  have hl : lv_has ls 4 [(0, .ref (ad a0))] := hl
  unfold f_X13_readWay at h
  have J1 : ∀ (M1 : MM) (y1_0 : Nat) (w1_0 : Int32) (ky1_0 : ok g y1_0 13 0) (H : Heap) (locs : List Loc), f_X13_readWay_J77 M1 y1_0 w1_0 = some Z → va_P D vwCl (wd ad cy g M1) H → va_D A (wd ad cy g M1) → WT g M1 → va_S A s.heap H locs → ∀ (ls : Array Slot), lv_has ls 4 [(0, .ref (ad y1_0))] → W p l e ((headSpec wsX13_readWay ({ frames := 8, cells := 0, slots := 0, locals := 173 })).room) s m (([.ref (ad a0)] : List Value).toArray) below meth c H locs 0 0 (MQ below (va_Qv (fun u => u = Z) (Wd D ad cy A g q) A) ([.ref (ad a0)]).toArray s 0 0 A) (F0 m 77 ls [.int w1_0]) := by
    intro M1 y1_0 w1_0 ky1_0 H locs h hP hD hT hS ls hl
    unfold f_X13_readWay_J77 at h
    have J2 : ∀ (M2 : MM) (y2_0 : Nat) (y2_1 : Int32) (ky2_0 : ok g y2_0 13 0) (H : Heap) (locs : List Loc), f_X13_readWay_J88 M2 y2_0 y2_1 = some Z → va_P D vwCl (wd ad cy g M2) H → va_D A (wd ad cy g M2) → WT g M2 → va_S A s.heap H locs → ∀ (ls : Array Slot), lv_has ls 4 [(0, .ref (ad y2_0)), (1, .int y2_1)] → W p l e ((headSpec wsX13_readWay ({ frames := 8, cells := 0, slots := 0, locals := 173 })).room) s m (([.ref (ad a0)] : List Value).toArray) below meth c H locs 0 0 (MQ below (va_Qv (fun u => u = Z) (Wd D ad cy A g q) A) ([.ref (ad a0)]).toArray s 0 0 A) (F0 m 88 ls []) := by
      intro M2 y2_0 y2_1 ky2_0 H locs h hP hD hT hS ls hl
      unfold f_X13_readWay_J88 at h
      refine lv_aload_n hx hb dX13_readWay_88 rfl (lv_at hl 0 rfl) ?_
      obtain ⟨z3, h3, h⟩ := ob_some h
      refine k_v (va_runV (As := []) (rest := []) ⟨hx, hb, hml, hown, hts⟩ (c_X13_goesOn (l := l) M2 y2_0 ky2_0 h3) (cwV 0 hts gX13_readWay_X13_goesOn rfl rfl rfl hdV_X13_goesOn ⟨Nat.le_of_ble_eq_true rfl, Nat.le_of_ble_eq_true rfl⟩) (pV (T := TX13) hP hK hD hT hG hS ky2_0 (by decide) rfl) rfl rfl hl.1 rfl (lv_room (Nat.le_of_ble_eq_true rfl)) dX13_readWay_89 ⟨Nat.zero_le _, Nat.zero_le _⟩) hS (fun H locs hP hD hT hS => ?_)
      refine lv_aload_n hx hb dX13_readWay_92 rfl (lv_at hl 0 rfl) ?_
      refine r_ldcS (tx := "weighs") (i := 2) hx hb hG hown (by decide +kernel) dX13_readWay_93 ?_
      refine lv_iconst (v := 1) hx hb dX13_readWay_95 rfl ?_
      refine lv_bipush (v := 99) hx hb dX13_readWay_96 rfl ?_
      obtain ⟨z4, h4, h⟩ := ob_some h
      refine k_i (va_runV (As := [.ref (q.2.1 2), .int 1, .int 99]) (rest := []) ⟨hx, hb, hml, hown, hts⟩ (c_X13_readPart (l := l) z3 y2_0 2 1 99 ky2_0 (by decide) h4) (cwV 3 hts gX13_readWay_X13_readPart rfl rfl rfl hdV_X13_readPart ⟨Nat.le_of_ble_eq_true rfl, Nat.le_of_ble_eq_true rfl⟩) (pV (T := TX13) hP hK hD hT hG hS ky2_0 (by decide) rfl) rfl rfl hl.1 rfl (lv_room (Nat.le_of_ble_eq_true rfl)) dX13_readWay_98 ⟨Nat.zero_le _, Nat.zero_le _⟩) hS (fun H locs hP hD hT hS => ?_)
      refine lv_istore_n (lv' := [(2, .int z4.1), (0, .ref (ad y2_0)), (1, .int y2_1)]) hx hb dX13_readWay_101 rfl hl (by decide) rfl (fun ls hl => ?_)
      refine lv_aload_n hx hb dX13_readWay_102 rfl (lv_at hl 1 rfl) ?_
      refine r_ldcS (tx := "pull") (i := 3) hx hb hG hown (by decide +kernel) dX13_readWay_103 ?_
      refine lv_iconst (v := 1) hx hb dX13_readWay_105 rfl ?_
      refine lv_bipush (v := 20) hx hb dX13_readWay_106 rfl ?_
      obtain ⟨z5, h5, h⟩ := ob_some h
      refine k_i (va_runV (As := [.ref (q.2.1 3), .int 1, .int 20]) (rest := []) ⟨hx, hb, hml, hown, hts⟩ (c_X13_readPart (l := l) z4.2 y2_0 3 1 20 ky2_0 (by decide) h5) (cwV 3 hts gX13_readWay_X13_readPart rfl rfl rfl hdV_X13_readPart ⟨Nat.le_of_ble_eq_true rfl, Nat.le_of_ble_eq_true rfl⟩) (pV (T := TX13) hP hK hD hT hG hS ky2_0 (by decide) rfl) rfl rfl hl.1 rfl (lv_room (Nat.le_of_ble_eq_true rfl)) dX13_readWay_108 ⟨Nat.zero_le _, Nat.zero_le _⟩) hS (fun H locs hP hD hT hS => ?_)
      refine lv_istore_n (lv' := [(3, .int z5.1), (2, .int z4.1), (0, .ref (ad y2_0)), (1, .int y2_1)]) hx hb dX13_readWay_111 rfl hl (by decide) rfl (fun ls hl => ?_)
      refine lv_aload_n hx hb dX13_readWay_112 rfl (lv_at hl 2 rfl) ?_
      refine r_get (T := TX13) (v := .int (gI z5.2 y2_0 9)) hx hb hts in13 hown hK hP ky2_0 (by decide) rfl 9 (by decide) (hts (.fieldLink RX13 58 "StoneWalkModel" "sort" "I") (List.mem_of_getElem? (i := 2) (by decide +kernel))) rfl (t := 0) rfl rfl dX13_readWay_113 ?_
      refine lv_iconst (v := 5) hx hb dX13_readWay_116 rfl ?_
      refine lv_icmp_ne (tgt := 121) hx hb dX13_readWay_117 rfl (fun c6 => ?_) (fun c6 => ?_)
      · replace h := ite_f c6 h
        refine lv_aload_n hx hb dX13_readWay_121 rfl (lv_at hl 2 rfl) ?_
        rcases hN7 : gR z5.2 y2_0 4 with _ | b7
        · replace h := oc_n hN7 h
          refine r_get (T := TX13) (v := .null) hx hb hts in13 hown hK hP ky2_0 (by decide) rfl 4 (by decide) (hts (.fieldLink RX13 150 "StoneWalkModel" "read" "LStoneWalkModel$Island;") (List.mem_of_getElem? (i := 1) (by decide +kernel))) rfl (t := 2) rfl (by show va_rf _ = _; rw [hN7]; rfl) dX13_readWay_122 ?_
          exact absurd h (by simp)
        · replace h := oc_s hN7 h
          have kb7 := hT.f ky2_0 (k := 4) (t := 12) (n := 0) rfl hN7
          refine r_get (T := TX13) (v := .ref (ad b7)) hx hb hts in13 hown hK hP ky2_0 (by decide) rfl 4 (by decide) (hts (.fieldLink RX13 150 "StoneWalkModel" "read" "LStoneWalkModel$Island;") (List.mem_of_getElem? (i := 1) (by decide +kernel))) rfl (t := 2) rfl (by show va_rf _ = _; rw [hN7]; rfl) dX13_readWay_122 ?_
          rcases hN8 : gR z5.2 b7 9 with _ | b8
          · exact absurd (oc_n hN8 h) (by simp)
          replace h := oc_s hN8 h
          have kb8 := hT.f kb7 (k := 9) (t := 15) (n := 4) rfl hN8
          refine r_getN (T := TX12) (v := .ref (ad b8)) hx hb hts in12 hown hK hP kb7 (by decide) rfl 9 (by decide) (hG.2.2.1 _ (List.mem_of_getElem? (i := 8) rfl)) rfl (t := 2) rfl (by show va_rf _ = _; rw [hN8]; rfl) dX13_readWay_125 ?_
          refine lv_aload_n hx hb dX13_readWay_128 rfl (lv_at hl 2 rfl) ?_
          rcases hN9 : gR z5.2 y2_0 4 with _ | b9
          · replace h := oc_n hN9 h
            refine r_get (T := TX13) (v := .null) hx hb hts in13 hown hK hP ky2_0 (by decide) rfl 4 (by decide) (hts (.fieldLink RX13 150 "StoneWalkModel" "read" "LStoneWalkModel$Island;") (List.mem_of_getElem? (i := 1) (by decide +kernel))) rfl (t := 2) rfl (by show va_rf _ = _; rw [hN9]; rfl) dX13_readWay_129 ?_
            exact absurd h (by simp)
          · replace h := oc_s hN9 h
            have kb9 := hT.f ky2_0 (k := 4) (t := 12) (n := 0) rfl hN9
            refine r_get (T := TX13) (v := .ref (ad b9)) hx hb hts in13 hown hK hP ky2_0 (by decide) rfl 4 (by decide) (hts (.fieldLink RX13 150 "StoneWalkModel" "read" "LStoneWalkModel$Island;") (List.mem_of_getElem? (i := 1) (by decide +kernel))) rfl (t := 2) rfl (by show va_rf _ = _; rw [hN9]; rfl) dX13_readWay_129 ?_
            refine r_getN (T := TX12) (v := .int (gI z5.2 b9 0)) hx hb hts in12 hown hK hP kb9 (by decide) rfl 0 (by decide) (hG.2.2.1 _ (List.mem_of_getElem? (i := 5) rfl)) rfl (t := 0) rfl rfl dX13_readWay_132 ?_
            refine lv_iload_n hx hb dX13_readWay_135 rfl (lv_at hl 3 rfl) ?_
            obtain ⟨hn10, h⟩ := chk_some h
            refine r_iast hx hb hK hP hD hT hS kb8 hn10 dX13_readWay_136 (fun H locs hP hD hT hS => ?_)
            refine lv_aload_n hx hb dX13_readWay_137 rfl (lv_at hl 2 rfl) ?_
            rcases hN11 : gR (pI z5.2 b8 (ix (gI z5.2 b9 0)) y2_1) y2_0 4 with _ | b11
            · replace h := oc_n hN11 h
              refine r_get (T := TX13) (v := .null) hx hb hts in13 hown hK hP ky2_0 (by decide) rfl 4 (by decide) (hts (.fieldLink RX13 150 "StoneWalkModel" "read" "LStoneWalkModel$Island;") (List.mem_of_getElem? (i := 1) (by decide +kernel))) rfl (t := 2) rfl (by show va_rf _ = _; rw [hN11]; rfl) dX13_readWay_138 ?_
              exact absurd h (by simp)
            · replace h := oc_s hN11 h
              have kb11 := hT.f ky2_0 (k := 4) (t := 12) (n := 0) rfl hN11
              refine r_get (T := TX13) (v := .ref (ad b11)) hx hb hts in13 hown hK hP ky2_0 (by decide) rfl 4 (by decide) (hts (.fieldLink RX13 150 "StoneWalkModel" "read" "LStoneWalkModel$Island;") (List.mem_of_getElem? (i := 1) (by decide +kernel))) rfl (t := 2) rfl (by show va_rf _ = _; rw [hN11]; rfl) dX13_readWay_138 ?_
              rcases hN12 : gR (pI z5.2 b8 (ix (gI z5.2 b9 0)) y2_1) b11 10 with _ | b12
              · exact absurd (oc_n hN12 h) (by simp)
              replace h := oc_s hN12 h
              have kb12 := hT.f kb11 (k := 10) (t := 15) (n := 4) rfl hN12
              refine r_getN (T := TX12) (v := .ref (ad b12)) hx hb hts in12 hown hK hP kb11 (by decide) rfl 10 (by decide) (hG.2.2.1 _ (List.mem_of_getElem? (i := 9) rfl)) rfl (t := 2) rfl (by show va_rf _ = _; rw [hN12]; rfl) dX13_readWay_141 ?_
              refine lv_aload_n hx hb dX13_readWay_144 rfl (lv_at hl 2 rfl) ?_
              rcases hN13 : gR (pI z5.2 b8 (ix (gI z5.2 b9 0)) y2_1) y2_0 4 with _ | b13
              · replace h := oc_n hN13 h
                refine r_get (T := TX13) (v := .null) hx hb hts in13 hown hK hP ky2_0 (by decide) rfl 4 (by decide) (hts (.fieldLink RX13 150 "StoneWalkModel" "read" "LStoneWalkModel$Island;") (List.mem_of_getElem? (i := 1) (by decide +kernel))) rfl (t := 2) rfl (by show va_rf _ = _; rw [hN13]; rfl) dX13_readWay_145 ?_
                exact absurd h (by simp)
              · replace h := oc_s hN13 h
                have kb13 := hT.f ky2_0 (k := 4) (t := 12) (n := 0) rfl hN13
                refine r_get (T := TX13) (v := .ref (ad b13)) hx hb hts in13 hown hK hP ky2_0 (by decide) rfl 4 (by decide) (hts (.fieldLink RX13 150 "StoneWalkModel" "read" "LStoneWalkModel$Island;") (List.mem_of_getElem? (i := 1) (by decide +kernel))) rfl (t := 2) rfl (by show va_rf _ = _; rw [hN13]; rfl) dX13_readWay_145 ?_
                refine r_getN (T := TX12) (v := .int (gI (pI z5.2 b8 (ix (gI z5.2 b9 0)) y2_1) b13 0)) hx hb hts in12 hown hK hP kb13 (by decide) rfl 0 (by decide) (hG.2.2.1 _ (List.mem_of_getElem? (i := 5) rfl)) rfl (t := 0) rfl rfl dX13_readWay_148 ?_
                refine lv_iload_n hx hb dX13_readWay_151 rfl (lv_at hl 1 rfl) ?_
                obtain ⟨hn14, h⟩ := chk_some h
                refine r_iast hx hb hK hP hD hT hS kb12 hn14 dX13_readWay_152 (fun H locs hP hD hT hS => ?_)
                refine lv_aload_n hx hb dX13_readWay_153 rfl (lv_at hl 2 rfl) ?_
                rcases hN15 : gR (pI (pI z5.2 b8 (ix (gI z5.2 b9 0)) y2_1) b12 (ix (gI (pI z5.2 b8 (ix (gI z5.2 b9 0)) y2_1) b13 0)) z4.1) y2_0 4 with _ | b15
                · replace h := oc_n hN15 h
                  refine r_get (T := TX13) (v := .null) hx hb hts in13 hown hK hP ky2_0 (by decide) rfl 4 (by decide) (hts (.fieldLink RX13 150 "StoneWalkModel" "read" "LStoneWalkModel$Island;") (List.mem_of_getElem? (i := 1) (by decide +kernel))) rfl (t := 2) rfl (by show va_rf _ = _; rw [hN15]; rfl) dX13_readWay_154 ?_
                  exact absurd h (by simp)
                · replace h := oc_s hN15 h
                  have kb15 := hT.f ky2_0 (k := 4) (t := 12) (n := 0) rfl hN15
                  refine r_get (T := TX13) (v := .ref (ad b15)) hx hb hts in13 hown hK hP ky2_0 (by decide) rfl 4 (by decide) (hts (.fieldLink RX13 150 "StoneWalkModel" "read" "LStoneWalkModel$Island;") (List.mem_of_getElem? (i := 1) (by decide +kernel))) rfl (t := 2) rfl (by show va_rf _ = _; rw [hN15]; rfl) dX13_readWay_154 ?_
                  rcases hN16 : gR (pI (pI z5.2 b8 (ix (gI z5.2 b9 0)) y2_1) b12 (ix (gI (pI z5.2 b8 (ix (gI z5.2 b9 0)) y2_1) b13 0)) z4.1) b15 11 with _ | b16
                  · exact absurd (oc_n hN16 h) (by simp)
                  replace h := oc_s hN16 h
                  have kb16 := hT.f kb15 (k := 11) (t := 15) (n := 4) rfl hN16
                  refine r_getN (T := TX12) (v := .ref (ad b16)) hx hb hts in12 hown hK hP kb15 (by decide) rfl 11 (by decide) (hG.2.2.1 _ (List.mem_of_getElem? (i := 10) rfl)) rfl (t := 2) rfl (by show va_rf _ = _; rw [hN16]; rfl) dX13_readWay_157 ?_
                  refine lv_aload_n hx hb dX13_readWay_160 rfl (lv_at hl 2 rfl) ?_
                  rcases hN17 : gR (pI (pI z5.2 b8 (ix (gI z5.2 b9 0)) y2_1) b12 (ix (gI (pI z5.2 b8 (ix (gI z5.2 b9 0)) y2_1) b13 0)) z4.1) y2_0 4 with _ | b17
                  · replace h := oc_n hN17 h
                    refine r_get (T := TX13) (v := .null) hx hb hts in13 hown hK hP ky2_0 (by decide) rfl 4 (by decide) (hts (.fieldLink RX13 150 "StoneWalkModel" "read" "LStoneWalkModel$Island;") (List.mem_of_getElem? (i := 1) (by decide +kernel))) rfl (t := 2) rfl (by show va_rf _ = _; rw [hN17]; rfl) dX13_readWay_161 ?_
                    exact absurd h (by simp)
                  · replace h := oc_s hN17 h
                    have kb17 := hT.f ky2_0 (k := 4) (t := 12) (n := 0) rfl hN17
                    refine r_get (T := TX13) (v := .ref (ad b17)) hx hb hts in13 hown hK hP ky2_0 (by decide) rfl 4 (by decide) (hts (.fieldLink RX13 150 "StoneWalkModel" "read" "LStoneWalkModel$Island;") (List.mem_of_getElem? (i := 1) (by decide +kernel))) rfl (t := 2) rfl (by show va_rf _ = _; rw [hN17]; rfl) dX13_readWay_161 ?_
                    refine r_getN (T := TX12) (v := .int (gI (pI (pI z5.2 b8 (ix (gI z5.2 b9 0)) y2_1) b12 (ix (gI (pI z5.2 b8 (ix (gI z5.2 b9 0)) y2_1) b13 0)) z4.1) b17 0)) hx hb hts in12 hown hK hP kb17 (by decide) rfl 0 (by decide) (hG.2.2.1 _ (List.mem_of_getElem? (i := 5) rfl)) rfl (t := 0) rfl rfl dX13_readWay_164 ?_
                    refine lv_iload_n hx hb dX13_readWay_167 rfl (lv_at hl 0 rfl) ?_
                    obtain ⟨hn18, h⟩ := chk_some h
                    refine r_iast hx hb hK hP hD hT hS kb16 hn18 dX13_readWay_168 (fun H locs hP hD hT hS => ?_)
                    refine lv_aload_n hx hb dX13_readWay_169 rfl (lv_at hl 2 rfl) ?_
                    rcases hN19 : gR (pI (pI (pI z5.2 b8 (ix (gI z5.2 b9 0)) y2_1) b12 (ix (gI (pI z5.2 b8 (ix (gI z5.2 b9 0)) y2_1) b13 0)) z4.1) b16 (ix (gI (pI (pI z5.2 b8 (ix (gI z5.2 b9 0)) y2_1) b12 (ix (gI (pI z5.2 b8 (ix (gI z5.2 b9 0)) y2_1) b13 0)) z4.1) b17 0)) z5.1) y2_0 4 with _ | b19
                    · replace h := oc_n hN19 h
                      refine r_get (T := TX13) (v := .null) hx hb hts in13 hown hK hP ky2_0 (by decide) rfl 4 (by decide) (hts (.fieldLink RX13 150 "StoneWalkModel" "read" "LStoneWalkModel$Island;") (List.mem_of_getElem? (i := 1) (by decide +kernel))) rfl (t := 2) rfl (by show va_rf _ = _; rw [hN19]; rfl) dX13_readWay_170 ?_
                      refine lv_dup hx hb dX13_readWay_173 rfl ?_
                      exact absurd h (by simp)
                    · replace h := oc_s hN19 h
                      have kb19 := hT.f ky2_0 (k := 4) (t := 12) (n := 0) rfl hN19
                      refine r_get (T := TX13) (v := .ref (ad b19)) hx hb hts in13 hown hK hP ky2_0 (by decide) rfl 4 (by decide) (hts (.fieldLink RX13 150 "StoneWalkModel" "read" "LStoneWalkModel$Island;") (List.mem_of_getElem? (i := 1) (by decide +kernel))) rfl (t := 2) rfl (by show va_rf _ = _; rw [hN19]; rfl) dX13_readWay_170 ?_
                      refine lv_dup hx hb dX13_readWay_173 rfl ?_
                      refine r_getN (T := TX12) (v := .int (gI (pI (pI (pI z5.2 b8 (ix (gI z5.2 b9 0)) y2_1) b12 (ix (gI (pI z5.2 b8 (ix (gI z5.2 b9 0)) y2_1) b13 0)) z4.1) b16 (ix (gI (pI (pI z5.2 b8 (ix (gI z5.2 b9 0)) y2_1) b12 (ix (gI (pI z5.2 b8 (ix (gI z5.2 b9 0)) y2_1) b13 0)) z4.1) b17 0)) z5.1) b19 0)) hx hb hts in12 hown hK hP kb19 (by decide) rfl 0 (by decide) (hG.2.2.1 _ (List.mem_of_getElem? (i := 5) rfl)) rfl (t := 0) rfl rfl dX13_readWay_174 ?_
                      refine lv_iconst (v := 1) hx hb dX13_readWay_177 rfl ?_
                      refine lv_iadd hx hb dX13_readWay_178 ?_
                      refine r_putIN (T := TX12) (ty := .int) (v := (gI (pI (pI (pI z5.2 b8 (ix (gI z5.2 b9 0)) y2_1) b12 (ix (gI (pI z5.2 b8 (ix (gI z5.2 b9 0)) y2_1) b13 0)) z4.1) b16 (ix (gI (pI (pI z5.2 b8 (ix (gI z5.2 b9 0)) y2_1) b12 (ix (gI (pI z5.2 b8 (ix (gI z5.2 b9 0)) y2_1) b13 0)) z4.1) b17 0)) z5.1) b19 0) + 1) hx hb hts in12 tyX12 tyX12_ok nmX12 hown hK hP hD hT hS kb19 (by decide) rfl 0 (by decide) (hG.2.2.1 _ (List.mem_of_getElem? (i := 5) rfl)) rfl rfl (tyX12_ok 0 (by decide)) rfl rfl rfl dX13_readWay_179 (fun H locs hP hD hT hS => ?_)
                      exact r_vret hx hb hr hlocks hP hK hD hT hG hS (Option.some.inj h) dX13_readWay_182
      · replace h := ite_t c6 h
        exact r_vret hx hb hr hlocks hP hK hD hT hG hS (Option.some.inj h) dX13_readWay_120
    refine lv_istore_n (lv' := [(1, .int w1_0), (0, .ref (ad y1_0))]) hx hb dX13_readWay_77 rfl hl (by decide) rfl (fun ls hl => ?_)
    refine lv_iload_n hx hb dX13_readWay_78 rfl (lv_at hl 0 rfl) ?_
    refine lv_iconst (v := (-1)) hx hb dX13_readWay_79 rfl ?_
    refine lv_icmp_ne (tgt := 88) hx hb dX13_readWay_80 rfl (fun c20 => ?_) (fun c20 => ?_)
    · replace h := ite_f c20 h
      exact J2 M1 y1_0 w1_0 ky1_0 _ _ h hP hD hT hS ls (lv_sub hl [1, 0] rfl)
    · replace h := ite_t c20 h
      refine lv_aload_n hx hb dX13_readWay_83 rfl (lv_at hl 1 rfl) ?_
      refine lv_iconst (v := 1) hx hb dX13_readWay_84 rfl ?_
      obtain ⟨z21, h21, h⟩ := ob_some h
      refine k_v (va_runV (As := [.int 1]) (rest := []) ⟨hx, hb, hml, hown, hts⟩ (c_X13_wrong (l := l) M1 y1_0 1 ky1_0 h21) (cwV 1 hts gX13_readWay_X13_wrong rfl rfl rfl hdV_X13_wrong ⟨Nat.le_of_ble_eq_true rfl, Nat.le_of_ble_eq_true rfl⟩) (pV (T := TX13) hP hK hD hT hG hS ky1_0 (by decide) rfl) rfl rfl hl.1 rfl (lv_room (Nat.le_of_ble_eq_true rfl)) dX13_readWay_85 ⟨Nat.zero_le _, Nat.zero_le _⟩) hS (fun H locs hP hD hT hS => ?_)
      exact J2 z21 y1_0 w1_0 ky1_0 _ _ h hP hD hT hS ls (lv_sub hl [1, 0] rfl)
  refine lv_aload_n hx hb dX13_readWay_0 rfl (lv_at hl 0 rfl) ?_
  refine lv_aload_n hx hb dX13_readWay_1 rfl (lv_at hl 0 rfl) ?_
  rcases hN22 : gR M a0 4 with _ | b22
  · replace h := oc_n hN22 h
    refine r_get (T := TX13) (v := .null) hx hb hts in13 hown hK hP k0 (by decide) rfl 4 (by decide) (hts (.fieldLink RX13 150 "StoneWalkModel" "read" "LStoneWalkModel$Island;") (List.mem_of_getElem? (i := 1) (by decide +kernel))) rfl (t := 2) rfl (by show va_rf _ = _; rw [hN22]; rfl) dX13_readWay_2 ?_
    exact absurd h (by simp)
  · replace h := oc_s hN22 h
    have kb22 := hT.f k0 (k := 4) (t := 12) (n := 0) rfl hN22
    refine r_get (T := TX13) (v := .ref (ad b22)) hx hb hts in13 hown hK hP k0 (by decide) rfl 4 (by decide) (hts (.fieldLink RX13 150 "StoneWalkModel" "read" "LStoneWalkModel$Island;") (List.mem_of_getElem? (i := 1) (by decide +kernel))) rfl (t := 2) rfl (by show va_rf _ = _; rw [hN22]; rfl) dX13_readWay_2 ?_
    refine r_getN (T := TX12) (v := .int (gI M b22 0)) hx hb hts in12 hown hK hP kb22 (by decide) rfl 0 (by decide) (hG.2.2.1 _ (List.mem_of_getElem? (i := 5) rfl)) rfl (t := 0) rfl rfl dX13_readWay_5 ?_
    refine lv_iconst (v := 4) hx hb dX13_readWay_8 rfl ?_
    obtain ⟨z23, h23, h⟩ := ob_some h
    refine k_v (va_runV (As := [.int (gI M b22 0), .int 4]) (rest := []) ⟨hx, hb, hml, hown, hts⟩ (c_X13_begins (l := l) M a0 (gI M b22 0) 4 k0 h23) (cwV 2 hts gX13_readWay_X13_begins rfl rfl rfl hdV_X13_begins ⟨Nat.le_of_ble_eq_true rfl, Nat.le_of_ble_eq_true rfl⟩) (pV (T := TX13) hP hK hD hT hG hS k0 (by decide) rfl) rfl rfl hl.1 rfl (lv_room (Nat.le_of_ble_eq_true rfl)) dX13_readWay_9 ⟨Nat.zero_le _, Nat.zero_le _⟩) hS (fun H locs hP hD hT hS => ?_)
    refine lv_aload_n hx hb dX13_readWay_12 rfl (lv_at hl 0 rfl) ?_
    refine lv_iconst (v := 0) hx hb dX13_readWay_13 rfl ?_
    refine lv_aload_n hx hb dX13_readWay_14 rfl (lv_at hl 0 rfl) ?_
    rcases hN24 : gR z23 a0 4 with _ | b24
    · replace h := oc_n hN24 h
      refine r_get (T := TX13) (v := .null) hx hb hts in13 hown hK hP k0 (by decide) rfl 4 (by decide) (hts (.fieldLink RX13 150 "StoneWalkModel" "read" "LStoneWalkModel$Island;") (List.mem_of_getElem? (i := 1) (by decide +kernel))) rfl (t := 2) rfl (by show va_rf _ = _; rw [hN24]; rfl) dX13_readWay_15 ?_
      exact absurd h (by simp)
    · replace h := oc_s hN24 h
      have kb24 := hT.f k0 (k := 4) (t := 12) (n := 0) rfl hN24
      refine r_get (T := TX13) (v := .ref (ad b24)) hx hb hts in13 hown hK hP k0 (by decide) rfl 4 (by decide) (hts (.fieldLink RX13 150 "StoneWalkModel" "read" "LStoneWalkModel$Island;") (List.mem_of_getElem? (i := 1) (by decide +kernel))) rfl (t := 2) rfl (by show va_rf _ = _; rw [hN24]; rfl) dX13_readWay_15 ?_
      refine r_getN (T := TX12) (v := .int (gI z23 b24 0)) hx hb hts in12 hown hK hP kb24 (by decide) rfl 0 (by decide) (hG.2.2.1 _ (List.mem_of_getElem? (i := 5) rfl)) rfl (t := 0) rfl rfl dX13_readWay_18 ?_
      obtain ⟨z25, h25, h⟩ := ob_some h
      refine k_v (va_runV (As := [.int 0, .int (gI z23 b24 0)]) (rest := []) ⟨hx, hb, hml, hown, hts⟩ (c_X13_readFresh (l := l) z23 a0 0 (gI z23 b24 0) k0 h25) (cwV 2 hts gX13_readWay_X13_readFresh rfl rfl rfl hdV_X13_readFresh ⟨Nat.le_of_ble_eq_true rfl, Nat.le_of_ble_eq_true rfl⟩) (pV (T := TX13) hP hK hD hT hG hS k0 (by decide) rfl) rfl rfl hl.1 rfl (lv_room (Nat.le_of_ble_eq_true rfl)) dX13_readWay_21 ⟨Nat.zero_le _, Nat.zero_le _⟩) hS (fun H locs hP hD hT hS => ?_)
      refine lv_aload_n hx hb dX13_readWay_24 rfl (lv_at hl 0 rfl) ?_
      refine r_ldcS (tx := "walked") (i := 42) hx hb hG hown (by decide +kernel) dX13_readWay_25 ?_
      obtain ⟨z26, h26, h⟩ := ob_some h
      refine k_z (va_runV (As := [.ref (q.2.1 42)]) (rest := []) ⟨hx, hb, hml, hown, hts⟩ (c_X13_isWord (l := l) z25 a0 42 k0 (by decide) h26) (cwV 1 hts gX13_readWay_X13_isWord rfl rfl rfl hdV_X13_isWord ⟨Nat.le_of_ble_eq_true rfl, Nat.le_of_ble_eq_true rfl⟩) (pV (T := TX13) hP hK hD hT hG hS k0 (by decide) rfl) rfl rfl hl.1 rfl (lv_room (Nat.le_of_ble_eq_true rfl)) dX13_readWay_27 ⟨Nat.zero_le _, Nat.zero_le _⟩) hS (fun H locs hz26 hP hD hT hS => ?_)
      refine lv_if_eq (tgt := 37) hx hb dX13_readWay_30 rfl (fun c27 => ?_) (fun c27 => ?_)
      · replace h := ite_t c27 h
        refine lv_aload_n hx hb dX13_readWay_37 rfl (lv_at hl 0 rfl) ?_
        refine r_ldcS (tx := "sled") (i := 43) hx hb hG hown (by decide +kernel) dX13_readWay_38 ?_
        obtain ⟨z28, h28, h⟩ := ob_some h
        refine k_z (va_runV (As := [.ref (q.2.1 43)]) (rest := []) ⟨hx, hb, hml, hown, hts⟩ (c_X13_isWord (l := l) z25 a0 43 k0 (by decide) h28) (cwV 1 hts gX13_readWay_X13_isWord rfl rfl rfl hdV_X13_isWord ⟨Nat.le_of_ble_eq_true rfl, Nat.le_of_ble_eq_true rfl⟩) (pV (T := TX13) hP hK hD hT hG hS k0 (by decide) rfl) rfl rfl hl.1 rfl (lv_room (Nat.le_of_ble_eq_true rfl)) dX13_readWay_40 ⟨Nat.zero_le _, Nat.zero_le _⟩) hS (fun H locs hz28 hP hD hT hS => ?_)
        refine lv_if_eq (tgt := 50) hx hb dX13_readWay_43 rfl (fun c29 => ?_) (fun c29 => ?_)
        · replace h := ite_t c29 h
          refine lv_aload_n hx hb dX13_readWay_50 rfl (lv_at hl 0 rfl) ?_
          refine r_ldcS (tx := "rolled") (i := 44) hx hb hG hown (by decide +kernel) dX13_readWay_51 ?_
          obtain ⟨z30, h30, h⟩ := ob_some h
          refine k_z (va_runV (As := [.ref (q.2.1 44)]) (rest := []) ⟨hx, hb, hml, hown, hts⟩ (c_X13_isWord (l := l) z25 a0 44 k0 (by decide) h30) (cwV 1 hts gX13_readWay_X13_isWord rfl rfl rfl hdV_X13_isWord ⟨Nat.le_of_ble_eq_true rfl, Nat.le_of_ble_eq_true rfl⟩) (pV (T := TX13) hP hK hD hT hG hS k0 (by decide) rfl) rfl rfl hl.1 rfl (lv_room (Nat.le_of_ble_eq_true rfl)) dX13_readWay_53 ⟨Nat.zero_le _, Nat.zero_le _⟩) hS (fun H locs hz30 hP hD hT hS => ?_)
          refine lv_if_eq (tgt := 63) hx hb dX13_readWay_56 rfl (fun c31 => ?_) (fun c31 => ?_)
          · replace h := ite_t c31 h
            refine lv_aload_n hx hb dX13_readWay_63 rfl (lv_at hl 0 rfl) ?_
            refine r_ldcS (tx := "dragged") (i := 45) hx hb hG hown (by decide +kernel) dX13_readWay_64 ?_
            obtain ⟨z32, h32, h⟩ := ob_some h
            refine k_z (va_runV (As := [.ref (q.2.1 45)]) (rest := []) ⟨hx, hb, hml, hown, hts⟩ (c_X13_isWord (l := l) z25 a0 45 k0 (by decide) h32) (cwV 1 hts gX13_readWay_X13_isWord rfl rfl rfl hdV_X13_isWord ⟨Nat.le_of_ble_eq_true rfl, Nat.le_of_ble_eq_true rfl⟩) (pV (T := TX13) hP hK hD hT hG hS k0 (by decide) rfl) rfl rfl hl.1 rfl (lv_room (Nat.le_of_ble_eq_true rfl)) dX13_readWay_66 ⟨Nat.zero_le _, Nat.zero_le _⟩) hS (fun H locs hz32 hP hD hT hS => ?_)
            refine lv_if_eq (tgt := 76) hx hb dX13_readWay_69 rfl (fun c33 => ?_) (fun c33 => ?_)
            · replace h := ite_t c33 h
              refine lv_iconst (v := (-1)) hx hb dX13_readWay_76 rfl ?_
              exact J1 z25 a0 (-1) k0 _ _ h hP hD hT hS ls (lv_sub hl [0] rfl)
            · replace h := ite_f c33 h
              refine lv_iconst (v := 3) hx hb dX13_readWay_72 rfl ?_
              refine lv_goto (tgt := 77) hx hb dX13_readWay_73 rfl ?_
              exact J1 z25 a0 3 k0 _ _ h hP hD hT hS ls (lv_sub hl [0] rfl)
          · replace h := ite_f c31 h
            refine lv_iconst (v := 2) hx hb dX13_readWay_59 rfl ?_
            refine lv_goto (tgt := 77) hx hb dX13_readWay_60 rfl ?_
            exact J1 z25 a0 2 k0 _ _ h hP hD hT hS ls (lv_sub hl [0] rfl)
        · replace h := ite_f c29 h
          refine lv_iconst (v := 1) hx hb dX13_readWay_46 rfl ?_
          refine lv_goto (tgt := 77) hx hb dX13_readWay_47 rfl ?_
          exact J1 z25 a0 1 k0 _ _ h hP hD hT hS ls (lv_sub hl [0] rfl)
      · replace h := ite_f c27 h
        refine lv_iconst (v := 0) hx hb dX13_readWay_33 rfl ?_
        refine lv_goto (tgt := 77) hx hb dX13_readWay_34 rfl ?_
        exact J1 z25 a0 0 k0 _ _ h hP hD hT hS ls (lv_sub hl [0] rfl)
set_option maxHeartbeats 4000000 in
set_option maxRecDepth 100000 in
theorem c_X13_readRoad {l : Launch} {D : va_G} {ad : Nat → Nat} {cy : Nat → ClassId} {A : Nat → Prop} {g : CG} {q : SE} (M : MM) (a0 : Nat) (k0 : ok g a0 13 0) {Z : MM} (h : f_X13_readRoad M a0 = some Z) : Met l yX13_readRoad wsX13_readRoad ({ frames := 8, cells := 0, slots := 0, locals := 173 }) (va_Pc [.ref (ad a0)] (Wd D ad cy A g q M)) (va_Qv (fun u => u = Z) (Wd D ad cy A g q) A) 0 0 A := by
  refine Met.ofW (cc := cX13_readRoad) (maxL := 5) (ret := none) (by decide) rfl ?_
  intro p e s m args below meth c s₁ B hml hv
  obtain ⟨rfl, hP, hK, hD, hT, hG⟩ := hv
  have hx := B.exec
  have hb := B.bytes
  have hr := B.returns
  have hts := atoms_spec (ws := wsX13_readRoad) B.pre
  have hown : s.vm.findClass RX13 = some m.cls := findClass_of_methodNamed B.named
  have hlocks := B.notSynchronized
  have in12 : ∀ w ∈ u_ws RX12 TX12 48, w ∈ wsX13_readRoad := fun w h => List.mem_cons_of_mem _ (List.mem_append_right _ h)
  have in13 : ∀ w ∈ u_ws RX13 TX13 29, w ∈ wsX13_readRoad := fun w h => List.mem_cons_of_mem _ (List.mem_append_left _ (List.mem_append_right _ h))
  have hS : va_S A s.heap s.heap [] := va_S.rf
  have hl := lv_entry ([.ref (ad a0)]) (n := 5) (Nat.le_of_ble_eq_true rfl)
  rw [lg_entry_eq]
  generalize (lg_sl ([.ref (ad a0)]) ++ List.replicate (5 - (lg_sl ([.ref (ad a0)])).length) Slot.unset).toArray = ls at hl ⊢
  have hl : lv_has ls 5 [(0, .ref (ad a0))] := hl
  unfold f_X13_readRoad at h
  refine lv_aload_n hx hb dX13_readRoad_0 rfl (lv_at hl 0 rfl) ?_
  refine lv_aload_n hx hb dX13_readRoad_1 rfl (lv_at hl 0 rfl) ?_
  rcases hN1 : gR M a0 4 with _ | b1
  · replace h := oc_n hN1 h
    refine r_get (T := TX13) (v := .null) hx hb hts in13 hown hK hP k0 (by decide) rfl 4 (by decide) (hts (.fieldLink RX13 150 "StoneWalkModel" "read" "LStoneWalkModel$Island;") (List.mem_of_getElem? (i := 1) (by decide +kernel))) rfl (t := 2) rfl (by show va_rf _ = _; rw [hN1]; rfl) dX13_readRoad_2 ?_
    exact absurd h (by simp)
  · replace h := oc_s hN1 h
    have kb1 := hT.f k0 (k := 4) (t := 12) (n := 0) rfl hN1
    refine r_get (T := TX13) (v := .ref (ad b1)) hx hb hts in13 hown hK hP k0 (by decide) rfl 4 (by decide) (hts (.fieldLink RX13 150 "StoneWalkModel" "read" "LStoneWalkModel$Island;") (List.mem_of_getElem? (i := 1) (by decide +kernel))) rfl (t := 2) rfl (by show va_rf _ = _; rw [hN1]; rfl) dX13_readRoad_2 ?_
    refine r_getN (T := TX12) (v := .int (gI M b1 1)) hx hb hts in12 hown hK hP kb1 (by decide) rfl 1 (by decide) (hG.2.2.1 _ (List.mem_of_getElem? (i := 6) rfl)) rfl (t := 0) rfl rfl dX13_readRoad_5 ?_
    refine lv_iconst (v := 3) hx hb dX13_readRoad_8 rfl ?_
    obtain ⟨z2, h2, h⟩ := ob_some h
    refine k_v (va_runV (As := [.int (gI M b1 1), .int 3]) (rest := []) ⟨hx, hb, hml, hown, hts⟩ (c_X13_begins (l := l) M a0 (gI M b1 1) 3 k0 h2) (cwV 2 hts gX13_readRoad_X13_begins rfl rfl rfl hdV_X13_begins ⟨Nat.le_of_ble_eq_true rfl, Nat.le_of_ble_eq_true rfl⟩) (pV (T := TX13) hP hK hD hT hG hS k0 (by decide) rfl) rfl rfl hl.1 rfl (lv_room (Nat.le_of_ble_eq_true rfl)) dX13_readRoad_9 ⟨Nat.zero_le _, Nat.zero_le _⟩) hS (fun H locs hP hD hT hS => ?_)
    refine lv_aload_n hx hb dX13_readRoad_12 rfl (lv_at hl 0 rfl) ?_
    refine lv_iconst (v := 1) hx hb dX13_readRoad_13 rfl ?_
    refine lv_aload_n hx hb dX13_readRoad_14 rfl (lv_at hl 0 rfl) ?_
    rcases hN3 : gR z2 a0 4 with _ | b3
    · replace h := oc_n hN3 h
      refine r_get (T := TX13) (v := .null) hx hb hts in13 hown hK hP k0 (by decide) rfl 4 (by decide) (hts (.fieldLink RX13 150 "StoneWalkModel" "read" "LStoneWalkModel$Island;") (List.mem_of_getElem? (i := 1) (by decide +kernel))) rfl (t := 2) rfl (by show va_rf _ = _; rw [hN3]; rfl) dX13_readRoad_15 ?_
      exact absurd h (by simp)
    · replace h := oc_s hN3 h
      have kb3 := hT.f k0 (k := 4) (t := 12) (n := 0) rfl hN3
      refine r_get (T := TX13) (v := .ref (ad b3)) hx hb hts in13 hown hK hP k0 (by decide) rfl 4 (by decide) (hts (.fieldLink RX13 150 "StoneWalkModel" "read" "LStoneWalkModel$Island;") (List.mem_of_getElem? (i := 1) (by decide +kernel))) rfl (t := 2) rfl (by show va_rf _ = _; rw [hN3]; rfl) dX13_readRoad_15 ?_
      refine r_getN (T := TX12) (v := .int (gI z2 b3 1)) hx hb hts in12 hown hK hP kb3 (by decide) rfl 1 (by decide) (hG.2.2.1 _ (List.mem_of_getElem? (i := 6) rfl)) rfl (t := 0) rfl rfl dX13_readRoad_18 ?_
      obtain ⟨z4, h4, h⟩ := ob_some h
      refine k_v (va_runV (As := [.int 1, .int (gI z2 b3 1)]) (rest := []) ⟨hx, hb, hml, hown, hts⟩ (c_X13_readFresh (l := l) z2 a0 1 (gI z2 b3 1) k0 h4) (cwV 2 hts gX13_readRoad_X13_readFresh rfl rfl rfl hdV_X13_readFresh ⟨Nat.le_of_ble_eq_true rfl, Nat.le_of_ble_eq_true rfl⟩) (pV (T := TX13) hP hK hD hT hG hS k0 (by decide) rfl) rfl rfl hl.1 rfl (lv_room (Nat.le_of_ble_eq_true rfl)) dX13_readRoad_21 ⟨Nat.zero_le _, Nat.zero_le _⟩) hS (fun H locs hP hD hT hS => ?_)
      refine lv_aload_n hx hb dX13_readRoad_24 rfl (lv_at hl 0 rfl) ?_
      refine r_ldcS (tx := "hollow") (i := 4) hx hb hG hown (by decide +kernel) dX13_readRoad_25 ?_
      refine lv_iconst (v := 0) hx hb dX13_readRoad_27 rfl ?_
      refine lv_bipush (v := 9) hx hb dX13_readRoad_28 rfl ?_
      obtain ⟨z5, h5, h⟩ := ob_some h
      refine k_i (va_runV (As := [.ref (q.2.1 4), .int 0, .int 9]) (rest := []) ⟨hx, hb, hml, hown, hts⟩ (c_X13_readPart (l := l) z4 a0 4 0 9 k0 (by decide) h5) (cwV 3 hts gX13_readRoad_X13_readPart rfl rfl rfl hdV_X13_readPart ⟨Nat.le_of_ble_eq_true rfl, Nat.le_of_ble_eq_true rfl⟩) (pV (T := TX13) hP hK hD hT hG hS k0 (by decide) rfl) rfl rfl hl.1 rfl (lv_room (Nat.le_of_ble_eq_true rfl)) dX13_readRoad_30 ⟨Nat.zero_le _, Nat.zero_le _⟩) hS (fun H locs hP hD hT hS => ?_)
      refine lv_istore_n (lv' := [(1, .int z5.1), (0, .ref (ad a0))]) hx hb dX13_readRoad_33 rfl hl (by decide) rfl (fun ls hl => ?_)
      refine lv_aload_n hx hb dX13_readRoad_34 rfl (lv_at hl 1 rfl) ?_
      refine r_ldcSw (tx := "slopes") (i := 5) hx hb hG hown (by decide +kernel) dX13_readRoad_35 ?_
      obtain ⟨z6, h6, h⟩ := ob_some h
      refine k_v (va_runV (As := [.ref (q.2.1 5)]) (rest := []) ⟨hx, hb, hml, hown, hts⟩ (c_X13_needs (l := l) z5.2 a0 5 k0 (by decide) h6) (cwV 1 hts gX13_readRoad_X13_needs rfl rfl rfl hdV_X13_needs ⟨Nat.le_of_ble_eq_true rfl, Nat.le_of_ble_eq_true rfl⟩) (pV (T := TX13) hP hK hD hT hG hS k0 (by decide) rfl) rfl rfl hl.1 rfl (lv_room (Nat.le_of_ble_eq_true rfl)) dX13_readRoad_38 ⟨Nat.zero_le _, Nat.zero_le _⟩) hS (fun H locs hP hD hT hS => ?_)
      refine lv_iconst (v := 0) hx hb dX13_readRoad_41 rfl ?_
      refine lv_istore_n (lv' := [(2, .int 0), (1, .int z5.1), (0, .ref (ad a0))]) hx hb dX13_readRoad_42 rfl hl (by decide) rfl (fun ls hl => ?_)
      refine lv_aload_n hx hb dX13_readRoad_43 rfl (lv_at hl 2 rfl) ?_
      refine r_get (T := TX13) (v := .int (gI z6 a0 9)) hx hb hts in13 hown hK hP k0 (by decide) rfl 9 (by decide) (hts (.fieldLink RX13 58 "StoneWalkModel" "sort" "I") (List.mem_of_getElem? (i := 2) (by decide +kernel))) rfl (t := 0) rfl rfl dX13_readRoad_44 ?_
      refine lv_iconst (v := 5) hx hb dX13_readRoad_47 rfl ?_
      refine lv_icmp_eq (tgt := 55) hx hb dX13_readRoad_48 rfl (fun c7 => ?_) (fun c7 => ?_)
      · replace h := ite_t c7 h
        refine lv_iconst (v := 0) hx hb dX13_readRoad_55 rfl ?_
        refine lv_istore_n (lv' := [(3, .int 0), (2, .int 0), (1, .int z5.1), (0, .ref (ad a0))]) hx hb dX13_readRoad_56 rfl hl (by decide) rfl (fun ls hl => ?_)
        have L8 : ∀ n8 : Nat, ∀ (M8 : MM) (y8_0 : Nat) (y8_1 : Int32) (y8_2 : Int32) (y8_3 : Int32) (ky8_0 : ok g y8_0 13 0) (H : Heap) (locs : List Loc), f_X13_readRoad_L57 n8 M8 y8_0 y8_1 y8_2 y8_3 = some Z → va_P D vwCl (wd ad cy g M8) H → va_D A (wd ad cy g M8) → WT g M8 → va_S A s.heap H locs → ∀ (ls : Array Slot), lv_has ls 5 [(0, .ref (ad y8_0)), (1, .int y8_1), (2, .int y8_2), (3, .int y8_3)] → W p l e ((headSpec wsX13_readRoad ({ frames := 8, cells := 0, slots := 0, locals := 173 })).room) s m (([.ref (ad a0)] : List Value).toArray) below meth c H locs 0 0 (MQ below (va_Qv (fun u => u = Z) (Wd D ad cy A g q) A) ([.ref (ad a0)]).toArray s 0 0 A) (F0 m 57 ls []) := by
          intro n8
          induction n8 with
          | zero => intro M8 y8_0 y8_1 y8_2 y8_3 ky8_0 H locs h; exact absurd h (by simp [f_X13_readRoad_L57])
          | succ n8 ih8 =>
            intro M8 y8_0 y8_1 y8_2 y8_3 ky8_0 H locs h hP hD hT hS ls hl
            rw [f_X13_readRoad_L57] at h
            refine lv_iload_n hx hb dX13_readRoad_57 rfl (lv_at hl 3 rfl) ?_
            refine lv_if_eq (tgt := 129) hx hb dX13_readRoad_58 rfl (fun c9 => ?_) (fun c9 => ?_)
            · replace h := ite_t c9 h
              refine lv_aload_n hx hb dX13_readRoad_129 rfl (lv_at hl 0 rfl) ?_
              refine r_get (T := TX13) (v := .int (gI M8 y8_0 9)) hx hb hts in13 hown hK hP ky8_0 (by decide) rfl 9 (by decide) (hts (.fieldLink RX13 58 "StoneWalkModel" "sort" "I") (List.mem_of_getElem? (i := 2) (by decide +kernel))) rfl (t := 0) rfl rfl dX13_readRoad_130 ?_
              refine lv_iconst (v := 5) hx hb dX13_readRoad_133 rfl ?_
              refine lv_icmp_ne (tgt := 138) hx hb dX13_readRoad_134 rfl (fun c10 => ?_) (fun c10 => ?_)
              · replace h := ite_f c10 h
                refine lv_aload_n hx hb dX13_readRoad_138 rfl (lv_at hl 0 rfl) ?_
                rcases hN11 : gR M8 y8_0 4 with _ | b11
                · replace h := oc_n hN11 h
                  refine r_get (T := TX13) (v := .null) hx hb hts in13 hown hK hP ky8_0 (by decide) rfl 4 (by decide) (hts (.fieldLink RX13 150 "StoneWalkModel" "read" "LStoneWalkModel$Island;") (List.mem_of_getElem? (i := 1) (by decide +kernel))) rfl (t := 2) rfl (by show va_rf _ = _; rw [hN11]; rfl) dX13_readRoad_139 ?_
                  exact absurd h (by simp)
                · replace h := oc_s hN11 h
                  have kb11 := hT.f ky8_0 (k := 4) (t := 12) (n := 0) rfl hN11
                  refine r_get (T := TX13) (v := .ref (ad b11)) hx hb hts in13 hown hK hP ky8_0 (by decide) rfl 4 (by decide) (hts (.fieldLink RX13 150 "StoneWalkModel" "read" "LStoneWalkModel$Island;") (List.mem_of_getElem? (i := 1) (by decide +kernel))) rfl (t := 2) rfl (by show va_rf _ = _; rw [hN11]; rfl) dX13_readRoad_139 ?_
                  rcases hN12 : gR M8 b11 12 with _ | b12
                  · exact absurd (oc_n hN12 h) (by simp)
                  replace h := oc_s hN12 h
                  have kb12 := hT.f kb11 (k := 12) (t := 15) (n := 3) rfl hN12
                  refine r_getN (T := TX12) (v := .ref (ad b12)) hx hb hts in12 hown hK hP kb11 (by decide) rfl 12 (by decide) (hG.2.2.1 _ (List.mem_of_getElem? (i := 12) rfl)) rfl (t := 2) rfl (by show va_rf _ = _; rw [hN12]; rfl) dX13_readRoad_142 ?_
                  refine lv_aload_n hx hb dX13_readRoad_145 rfl (lv_at hl 0 rfl) ?_
                  rcases hN13 : gR M8 y8_0 4 with _ | b13
                  · replace h := oc_n hN13 h
                    refine r_get (T := TX13) (v := .null) hx hb hts in13 hown hK hP ky8_0 (by decide) rfl 4 (by decide) (hts (.fieldLink RX13 150 "StoneWalkModel" "read" "LStoneWalkModel$Island;") (List.mem_of_getElem? (i := 1) (by decide +kernel))) rfl (t := 2) rfl (by show va_rf _ = _; rw [hN13]; rfl) dX13_readRoad_146 ?_
                    exact absurd h (by simp)
                  · replace h := oc_s hN13 h
                    have kb13 := hT.f ky8_0 (k := 4) (t := 12) (n := 0) rfl hN13
                    refine r_get (T := TX13) (v := .ref (ad b13)) hx hb hts in13 hown hK hP ky8_0 (by decide) rfl 4 (by decide) (hts (.fieldLink RX13 150 "StoneWalkModel" "read" "LStoneWalkModel$Island;") (List.mem_of_getElem? (i := 1) (by decide +kernel))) rfl (t := 2) rfl (by show va_rf _ = _; rw [hN13]; rfl) dX13_readRoad_146 ?_
                    refine r_getN (T := TX12) (v := .int (gI M8 b13 1)) hx hb hts in12 hown hK hP kb13 (by decide) rfl 1 (by decide) (hG.2.2.1 _ (List.mem_of_getElem? (i := 6) rfl)) rfl (t := 0) rfl rfl dX13_readRoad_149 ?_
                    refine lv_iload_n hx hb dX13_readRoad_152 rfl (lv_at hl 1 rfl) ?_
                    obtain ⟨hn14, h⟩ := chk_some h
                    refine r_iast hx hb hK hP hD hT hS kb12 hn14 dX13_readRoad_153 (fun H locs hP hD hT hS => ?_)
                    refine lv_aload_n hx hb dX13_readRoad_154 rfl (lv_at hl 0 rfl) ?_
                    rcases hN15 : gR (pI M8 b12 (ix (gI M8 b13 1)) y8_1) y8_0 4 with _ | b15
                    · replace h := oc_n hN15 h
                      refine r_get (T := TX13) (v := .null) hx hb hts in13 hown hK hP ky8_0 (by decide) rfl 4 (by decide) (hts (.fieldLink RX13 150 "StoneWalkModel" "read" "LStoneWalkModel$Island;") (List.mem_of_getElem? (i := 1) (by decide +kernel))) rfl (t := 2) rfl (by show va_rf _ = _; rw [hN15]; rfl) dX13_readRoad_155 ?_
                      exact absurd h (by simp)
                    · replace h := oc_s hN15 h
                      have kb15 := hT.f ky8_0 (k := 4) (t := 12) (n := 0) rfl hN15
                      refine r_get (T := TX13) (v := .ref (ad b15)) hx hb hts in13 hown hK hP ky8_0 (by decide) rfl 4 (by decide) (hts (.fieldLink RX13 150 "StoneWalkModel" "read" "LStoneWalkModel$Island;") (List.mem_of_getElem? (i := 1) (by decide +kernel))) rfl (t := 2) rfl (by show va_rf _ = _; rw [hN15]; rfl) dX13_readRoad_155 ?_
                      rcases hN16 : gR (pI M8 b12 (ix (gI M8 b13 1)) y8_1) b15 13 with _ | b16
                      · exact absurd (oc_n hN16 h) (by simp)
                      replace h := oc_s hN16 h
                      have kb16 := hT.f kb15 (k := 13) (t := 15) (n := 3) rfl hN16
                      refine r_getN (T := TX12) (v := .ref (ad b16)) hx hb hts in12 hown hK hP kb15 (by decide) rfl 13 (by decide) (hG.2.2.1 _ (List.mem_of_getElem? (i := 13) rfl)) rfl (t := 2) rfl (by show va_rf _ = _; rw [hN16]; rfl) dX13_readRoad_158 ?_
                      refine lv_aload_n hx hb dX13_readRoad_161 rfl (lv_at hl 0 rfl) ?_
                      rcases hN17 : gR (pI M8 b12 (ix (gI M8 b13 1)) y8_1) y8_0 4 with _ | b17
                      · replace h := oc_n hN17 h
                        refine r_get (T := TX13) (v := .null) hx hb hts in13 hown hK hP ky8_0 (by decide) rfl 4 (by decide) (hts (.fieldLink RX13 150 "StoneWalkModel" "read" "LStoneWalkModel$Island;") (List.mem_of_getElem? (i := 1) (by decide +kernel))) rfl (t := 2) rfl (by show va_rf _ = _; rw [hN17]; rfl) dX13_readRoad_162 ?_
                        exact absurd h (by simp)
                      · replace h := oc_s hN17 h
                        have kb17 := hT.f ky8_0 (k := 4) (t := 12) (n := 0) rfl hN17
                        refine r_get (T := TX13) (v := .ref (ad b17)) hx hb hts in13 hown hK hP ky8_0 (by decide) rfl 4 (by decide) (hts (.fieldLink RX13 150 "StoneWalkModel" "read" "LStoneWalkModel$Island;") (List.mem_of_getElem? (i := 1) (by decide +kernel))) rfl (t := 2) rfl (by show va_rf _ = _; rw [hN17]; rfl) dX13_readRoad_162 ?_
                        refine r_getN (T := TX12) (v := .int (gI (pI M8 b12 (ix (gI M8 b13 1)) y8_1) b17 1)) hx hb hts in12 hown hK hP kb17 (by decide) rfl 1 (by decide) (hG.2.2.1 _ (List.mem_of_getElem? (i := 6) rfl)) rfl (t := 0) rfl rfl dX13_readRoad_165 ?_
                        refine lv_iload_n hx hb dX13_readRoad_168 rfl (lv_at hl 2 rfl) ?_
                        obtain ⟨hn18, h⟩ := chk_some h
                        refine r_iast hx hb hK hP hD hT hS kb16 hn18 dX13_readRoad_169 (fun H locs hP hD hT hS => ?_)
                        refine lv_aload_n hx hb dX13_readRoad_170 rfl (lv_at hl 0 rfl) ?_
                        rcases hN19 : gR (pI (pI M8 b12 (ix (gI M8 b13 1)) y8_1) b16 (ix (gI (pI M8 b12 (ix (gI M8 b13 1)) y8_1) b17 1)) y8_2) y8_0 4 with _ | b19
                        · replace h := oc_n hN19 h
                          refine r_get (T := TX13) (v := .null) hx hb hts in13 hown hK hP ky8_0 (by decide) rfl 4 (by decide) (hts (.fieldLink RX13 150 "StoneWalkModel" "read" "LStoneWalkModel$Island;") (List.mem_of_getElem? (i := 1) (by decide +kernel))) rfl (t := 2) rfl (by show va_rf _ = _; rw [hN19]; rfl) dX13_readRoad_171 ?_
                          refine lv_dup hx hb dX13_readRoad_174 rfl ?_
                          exact absurd h (by simp)
                        · replace h := oc_s hN19 h
                          have kb19 := hT.f ky8_0 (k := 4) (t := 12) (n := 0) rfl hN19
                          refine r_get (T := TX13) (v := .ref (ad b19)) hx hb hts in13 hown hK hP ky8_0 (by decide) rfl 4 (by decide) (hts (.fieldLink RX13 150 "StoneWalkModel" "read" "LStoneWalkModel$Island;") (List.mem_of_getElem? (i := 1) (by decide +kernel))) rfl (t := 2) rfl (by show va_rf _ = _; rw [hN19]; rfl) dX13_readRoad_171 ?_
                          refine lv_dup hx hb dX13_readRoad_174 rfl ?_
                          refine r_getN (T := TX12) (v := .int (gI (pI (pI M8 b12 (ix (gI M8 b13 1)) y8_1) b16 (ix (gI (pI M8 b12 (ix (gI M8 b13 1)) y8_1) b17 1)) y8_2) b19 1)) hx hb hts in12 hown hK hP kb19 (by decide) rfl 1 (by decide) (hG.2.2.1 _ (List.mem_of_getElem? (i := 6) rfl)) rfl (t := 0) rfl rfl dX13_readRoad_175 ?_
                          refine lv_iconst (v := 1) hx hb dX13_readRoad_178 rfl ?_
                          refine lv_iadd hx hb dX13_readRoad_179 ?_
                          refine r_putIN (T := TX12) (ty := .int) (v := (gI (pI (pI M8 b12 (ix (gI M8 b13 1)) y8_1) b16 (ix (gI (pI M8 b12 (ix (gI M8 b13 1)) y8_1) b17 1)) y8_2) b19 1) + 1) hx hb hts in12 tyX12 tyX12_ok nmX12 hown hK hP hD hT hS kb19 (by decide) rfl 1 (by decide) (hG.2.2.1 _ (List.mem_of_getElem? (i := 6) rfl)) rfl rfl (tyX12_ok 1 (by decide)) rfl rfl rfl dX13_readRoad_180 (fun H locs hP hD hT hS => ?_)
                          exact r_vret hx hb hr hlocks hP hK hD hT hG hS (Option.some.inj h) dX13_readRoad_183
              · replace h := ite_t c10 h
                exact r_vret hx hb hr hlocks hP hK hD hT hG hS (Option.some.inj h) dX13_readRoad_137
            · replace h := ite_f c9 h
              refine lv_iload_n hx hb dX13_readRoad_61 rfl (lv_at hl 2 rfl) ?_
              refine lv_bipush (v := 6) hx hb dX13_readRoad_62 rfl ?_
              refine lv_icmp_ne (tgt := 79) hx hb dX13_readRoad_64 rfl (fun c20 => ?_) (fun c20 => ?_)
              · replace h := ite_f c20 h
                refine lv_aload_n hx hb dX13_readRoad_79 rfl (lv_at hl 0 rfl) ?_
                obtain ⟨z21, h21, h⟩ := ob_some h
                refine k_i (va_runV (As := []) (rest := []) ⟨hx, hb, hml, hown, hts⟩ (c_X13_readSlope (l := l) M8 y8_0 ky8_0 h21) (cwV 0 hts gX13_readRoad_X13_readSlope rfl rfl rfl hdV_X13_readSlope ⟨Nat.le_of_ble_eq_true rfl, Nat.le_of_ble_eq_true rfl⟩) (pV (T := TX13) hP hK hD hT hG hS ky8_0 (by decide) rfl) rfl rfl hl.1 rfl (lv_room (Nat.le_of_ble_eq_true rfl)) dX13_readRoad_80 ⟨Nat.zero_le _, Nat.zero_le _⟩) hS (fun H locs hP hD hT hS => ?_)
                refine lv_istore (lv' := [(4, .int z21.1), (0, .ref (ad y8_0)), (1, .int y8_1), (2, .int y8_2), (3, .int y8_3)]) hx hb dX13_readRoad_83 hl (by decide) rfl (fun ls hl => ?_)
                refine lv_aload_n hx hb dX13_readRoad_85 rfl (lv_at hl 1 rfl) ?_
                refine r_get (T := TX13) (v := .int (gI z21.2 y8_0 9)) hx hb hts in13 hown hK hP ky8_0 (by decide) rfl 9 (by decide) (hts (.fieldLink RX13 58 "StoneWalkModel" "sort" "I") (List.mem_of_getElem? (i := 2) (by decide +kernel))) rfl (t := 0) rfl rfl dX13_readRoad_86 ?_
                refine lv_iconst (v := 5) hx hb dX13_readRoad_89 rfl ?_
                refine lv_icmp_ne (tgt := 94) hx hb dX13_readRoad_90 rfl (fun c22 => ?_) (fun c22 => ?_)
                · replace h := ite_f c22 h
                  refine lv_aload_n hx hb dX13_readRoad_94 rfl (lv_at hl 1 rfl) ?_
                  rcases hN23 : gR z21.2 y8_0 4 with _ | b23
                  · replace h := oc_n hN23 h
                    refine r_get (T := TX13) (v := .null) hx hb hts in13 hown hK hP ky8_0 (by decide) rfl 4 (by decide) (hts (.fieldLink RX13 150 "StoneWalkModel" "read" "LStoneWalkModel$Island;") (List.mem_of_getElem? (i := 1) (by decide +kernel))) rfl (t := 2) rfl (by show va_rf _ = _; rw [hN23]; rfl) dX13_readRoad_95 ?_
                    exact absurd h (by simp)
                  · replace h := oc_s hN23 h
                    have kb23 := hT.f ky8_0 (k := 4) (t := 12) (n := 0) rfl hN23
                    refine r_get (T := TX13) (v := .ref (ad b23)) hx hb hts in13 hown hK hP ky8_0 (by decide) rfl 4 (by decide) (hts (.fieldLink RX13 150 "StoneWalkModel" "read" "LStoneWalkModel$Island;") (List.mem_of_getElem? (i := 1) (by decide +kernel))) rfl (t := 2) rfl (by show va_rf _ = _; rw [hN23]; rfl) dX13_readRoad_95 ?_
                    rcases hN24 : gR z21.2 b23 14 with _ | b24
                    · exact absurd (oc_n hN24 h) (by simp)
                    replace h := oc_s hN24 h
                    have kb24 := hT.f kb23 (k := 14) (t := 15) (n := 18) rfl hN24
                    refine r_getN (T := TX12) (v := .ref (ad b24)) hx hb hts in12 hown hK hP kb23 (by decide) rfl 14 (by decide) (hG.2.2.1 _ (List.mem_of_getElem? (i := 11) rfl)) rfl (t := 2) rfl (by show va_rf _ = _; rw [hN24]; rfl) dX13_readRoad_98 ?_
                    refine lv_bipush (v := 6) hx hb dX13_readRoad_101 rfl ?_
                    refine lv_aload_n hx hb dX13_readRoad_103 rfl (lv_at hl 1 rfl) ?_
                    rcases hN25 : gR z21.2 y8_0 4 with _ | b25
                    · replace h := oc_n hN25 h
                      refine r_get (T := TX13) (v := .null) hx hb hts in13 hown hK hP ky8_0 (by decide) rfl 4 (by decide) (hts (.fieldLink RX13 150 "StoneWalkModel" "read" "LStoneWalkModel$Island;") (List.mem_of_getElem? (i := 1) (by decide +kernel))) rfl (t := 2) rfl (by show va_rf _ = _; rw [hN25]; rfl) dX13_readRoad_104 ?_
                      exact absurd h (by simp)
                    · replace h := oc_s hN25 h
                      have kb25 := hT.f ky8_0 (k := 4) (t := 12) (n := 0) rfl hN25
                      refine r_get (T := TX13) (v := .ref (ad b25)) hx hb hts in13 hown hK hP ky8_0 (by decide) rfl 4 (by decide) (hts (.fieldLink RX13 150 "StoneWalkModel" "read" "LStoneWalkModel$Island;") (List.mem_of_getElem? (i := 1) (by decide +kernel))) rfl (t := 2) rfl (by show va_rf _ = _; rw [hN25]; rfl) dX13_readRoad_104 ?_
                      refine r_getN (T := TX12) (v := .int (gI z21.2 b25 1)) hx hb hts in12 hown hK hP kb25 (by decide) rfl 1 (by decide) (hG.2.2.1 _ (List.mem_of_getElem? (i := 6) rfl)) rfl (t := 0) rfl rfl dX13_readRoad_107 ?_
                      refine lv_imul hx hb dX13_readRoad_110 ?_
                      refine lv_iload_n hx hb dX13_readRoad_111 rfl (lv_at hl 3 rfl) ?_
                      refine lv_iadd hx hb dX13_readRoad_112 ?_
                      refine lv_iload hx hb dX13_readRoad_113 (lv_at hl 0 rfl) ?_
                      obtain ⟨hn26, h⟩ := chk_some h
                      refine r_iast hx hb hK hP hD hT hS kb24 hn26 dX13_readRoad_115 (fun H locs hP hD hT hS => ?_)
                      refine lv_iinc (v := y8_2 + 1) (lv' := [(2, .int (y8_2 + 1)), (4, .int z21.1), (0, .ref (ad y8_0)), (1, .int y8_1), (3, .int y8_3)]) hx hb dX13_readRoad_116 hl (k := 3) rfl rfl (by decide) rfl (fun ls hl => ?_)
                      refine lv_aload_n hx hb dX13_readRoad_119 rfl (lv_at hl 2 rfl) ?_
                      refine lv_bipush (v := 44) hx hb dX13_readRoad_120 rfl ?_
                      obtain ⟨z27, h27, h⟩ := ob_some h
                      refine k_z (va_runV (As := [.int 44]) (rest := []) ⟨hx, hb, hml, hown, hts⟩ (c_X13_eatsSign (l := l) (pI z21.2 b24 (ix ((6 * (gI z21.2 b25 1)) + y8_2)) z21.1) y8_0 44 ky8_0 h27) (cwV 1 hts gX13_readRoad_X13_eatsSign rfl rfl rfl hdV_X13_eatsSign ⟨Nat.le_of_ble_eq_true rfl, Nat.le_of_ble_eq_true rfl⟩) (pV (T := TX13) hP hK hD hT hG hS ky8_0 (by decide) rfl) rfl rfl hl.1 rfl (lv_room (Nat.le_of_ble_eq_true rfl)) dX13_readRoad_122 ⟨Nat.zero_le _, Nat.zero_le _⟩) hS (fun H locs hz27 hP hD hT hS => ?_)
                      refine lv_istore_n (lv' := [(3, .int z27.1), (2, .int (y8_2 + 1)), (4, .int z21.1), (0, .ref (ad y8_0)), (1, .int y8_1)]) hx hb dX13_readRoad_125 rfl hl (by decide) rfl (fun ls hl => ?_)
                      refine lv_goto (tgt := 57) hx hb dX13_readRoad_126 rfl ?_
                      exact ih8 z27.2 y8_0 y8_1 (y8_2 + 1) z27.1 ky8_0 _ _ h hP hD hT hS ls (lv_sub hl [3, 4, 1, 0] rfl)
                · replace h := ite_t c22 h
                  exact r_vret hx hb hr hlocks hP hK hD hT hG hS (Option.some.inj h) dX13_readRoad_93
              · replace h := ite_t c20 h
                refine lv_aload_n hx hb dX13_readRoad_67 rfl (lv_at hl 0 rfl) ?_
                obtain ⟨z28, h28, h⟩ := ob_some h
                refine k_z (va_runV (As := []) (rest := []) ⟨hx, hb, hml, hown, hts⟩ (c_X13_isSlope (l := l) M8 y8_0 ky8_0 h28) (cwV 0 hts gX13_readRoad_X13_isSlope rfl rfl rfl hdV_X13_isSlope ⟨Nat.le_of_ble_eq_true rfl, Nat.le_of_ble_eq_true rfl⟩) (pV (T := TX13) hP hK hD hT hG hS ky8_0 (by decide) rfl) rfl rfl hl.1 rfl (lv_room (Nat.le_of_ble_eq_true rfl)) dX13_readRoad_68 ⟨Nat.zero_le _, Nat.zero_le _⟩) hS (fun H locs hz28 hP hD hT hS => ?_)
                refine lv_if_eq (tgt := 79) hx hb dX13_readRoad_71 rfl (fun c29 => ?_) (fun c29 => ?_)
                · replace h := ite_t c29 h
                  refine lv_aload_n hx hb dX13_readRoad_79 rfl (lv_at hl 0 rfl) ?_
                  obtain ⟨z30, h30, h⟩ := ob_some h
                  refine k_i (va_runV (As := []) (rest := []) ⟨hx, hb, hml, hown, hts⟩ (c_X13_readSlope (l := l) M8 y8_0 ky8_0 h30) (cwV 0 hts gX13_readRoad_X13_readSlope rfl rfl rfl hdV_X13_readSlope ⟨Nat.le_of_ble_eq_true rfl, Nat.le_of_ble_eq_true rfl⟩) (pV (T := TX13) hP hK hD hT hG hS ky8_0 (by decide) rfl) rfl rfl hl.1 rfl (lv_room (Nat.le_of_ble_eq_true rfl)) dX13_readRoad_80 ⟨Nat.zero_le _, Nat.zero_le _⟩) hS (fun H locs hP hD hT hS => ?_)
                  refine lv_istore (lv' := [(4, .int z30.1), (0, .ref (ad y8_0)), (1, .int y8_1), (2, .int y8_2), (3, .int y8_3)]) hx hb dX13_readRoad_83 hl (by decide) rfl (fun ls hl => ?_)
                  refine lv_aload_n hx hb dX13_readRoad_85 rfl (lv_at hl 1 rfl) ?_
                  refine r_get (T := TX13) (v := .int (gI z30.2 y8_0 9)) hx hb hts in13 hown hK hP ky8_0 (by decide) rfl 9 (by decide) (hts (.fieldLink RX13 58 "StoneWalkModel" "sort" "I") (List.mem_of_getElem? (i := 2) (by decide +kernel))) rfl (t := 0) rfl rfl dX13_readRoad_86 ?_
                  refine lv_iconst (v := 5) hx hb dX13_readRoad_89 rfl ?_
                  refine lv_icmp_ne (tgt := 94) hx hb dX13_readRoad_90 rfl (fun c31 => ?_) (fun c31 => ?_)
                  · replace h := ite_f c31 h
                    refine lv_aload_n hx hb dX13_readRoad_94 rfl (lv_at hl 1 rfl) ?_
                    rcases hN32 : gR z30.2 y8_0 4 with _ | b32
                    · replace h := oc_n hN32 h
                      refine r_get (T := TX13) (v := .null) hx hb hts in13 hown hK hP ky8_0 (by decide) rfl 4 (by decide) (hts (.fieldLink RX13 150 "StoneWalkModel" "read" "LStoneWalkModel$Island;") (List.mem_of_getElem? (i := 1) (by decide +kernel))) rfl (t := 2) rfl (by show va_rf _ = _; rw [hN32]; rfl) dX13_readRoad_95 ?_
                      exact absurd h (by simp)
                    · replace h := oc_s hN32 h
                      have kb32 := hT.f ky8_0 (k := 4) (t := 12) (n := 0) rfl hN32
                      refine r_get (T := TX13) (v := .ref (ad b32)) hx hb hts in13 hown hK hP ky8_0 (by decide) rfl 4 (by decide) (hts (.fieldLink RX13 150 "StoneWalkModel" "read" "LStoneWalkModel$Island;") (List.mem_of_getElem? (i := 1) (by decide +kernel))) rfl (t := 2) rfl (by show va_rf _ = _; rw [hN32]; rfl) dX13_readRoad_95 ?_
                      rcases hN33 : gR z30.2 b32 14 with _ | b33
                      · exact absurd (oc_n hN33 h) (by simp)
                      replace h := oc_s hN33 h
                      have kb33 := hT.f kb32 (k := 14) (t := 15) (n := 18) rfl hN33
                      refine r_getN (T := TX12) (v := .ref (ad b33)) hx hb hts in12 hown hK hP kb32 (by decide) rfl 14 (by decide) (hG.2.2.1 _ (List.mem_of_getElem? (i := 11) rfl)) rfl (t := 2) rfl (by show va_rf _ = _; rw [hN33]; rfl) dX13_readRoad_98 ?_
                      refine lv_bipush (v := 6) hx hb dX13_readRoad_101 rfl ?_
                      refine lv_aload_n hx hb dX13_readRoad_103 rfl (lv_at hl 1 rfl) ?_
                      rcases hN34 : gR z30.2 y8_0 4 with _ | b34
                      · replace h := oc_n hN34 h
                        refine r_get (T := TX13) (v := .null) hx hb hts in13 hown hK hP ky8_0 (by decide) rfl 4 (by decide) (hts (.fieldLink RX13 150 "StoneWalkModel" "read" "LStoneWalkModel$Island;") (List.mem_of_getElem? (i := 1) (by decide +kernel))) rfl (t := 2) rfl (by show va_rf _ = _; rw [hN34]; rfl) dX13_readRoad_104 ?_
                        exact absurd h (by simp)
                      · replace h := oc_s hN34 h
                        have kb34 := hT.f ky8_0 (k := 4) (t := 12) (n := 0) rfl hN34
                        refine r_get (T := TX13) (v := .ref (ad b34)) hx hb hts in13 hown hK hP ky8_0 (by decide) rfl 4 (by decide) (hts (.fieldLink RX13 150 "StoneWalkModel" "read" "LStoneWalkModel$Island;") (List.mem_of_getElem? (i := 1) (by decide +kernel))) rfl (t := 2) rfl (by show va_rf _ = _; rw [hN34]; rfl) dX13_readRoad_104 ?_
                        refine r_getN (T := TX12) (v := .int (gI z30.2 b34 1)) hx hb hts in12 hown hK hP kb34 (by decide) rfl 1 (by decide) (hG.2.2.1 _ (List.mem_of_getElem? (i := 6) rfl)) rfl (t := 0) rfl rfl dX13_readRoad_107 ?_
                        refine lv_imul hx hb dX13_readRoad_110 ?_
                        refine lv_iload_n hx hb dX13_readRoad_111 rfl (lv_at hl 3 rfl) ?_
                        refine lv_iadd hx hb dX13_readRoad_112 ?_
                        refine lv_iload hx hb dX13_readRoad_113 (lv_at hl 0 rfl) ?_
                        obtain ⟨hn35, h⟩ := chk_some h
                        refine r_iast hx hb hK hP hD hT hS kb33 hn35 dX13_readRoad_115 (fun H locs hP hD hT hS => ?_)
                        refine lv_iinc (v := y8_2 + 1) (lv' := [(2, .int (y8_2 + 1)), (4, .int z30.1), (0, .ref (ad y8_0)), (1, .int y8_1), (3, .int y8_3)]) hx hb dX13_readRoad_116 hl (k := 3) rfl rfl (by decide) rfl (fun ls hl => ?_)
                        refine lv_aload_n hx hb dX13_readRoad_119 rfl (lv_at hl 2 rfl) ?_
                        refine lv_bipush (v := 44) hx hb dX13_readRoad_120 rfl ?_
                        obtain ⟨z36, h36, h⟩ := ob_some h
                        refine k_z (va_runV (As := [.int 44]) (rest := []) ⟨hx, hb, hml, hown, hts⟩ (c_X13_eatsSign (l := l) (pI z30.2 b33 (ix ((6 * (gI z30.2 b34 1)) + y8_2)) z30.1) y8_0 44 ky8_0 h36) (cwV 1 hts gX13_readRoad_X13_eatsSign rfl rfl rfl hdV_X13_eatsSign ⟨Nat.le_of_ble_eq_true rfl, Nat.le_of_ble_eq_true rfl⟩) (pV (T := TX13) hP hK hD hT hG hS ky8_0 (by decide) rfl) rfl rfl hl.1 rfl (lv_room (Nat.le_of_ble_eq_true rfl)) dX13_readRoad_122 ⟨Nat.zero_le _, Nat.zero_le _⟩) hS (fun H locs hz36 hP hD hT hS => ?_)
                        refine lv_istore_n (lv' := [(3, .int z36.1), (2, .int (y8_2 + 1)), (4, .int z30.1), (0, .ref (ad y8_0)), (1, .int y8_1)]) hx hb dX13_readRoad_125 rfl hl (by decide) rfl (fun ls hl => ?_)
                        refine lv_goto (tgt := 57) hx hb dX13_readRoad_126 rfl ?_
                        exact ih8 z36.2 y8_0 y8_1 (y8_2 + 1) z36.1 ky8_0 _ _ h hP hD hT hS ls (lv_sub hl [3, 4, 1, 0] rfl)
                  · replace h := ite_t c31 h
                    exact r_vret hx hb hr hlocks hP hK hD hT hG hS (Option.some.inj h) dX13_readRoad_93
                · replace h := ite_f c29 h
                  refine lv_aload_n hx hb dX13_readRoad_74 rfl (lv_at hl 0 rfl) ?_
                  refine lv_iconst (v := 5) hx hb dX13_readRoad_75 rfl ?_
                  obtain ⟨z37, h37, h⟩ := ob_some h
                  refine k_v (va_runV (As := [.int 5]) (rest := []) ⟨hx, hb, hml, hown, hts⟩ (c_X13_wrong (l := l) M8 y8_0 5 ky8_0 h37) (cwV 1 hts gX13_readRoad_X13_wrong rfl rfl rfl hdV_X13_wrong ⟨Nat.le_of_ble_eq_true rfl, Nat.le_of_ble_eq_true rfl⟩) (pV (T := TX13) hP hK hD hT hG hS ky8_0 (by decide) rfl) rfl rfl hl.1 rfl (lv_room (Nat.le_of_ble_eq_true rfl)) dX13_readRoad_76 ⟨Nat.zero_le _, Nat.zero_le _⟩) hS (fun H locs hP hD hT hS => ?_)
                  refine lv_aload_n hx hb dX13_readRoad_79 rfl (lv_at hl 0 rfl) ?_
                  obtain ⟨z38, h38, h⟩ := ob_some h
                  refine k_i (va_runV (As := []) (rest := []) ⟨hx, hb, hml, hown, hts⟩ (c_X13_readSlope (l := l) z37 y8_0 ky8_0 h38) (cwV 0 hts gX13_readRoad_X13_readSlope rfl rfl rfl hdV_X13_readSlope ⟨Nat.le_of_ble_eq_true rfl, Nat.le_of_ble_eq_true rfl⟩) (pV (T := TX13) hP hK hD hT hG hS ky8_0 (by decide) rfl) rfl rfl hl.1 rfl (lv_room (Nat.le_of_ble_eq_true rfl)) dX13_readRoad_80 ⟨Nat.zero_le _, Nat.zero_le _⟩) hS (fun H locs hP hD hT hS => ?_)
                  refine lv_istore (lv' := [(4, .int z38.1), (0, .ref (ad y8_0)), (1, .int y8_1), (2, .int y8_2), (3, .int y8_3)]) hx hb dX13_readRoad_83 hl (by decide) rfl (fun ls hl => ?_)
                  refine lv_aload_n hx hb dX13_readRoad_85 rfl (lv_at hl 1 rfl) ?_
                  refine r_get (T := TX13) (v := .int (gI z38.2 y8_0 9)) hx hb hts in13 hown hK hP ky8_0 (by decide) rfl 9 (by decide) (hts (.fieldLink RX13 58 "StoneWalkModel" "sort" "I") (List.mem_of_getElem? (i := 2) (by decide +kernel))) rfl (t := 0) rfl rfl dX13_readRoad_86 ?_
                  refine lv_iconst (v := 5) hx hb dX13_readRoad_89 rfl ?_
                  refine lv_icmp_ne (tgt := 94) hx hb dX13_readRoad_90 rfl (fun c39 => ?_) (fun c39 => ?_)
                  · replace h := ite_f c39 h
                    refine lv_aload_n hx hb dX13_readRoad_94 rfl (lv_at hl 1 rfl) ?_
                    rcases hN40 : gR z38.2 y8_0 4 with _ | b40
                    · replace h := oc_n hN40 h
                      refine r_get (T := TX13) (v := .null) hx hb hts in13 hown hK hP ky8_0 (by decide) rfl 4 (by decide) (hts (.fieldLink RX13 150 "StoneWalkModel" "read" "LStoneWalkModel$Island;") (List.mem_of_getElem? (i := 1) (by decide +kernel))) rfl (t := 2) rfl (by show va_rf _ = _; rw [hN40]; rfl) dX13_readRoad_95 ?_
                      exact absurd h (by simp)
                    · replace h := oc_s hN40 h
                      have kb40 := hT.f ky8_0 (k := 4) (t := 12) (n := 0) rfl hN40
                      refine r_get (T := TX13) (v := .ref (ad b40)) hx hb hts in13 hown hK hP ky8_0 (by decide) rfl 4 (by decide) (hts (.fieldLink RX13 150 "StoneWalkModel" "read" "LStoneWalkModel$Island;") (List.mem_of_getElem? (i := 1) (by decide +kernel))) rfl (t := 2) rfl (by show va_rf _ = _; rw [hN40]; rfl) dX13_readRoad_95 ?_
                      rcases hN41 : gR z38.2 b40 14 with _ | b41
                      · exact absurd (oc_n hN41 h) (by simp)
                      replace h := oc_s hN41 h
                      have kb41 := hT.f kb40 (k := 14) (t := 15) (n := 18) rfl hN41
                      refine r_getN (T := TX12) (v := .ref (ad b41)) hx hb hts in12 hown hK hP kb40 (by decide) rfl 14 (by decide) (hG.2.2.1 _ (List.mem_of_getElem? (i := 11) rfl)) rfl (t := 2) rfl (by show va_rf _ = _; rw [hN41]; rfl) dX13_readRoad_98 ?_
                      refine lv_bipush (v := 6) hx hb dX13_readRoad_101 rfl ?_
                      refine lv_aload_n hx hb dX13_readRoad_103 rfl (lv_at hl 1 rfl) ?_
                      rcases hN42 : gR z38.2 y8_0 4 with _ | b42
                      · replace h := oc_n hN42 h
                        refine r_get (T := TX13) (v := .null) hx hb hts in13 hown hK hP ky8_0 (by decide) rfl 4 (by decide) (hts (.fieldLink RX13 150 "StoneWalkModel" "read" "LStoneWalkModel$Island;") (List.mem_of_getElem? (i := 1) (by decide +kernel))) rfl (t := 2) rfl (by show va_rf _ = _; rw [hN42]; rfl) dX13_readRoad_104 ?_
                        exact absurd h (by simp)
                      · replace h := oc_s hN42 h
                        have kb42 := hT.f ky8_0 (k := 4) (t := 12) (n := 0) rfl hN42
                        refine r_get (T := TX13) (v := .ref (ad b42)) hx hb hts in13 hown hK hP ky8_0 (by decide) rfl 4 (by decide) (hts (.fieldLink RX13 150 "StoneWalkModel" "read" "LStoneWalkModel$Island;") (List.mem_of_getElem? (i := 1) (by decide +kernel))) rfl (t := 2) rfl (by show va_rf _ = _; rw [hN42]; rfl) dX13_readRoad_104 ?_
                        refine r_getN (T := TX12) (v := .int (gI z38.2 b42 1)) hx hb hts in12 hown hK hP kb42 (by decide) rfl 1 (by decide) (hG.2.2.1 _ (List.mem_of_getElem? (i := 6) rfl)) rfl (t := 0) rfl rfl dX13_readRoad_107 ?_
                        refine lv_imul hx hb dX13_readRoad_110 ?_
                        refine lv_iload_n hx hb dX13_readRoad_111 rfl (lv_at hl 3 rfl) ?_
                        refine lv_iadd hx hb dX13_readRoad_112 ?_
                        refine lv_iload hx hb dX13_readRoad_113 (lv_at hl 0 rfl) ?_
                        obtain ⟨hn43, h⟩ := chk_some h
                        refine r_iast hx hb hK hP hD hT hS kb41 hn43 dX13_readRoad_115 (fun H locs hP hD hT hS => ?_)
                        refine lv_iinc (v := y8_2 + 1) (lv' := [(2, .int (y8_2 + 1)), (4, .int z38.1), (0, .ref (ad y8_0)), (1, .int y8_1), (3, .int y8_3)]) hx hb dX13_readRoad_116 hl (k := 3) rfl rfl (by decide) rfl (fun ls hl => ?_)
                        refine lv_aload_n hx hb dX13_readRoad_119 rfl (lv_at hl 2 rfl) ?_
                        refine lv_bipush (v := 44) hx hb dX13_readRoad_120 rfl ?_
                        obtain ⟨z44, h44, h⟩ := ob_some h
                        refine k_z (va_runV (As := [.int 44]) (rest := []) ⟨hx, hb, hml, hown, hts⟩ (c_X13_eatsSign (l := l) (pI z38.2 b41 (ix ((6 * (gI z38.2 b42 1)) + y8_2)) z38.1) y8_0 44 ky8_0 h44) (cwV 1 hts gX13_readRoad_X13_eatsSign rfl rfl rfl hdV_X13_eatsSign ⟨Nat.le_of_ble_eq_true rfl, Nat.le_of_ble_eq_true rfl⟩) (pV (T := TX13) hP hK hD hT hG hS ky8_0 (by decide) rfl) rfl rfl hl.1 rfl (lv_room (Nat.le_of_ble_eq_true rfl)) dX13_readRoad_122 ⟨Nat.zero_le _, Nat.zero_le _⟩) hS (fun H locs hz44 hP hD hT hS => ?_)
                        refine lv_istore_n (lv' := [(3, .int z44.1), (2, .int (y8_2 + 1)), (4, .int z38.1), (0, .ref (ad y8_0)), (1, .int y8_1)]) hx hb dX13_readRoad_125 rfl hl (by decide) rfl (fun ls hl => ?_)
                        refine lv_goto (tgt := 57) hx hb dX13_readRoad_126 rfl ?_
                        exact ih8 z44.2 y8_0 y8_1 (y8_2 + 1) z44.1 ky8_0 _ _ h hP hD hT hS ls (lv_sub hl [3, 4, 1, 0] rfl)
                  · replace h := ite_t c39 h
                    exact r_vret hx hb hr hlocks hP hK hD hT hG hS (Option.some.inj h) dX13_readRoad_93
        exact L8 FU z6 a0 z5.1 0 0 k0 _ _ h hP hD hT hS ls (lv_sub hl [3, 2, 1, 0] rfl)
      · replace h := ite_f c7 h
        refine lv_iconst (v := 1) hx hb dX13_readRoad_51 rfl ?_
        refine lv_goto (tgt := 56) hx hb dX13_readRoad_52 rfl ?_
        refine lv_istore_n (lv' := [(3, .int 1), (2, .int 0), (1, .int z5.1), (0, .ref (ad a0))]) hx hb dX13_readRoad_56 rfl hl (by decide) rfl (fun ls hl => ?_)
        have L45 : ∀ n45 : Nat, ∀ (M45 : MM) (y45_0 : Nat) (y45_1 : Int32) (y45_2 : Int32) (y45_3 : Int32) (ky45_0 : ok g y45_0 13 0) (H : Heap) (locs : List Loc), f_X13_readRoad_L57_1 n45 M45 y45_0 y45_1 y45_2 y45_3 = some Z → va_P D vwCl (wd ad cy g M45) H → va_D A (wd ad cy g M45) → WT g M45 → va_S A s.heap H locs → ∀ (ls : Array Slot), lv_has ls 5 [(0, .ref (ad y45_0)), (1, .int y45_1), (2, .int y45_2), (3, .int y45_3)] → W p l e ((headSpec wsX13_readRoad ({ frames := 8, cells := 0, slots := 0, locals := 173 })).room) s m (([.ref (ad a0)] : List Value).toArray) below meth c H locs 0 0 (MQ below (va_Qv (fun u => u = Z) (Wd D ad cy A g q) A) ([.ref (ad a0)]).toArray s 0 0 A) (F0 m 57 ls []) := by
          intro n45
          induction n45 with
          | zero => intro M45 y45_0 y45_1 y45_2 y45_3 ky45_0 H locs h; exact absurd h (by simp [f_X13_readRoad_L57_1])
          | succ n45 ih45 =>
            intro M45 y45_0 y45_1 y45_2 y45_3 ky45_0 H locs h hP hD hT hS ls hl
            rw [f_X13_readRoad_L57_1] at h
            refine lv_iload_n hx hb dX13_readRoad_57 rfl (lv_at hl 3 rfl) ?_
            refine lv_if_eq (tgt := 129) hx hb dX13_readRoad_58 rfl (fun c46 => ?_) (fun c46 => ?_)
            · replace h := ite_t c46 h
              refine lv_aload_n hx hb dX13_readRoad_129 rfl (lv_at hl 0 rfl) ?_
              refine r_get (T := TX13) (v := .int (gI M45 y45_0 9)) hx hb hts in13 hown hK hP ky45_0 (by decide) rfl 9 (by decide) (hts (.fieldLink RX13 58 "StoneWalkModel" "sort" "I") (List.mem_of_getElem? (i := 2) (by decide +kernel))) rfl (t := 0) rfl rfl dX13_readRoad_130 ?_
              refine lv_iconst (v := 5) hx hb dX13_readRoad_133 rfl ?_
              refine lv_icmp_ne (tgt := 138) hx hb dX13_readRoad_134 rfl (fun c47 => ?_) (fun c47 => ?_)
              · replace h := ite_f c47 h
                refine lv_aload_n hx hb dX13_readRoad_138 rfl (lv_at hl 0 rfl) ?_
                rcases hN48 : gR M45 y45_0 4 with _ | b48
                · replace h := oc_n hN48 h
                  refine r_get (T := TX13) (v := .null) hx hb hts in13 hown hK hP ky45_0 (by decide) rfl 4 (by decide) (hts (.fieldLink RX13 150 "StoneWalkModel" "read" "LStoneWalkModel$Island;") (List.mem_of_getElem? (i := 1) (by decide +kernel))) rfl (t := 2) rfl (by show va_rf _ = _; rw [hN48]; rfl) dX13_readRoad_139 ?_
                  exact absurd h (by simp)
                · replace h := oc_s hN48 h
                  have kb48 := hT.f ky45_0 (k := 4) (t := 12) (n := 0) rfl hN48
                  refine r_get (T := TX13) (v := .ref (ad b48)) hx hb hts in13 hown hK hP ky45_0 (by decide) rfl 4 (by decide) (hts (.fieldLink RX13 150 "StoneWalkModel" "read" "LStoneWalkModel$Island;") (List.mem_of_getElem? (i := 1) (by decide +kernel))) rfl (t := 2) rfl (by show va_rf _ = _; rw [hN48]; rfl) dX13_readRoad_139 ?_
                  rcases hN49 : gR M45 b48 12 with _ | b49
                  · exact absurd (oc_n hN49 h) (by simp)
                  replace h := oc_s hN49 h
                  have kb49 := hT.f kb48 (k := 12) (t := 15) (n := 3) rfl hN49
                  refine r_getN (T := TX12) (v := .ref (ad b49)) hx hb hts in12 hown hK hP kb48 (by decide) rfl 12 (by decide) (hG.2.2.1 _ (List.mem_of_getElem? (i := 12) rfl)) rfl (t := 2) rfl (by show va_rf _ = _; rw [hN49]; rfl) dX13_readRoad_142 ?_
                  refine lv_aload_n hx hb dX13_readRoad_145 rfl (lv_at hl 0 rfl) ?_
                  rcases hN50 : gR M45 y45_0 4 with _ | b50
                  · replace h := oc_n hN50 h
                    refine r_get (T := TX13) (v := .null) hx hb hts in13 hown hK hP ky45_0 (by decide) rfl 4 (by decide) (hts (.fieldLink RX13 150 "StoneWalkModel" "read" "LStoneWalkModel$Island;") (List.mem_of_getElem? (i := 1) (by decide +kernel))) rfl (t := 2) rfl (by show va_rf _ = _; rw [hN50]; rfl) dX13_readRoad_146 ?_
                    exact absurd h (by simp)
                  · replace h := oc_s hN50 h
                    have kb50 := hT.f ky45_0 (k := 4) (t := 12) (n := 0) rfl hN50
                    refine r_get (T := TX13) (v := .ref (ad b50)) hx hb hts in13 hown hK hP ky45_0 (by decide) rfl 4 (by decide) (hts (.fieldLink RX13 150 "StoneWalkModel" "read" "LStoneWalkModel$Island;") (List.mem_of_getElem? (i := 1) (by decide +kernel))) rfl (t := 2) rfl (by show va_rf _ = _; rw [hN50]; rfl) dX13_readRoad_146 ?_
                    refine r_getN (T := TX12) (v := .int (gI M45 b50 1)) hx hb hts in12 hown hK hP kb50 (by decide) rfl 1 (by decide) (hG.2.2.1 _ (List.mem_of_getElem? (i := 6) rfl)) rfl (t := 0) rfl rfl dX13_readRoad_149 ?_
                    refine lv_iload_n hx hb dX13_readRoad_152 rfl (lv_at hl 1 rfl) ?_
                    obtain ⟨hn51, h⟩ := chk_some h
                    refine r_iast hx hb hK hP hD hT hS kb49 hn51 dX13_readRoad_153 (fun H locs hP hD hT hS => ?_)
                    refine lv_aload_n hx hb dX13_readRoad_154 rfl (lv_at hl 0 rfl) ?_
                    rcases hN52 : gR (pI M45 b49 (ix (gI M45 b50 1)) y45_1) y45_0 4 with _ | b52
                    · replace h := oc_n hN52 h
                      refine r_get (T := TX13) (v := .null) hx hb hts in13 hown hK hP ky45_0 (by decide) rfl 4 (by decide) (hts (.fieldLink RX13 150 "StoneWalkModel" "read" "LStoneWalkModel$Island;") (List.mem_of_getElem? (i := 1) (by decide +kernel))) rfl (t := 2) rfl (by show va_rf _ = _; rw [hN52]; rfl) dX13_readRoad_155 ?_
                      exact absurd h (by simp)
                    · replace h := oc_s hN52 h
                      have kb52 := hT.f ky45_0 (k := 4) (t := 12) (n := 0) rfl hN52
                      refine r_get (T := TX13) (v := .ref (ad b52)) hx hb hts in13 hown hK hP ky45_0 (by decide) rfl 4 (by decide) (hts (.fieldLink RX13 150 "StoneWalkModel" "read" "LStoneWalkModel$Island;") (List.mem_of_getElem? (i := 1) (by decide +kernel))) rfl (t := 2) rfl (by show va_rf _ = _; rw [hN52]; rfl) dX13_readRoad_155 ?_
                      rcases hN53 : gR (pI M45 b49 (ix (gI M45 b50 1)) y45_1) b52 13 with _ | b53
                      · exact absurd (oc_n hN53 h) (by simp)
                      replace h := oc_s hN53 h
                      have kb53 := hT.f kb52 (k := 13) (t := 15) (n := 3) rfl hN53
                      refine r_getN (T := TX12) (v := .ref (ad b53)) hx hb hts in12 hown hK hP kb52 (by decide) rfl 13 (by decide) (hG.2.2.1 _ (List.mem_of_getElem? (i := 13) rfl)) rfl (t := 2) rfl (by show va_rf _ = _; rw [hN53]; rfl) dX13_readRoad_158 ?_
                      refine lv_aload_n hx hb dX13_readRoad_161 rfl (lv_at hl 0 rfl) ?_
                      rcases hN54 : gR (pI M45 b49 (ix (gI M45 b50 1)) y45_1) y45_0 4 with _ | b54
                      · replace h := oc_n hN54 h
                        refine r_get (T := TX13) (v := .null) hx hb hts in13 hown hK hP ky45_0 (by decide) rfl 4 (by decide) (hts (.fieldLink RX13 150 "StoneWalkModel" "read" "LStoneWalkModel$Island;") (List.mem_of_getElem? (i := 1) (by decide +kernel))) rfl (t := 2) rfl (by show va_rf _ = _; rw [hN54]; rfl) dX13_readRoad_162 ?_
                        exact absurd h (by simp)
                      · replace h := oc_s hN54 h
                        have kb54 := hT.f ky45_0 (k := 4) (t := 12) (n := 0) rfl hN54
                        refine r_get (T := TX13) (v := .ref (ad b54)) hx hb hts in13 hown hK hP ky45_0 (by decide) rfl 4 (by decide) (hts (.fieldLink RX13 150 "StoneWalkModel" "read" "LStoneWalkModel$Island;") (List.mem_of_getElem? (i := 1) (by decide +kernel))) rfl (t := 2) rfl (by show va_rf _ = _; rw [hN54]; rfl) dX13_readRoad_162 ?_
                        refine r_getN (T := TX12) (v := .int (gI (pI M45 b49 (ix (gI M45 b50 1)) y45_1) b54 1)) hx hb hts in12 hown hK hP kb54 (by decide) rfl 1 (by decide) (hG.2.2.1 _ (List.mem_of_getElem? (i := 6) rfl)) rfl (t := 0) rfl rfl dX13_readRoad_165 ?_
                        refine lv_iload_n hx hb dX13_readRoad_168 rfl (lv_at hl 2 rfl) ?_
                        obtain ⟨hn55, h⟩ := chk_some h
                        refine r_iast hx hb hK hP hD hT hS kb53 hn55 dX13_readRoad_169 (fun H locs hP hD hT hS => ?_)
                        refine lv_aload_n hx hb dX13_readRoad_170 rfl (lv_at hl 0 rfl) ?_
                        rcases hN56 : gR (pI (pI M45 b49 (ix (gI M45 b50 1)) y45_1) b53 (ix (gI (pI M45 b49 (ix (gI M45 b50 1)) y45_1) b54 1)) y45_2) y45_0 4 with _ | b56
                        · replace h := oc_n hN56 h
                          refine r_get (T := TX13) (v := .null) hx hb hts in13 hown hK hP ky45_0 (by decide) rfl 4 (by decide) (hts (.fieldLink RX13 150 "StoneWalkModel" "read" "LStoneWalkModel$Island;") (List.mem_of_getElem? (i := 1) (by decide +kernel))) rfl (t := 2) rfl (by show va_rf _ = _; rw [hN56]; rfl) dX13_readRoad_171 ?_
                          refine lv_dup hx hb dX13_readRoad_174 rfl ?_
                          exact absurd h (by simp)
                        · replace h := oc_s hN56 h
                          have kb56 := hT.f ky45_0 (k := 4) (t := 12) (n := 0) rfl hN56
                          refine r_get (T := TX13) (v := .ref (ad b56)) hx hb hts in13 hown hK hP ky45_0 (by decide) rfl 4 (by decide) (hts (.fieldLink RX13 150 "StoneWalkModel" "read" "LStoneWalkModel$Island;") (List.mem_of_getElem? (i := 1) (by decide +kernel))) rfl (t := 2) rfl (by show va_rf _ = _; rw [hN56]; rfl) dX13_readRoad_171 ?_
                          refine lv_dup hx hb dX13_readRoad_174 rfl ?_
                          refine r_getN (T := TX12) (v := .int (gI (pI (pI M45 b49 (ix (gI M45 b50 1)) y45_1) b53 (ix (gI (pI M45 b49 (ix (gI M45 b50 1)) y45_1) b54 1)) y45_2) b56 1)) hx hb hts in12 hown hK hP kb56 (by decide) rfl 1 (by decide) (hG.2.2.1 _ (List.mem_of_getElem? (i := 6) rfl)) rfl (t := 0) rfl rfl dX13_readRoad_175 ?_
                          refine lv_iconst (v := 1) hx hb dX13_readRoad_178 rfl ?_
                          refine lv_iadd hx hb dX13_readRoad_179 ?_
                          refine r_putIN (T := TX12) (ty := .int) (v := (gI (pI (pI M45 b49 (ix (gI M45 b50 1)) y45_1) b53 (ix (gI (pI M45 b49 (ix (gI M45 b50 1)) y45_1) b54 1)) y45_2) b56 1) + 1) hx hb hts in12 tyX12 tyX12_ok nmX12 hown hK hP hD hT hS kb56 (by decide) rfl 1 (by decide) (hG.2.2.1 _ (List.mem_of_getElem? (i := 6) rfl)) rfl rfl (tyX12_ok 1 (by decide)) rfl rfl rfl dX13_readRoad_180 (fun H locs hP hD hT hS => ?_)
                          exact r_vret hx hb hr hlocks hP hK hD hT hG hS (Option.some.inj h) dX13_readRoad_183
              · replace h := ite_t c47 h
                exact r_vret hx hb hr hlocks hP hK hD hT hG hS (Option.some.inj h) dX13_readRoad_137
            · replace h := ite_f c46 h
              refine lv_iload_n hx hb dX13_readRoad_61 rfl (lv_at hl 2 rfl) ?_
              refine lv_bipush (v := 6) hx hb dX13_readRoad_62 rfl ?_
              refine lv_icmp_ne (tgt := 79) hx hb dX13_readRoad_64 rfl (fun c57 => ?_) (fun c57 => ?_)
              · replace h := ite_f c57 h
                refine lv_aload_n hx hb dX13_readRoad_79 rfl (lv_at hl 0 rfl) ?_
                obtain ⟨z58, h58, h⟩ := ob_some h
                refine k_i (va_runV (As := []) (rest := []) ⟨hx, hb, hml, hown, hts⟩ (c_X13_readSlope (l := l) M45 y45_0 ky45_0 h58) (cwV 0 hts gX13_readRoad_X13_readSlope rfl rfl rfl hdV_X13_readSlope ⟨Nat.le_of_ble_eq_true rfl, Nat.le_of_ble_eq_true rfl⟩) (pV (T := TX13) hP hK hD hT hG hS ky45_0 (by decide) rfl) rfl rfl hl.1 rfl (lv_room (Nat.le_of_ble_eq_true rfl)) dX13_readRoad_80 ⟨Nat.zero_le _, Nat.zero_le _⟩) hS (fun H locs hP hD hT hS => ?_)
                refine lv_istore (lv' := [(4, .int z58.1), (0, .ref (ad y45_0)), (1, .int y45_1), (2, .int y45_2), (3, .int y45_3)]) hx hb dX13_readRoad_83 hl (by decide) rfl (fun ls hl => ?_)
                refine lv_aload_n hx hb dX13_readRoad_85 rfl (lv_at hl 1 rfl) ?_
                refine r_get (T := TX13) (v := .int (gI z58.2 y45_0 9)) hx hb hts in13 hown hK hP ky45_0 (by decide) rfl 9 (by decide) (hts (.fieldLink RX13 58 "StoneWalkModel" "sort" "I") (List.mem_of_getElem? (i := 2) (by decide +kernel))) rfl (t := 0) rfl rfl dX13_readRoad_86 ?_
                refine lv_iconst (v := 5) hx hb dX13_readRoad_89 rfl ?_
                refine lv_icmp_ne (tgt := 94) hx hb dX13_readRoad_90 rfl (fun c59 => ?_) (fun c59 => ?_)
                · replace h := ite_f c59 h
                  refine lv_aload_n hx hb dX13_readRoad_94 rfl (lv_at hl 1 rfl) ?_
                  rcases hN60 : gR z58.2 y45_0 4 with _ | b60
                  · replace h := oc_n hN60 h
                    refine r_get (T := TX13) (v := .null) hx hb hts in13 hown hK hP ky45_0 (by decide) rfl 4 (by decide) (hts (.fieldLink RX13 150 "StoneWalkModel" "read" "LStoneWalkModel$Island;") (List.mem_of_getElem? (i := 1) (by decide +kernel))) rfl (t := 2) rfl (by show va_rf _ = _; rw [hN60]; rfl) dX13_readRoad_95 ?_
                    exact absurd h (by simp)
                  · replace h := oc_s hN60 h
                    have kb60 := hT.f ky45_0 (k := 4) (t := 12) (n := 0) rfl hN60
                    refine r_get (T := TX13) (v := .ref (ad b60)) hx hb hts in13 hown hK hP ky45_0 (by decide) rfl 4 (by decide) (hts (.fieldLink RX13 150 "StoneWalkModel" "read" "LStoneWalkModel$Island;") (List.mem_of_getElem? (i := 1) (by decide +kernel))) rfl (t := 2) rfl (by show va_rf _ = _; rw [hN60]; rfl) dX13_readRoad_95 ?_
                    rcases hN61 : gR z58.2 b60 14 with _ | b61
                    · exact absurd (oc_n hN61 h) (by simp)
                    replace h := oc_s hN61 h
                    have kb61 := hT.f kb60 (k := 14) (t := 15) (n := 18) rfl hN61
                    refine r_getN (T := TX12) (v := .ref (ad b61)) hx hb hts in12 hown hK hP kb60 (by decide) rfl 14 (by decide) (hG.2.2.1 _ (List.mem_of_getElem? (i := 11) rfl)) rfl (t := 2) rfl (by show va_rf _ = _; rw [hN61]; rfl) dX13_readRoad_98 ?_
                    refine lv_bipush (v := 6) hx hb dX13_readRoad_101 rfl ?_
                    refine lv_aload_n hx hb dX13_readRoad_103 rfl (lv_at hl 1 rfl) ?_
                    rcases hN62 : gR z58.2 y45_0 4 with _ | b62
                    · replace h := oc_n hN62 h
                      refine r_get (T := TX13) (v := .null) hx hb hts in13 hown hK hP ky45_0 (by decide) rfl 4 (by decide) (hts (.fieldLink RX13 150 "StoneWalkModel" "read" "LStoneWalkModel$Island;") (List.mem_of_getElem? (i := 1) (by decide +kernel))) rfl (t := 2) rfl (by show va_rf _ = _; rw [hN62]; rfl) dX13_readRoad_104 ?_
                      exact absurd h (by simp)
                    · replace h := oc_s hN62 h
                      have kb62 := hT.f ky45_0 (k := 4) (t := 12) (n := 0) rfl hN62
                      refine r_get (T := TX13) (v := .ref (ad b62)) hx hb hts in13 hown hK hP ky45_0 (by decide) rfl 4 (by decide) (hts (.fieldLink RX13 150 "StoneWalkModel" "read" "LStoneWalkModel$Island;") (List.mem_of_getElem? (i := 1) (by decide +kernel))) rfl (t := 2) rfl (by show va_rf _ = _; rw [hN62]; rfl) dX13_readRoad_104 ?_
                      refine r_getN (T := TX12) (v := .int (gI z58.2 b62 1)) hx hb hts in12 hown hK hP kb62 (by decide) rfl 1 (by decide) (hG.2.2.1 _ (List.mem_of_getElem? (i := 6) rfl)) rfl (t := 0) rfl rfl dX13_readRoad_107 ?_
                      refine lv_imul hx hb dX13_readRoad_110 ?_
                      refine lv_iload_n hx hb dX13_readRoad_111 rfl (lv_at hl 3 rfl) ?_
                      refine lv_iadd hx hb dX13_readRoad_112 ?_
                      refine lv_iload hx hb dX13_readRoad_113 (lv_at hl 0 rfl) ?_
                      obtain ⟨hn63, h⟩ := chk_some h
                      refine r_iast hx hb hK hP hD hT hS kb61 hn63 dX13_readRoad_115 (fun H locs hP hD hT hS => ?_)
                      refine lv_iinc (v := y45_2 + 1) (lv' := [(2, .int (y45_2 + 1)), (4, .int z58.1), (0, .ref (ad y45_0)), (1, .int y45_1), (3, .int y45_3)]) hx hb dX13_readRoad_116 hl (k := 3) rfl rfl (by decide) rfl (fun ls hl => ?_)
                      refine lv_aload_n hx hb dX13_readRoad_119 rfl (lv_at hl 2 rfl) ?_
                      refine lv_bipush (v := 44) hx hb dX13_readRoad_120 rfl ?_
                      obtain ⟨z64, h64, h⟩ := ob_some h
                      refine k_z (va_runV (As := [.int 44]) (rest := []) ⟨hx, hb, hml, hown, hts⟩ (c_X13_eatsSign (l := l) (pI z58.2 b61 (ix ((6 * (gI z58.2 b62 1)) + y45_2)) z58.1) y45_0 44 ky45_0 h64) (cwV 1 hts gX13_readRoad_X13_eatsSign rfl rfl rfl hdV_X13_eatsSign ⟨Nat.le_of_ble_eq_true rfl, Nat.le_of_ble_eq_true rfl⟩) (pV (T := TX13) hP hK hD hT hG hS ky45_0 (by decide) rfl) rfl rfl hl.1 rfl (lv_room (Nat.le_of_ble_eq_true rfl)) dX13_readRoad_122 ⟨Nat.zero_le _, Nat.zero_le _⟩) hS (fun H locs hz64 hP hD hT hS => ?_)
                      refine lv_istore_n (lv' := [(3, .int z64.1), (2, .int (y45_2 + 1)), (4, .int z58.1), (0, .ref (ad y45_0)), (1, .int y45_1)]) hx hb dX13_readRoad_125 rfl hl (by decide) rfl (fun ls hl => ?_)
                      refine lv_goto (tgt := 57) hx hb dX13_readRoad_126 rfl ?_
                      exact ih45 z64.2 y45_0 y45_1 (y45_2 + 1) z64.1 ky45_0 _ _ h hP hD hT hS ls (lv_sub hl [3, 4, 1, 0] rfl)
                · replace h := ite_t c59 h
                  exact r_vret hx hb hr hlocks hP hK hD hT hG hS (Option.some.inj h) dX13_readRoad_93
              · replace h := ite_t c57 h
                refine lv_aload_n hx hb dX13_readRoad_67 rfl (lv_at hl 0 rfl) ?_
                obtain ⟨z65, h65, h⟩ := ob_some h
                refine k_z (va_runV (As := []) (rest := []) ⟨hx, hb, hml, hown, hts⟩ (c_X13_isSlope (l := l) M45 y45_0 ky45_0 h65) (cwV 0 hts gX13_readRoad_X13_isSlope rfl rfl rfl hdV_X13_isSlope ⟨Nat.le_of_ble_eq_true rfl, Nat.le_of_ble_eq_true rfl⟩) (pV (T := TX13) hP hK hD hT hG hS ky45_0 (by decide) rfl) rfl rfl hl.1 rfl (lv_room (Nat.le_of_ble_eq_true rfl)) dX13_readRoad_68 ⟨Nat.zero_le _, Nat.zero_le _⟩) hS (fun H locs hz65 hP hD hT hS => ?_)
                refine lv_if_eq (tgt := 79) hx hb dX13_readRoad_71 rfl (fun c66 => ?_) (fun c66 => ?_)
                · replace h := ite_t c66 h
                  refine lv_aload_n hx hb dX13_readRoad_79 rfl (lv_at hl 0 rfl) ?_
                  obtain ⟨z67, h67, h⟩ := ob_some h
                  refine k_i (va_runV (As := []) (rest := []) ⟨hx, hb, hml, hown, hts⟩ (c_X13_readSlope (l := l) M45 y45_0 ky45_0 h67) (cwV 0 hts gX13_readRoad_X13_readSlope rfl rfl rfl hdV_X13_readSlope ⟨Nat.le_of_ble_eq_true rfl, Nat.le_of_ble_eq_true rfl⟩) (pV (T := TX13) hP hK hD hT hG hS ky45_0 (by decide) rfl) rfl rfl hl.1 rfl (lv_room (Nat.le_of_ble_eq_true rfl)) dX13_readRoad_80 ⟨Nat.zero_le _, Nat.zero_le _⟩) hS (fun H locs hP hD hT hS => ?_)
                  refine lv_istore (lv' := [(4, .int z67.1), (0, .ref (ad y45_0)), (1, .int y45_1), (2, .int y45_2), (3, .int y45_3)]) hx hb dX13_readRoad_83 hl (by decide) rfl (fun ls hl => ?_)
                  refine lv_aload_n hx hb dX13_readRoad_85 rfl (lv_at hl 1 rfl) ?_
                  refine r_get (T := TX13) (v := .int (gI z67.2 y45_0 9)) hx hb hts in13 hown hK hP ky45_0 (by decide) rfl 9 (by decide) (hts (.fieldLink RX13 58 "StoneWalkModel" "sort" "I") (List.mem_of_getElem? (i := 2) (by decide +kernel))) rfl (t := 0) rfl rfl dX13_readRoad_86 ?_
                  refine lv_iconst (v := 5) hx hb dX13_readRoad_89 rfl ?_
                  refine lv_icmp_ne (tgt := 94) hx hb dX13_readRoad_90 rfl (fun c68 => ?_) (fun c68 => ?_)
                  · replace h := ite_f c68 h
                    refine lv_aload_n hx hb dX13_readRoad_94 rfl (lv_at hl 1 rfl) ?_
                    rcases hN69 : gR z67.2 y45_0 4 with _ | b69
                    · replace h := oc_n hN69 h
                      refine r_get (T := TX13) (v := .null) hx hb hts in13 hown hK hP ky45_0 (by decide) rfl 4 (by decide) (hts (.fieldLink RX13 150 "StoneWalkModel" "read" "LStoneWalkModel$Island;") (List.mem_of_getElem? (i := 1) (by decide +kernel))) rfl (t := 2) rfl (by show va_rf _ = _; rw [hN69]; rfl) dX13_readRoad_95 ?_
                      exact absurd h (by simp)
                    · replace h := oc_s hN69 h
                      have kb69 := hT.f ky45_0 (k := 4) (t := 12) (n := 0) rfl hN69
                      refine r_get (T := TX13) (v := .ref (ad b69)) hx hb hts in13 hown hK hP ky45_0 (by decide) rfl 4 (by decide) (hts (.fieldLink RX13 150 "StoneWalkModel" "read" "LStoneWalkModel$Island;") (List.mem_of_getElem? (i := 1) (by decide +kernel))) rfl (t := 2) rfl (by show va_rf _ = _; rw [hN69]; rfl) dX13_readRoad_95 ?_
                      rcases hN70 : gR z67.2 b69 14 with _ | b70
                      · exact absurd (oc_n hN70 h) (by simp)
                      replace h := oc_s hN70 h
                      have kb70 := hT.f kb69 (k := 14) (t := 15) (n := 18) rfl hN70
                      refine r_getN (T := TX12) (v := .ref (ad b70)) hx hb hts in12 hown hK hP kb69 (by decide) rfl 14 (by decide) (hG.2.2.1 _ (List.mem_of_getElem? (i := 11) rfl)) rfl (t := 2) rfl (by show va_rf _ = _; rw [hN70]; rfl) dX13_readRoad_98 ?_
                      refine lv_bipush (v := 6) hx hb dX13_readRoad_101 rfl ?_
                      refine lv_aload_n hx hb dX13_readRoad_103 rfl (lv_at hl 1 rfl) ?_
                      rcases hN71 : gR z67.2 y45_0 4 with _ | b71
                      · replace h := oc_n hN71 h
                        refine r_get (T := TX13) (v := .null) hx hb hts in13 hown hK hP ky45_0 (by decide) rfl 4 (by decide) (hts (.fieldLink RX13 150 "StoneWalkModel" "read" "LStoneWalkModel$Island;") (List.mem_of_getElem? (i := 1) (by decide +kernel))) rfl (t := 2) rfl (by show va_rf _ = _; rw [hN71]; rfl) dX13_readRoad_104 ?_
                        exact absurd h (by simp)
                      · replace h := oc_s hN71 h
                        have kb71 := hT.f ky45_0 (k := 4) (t := 12) (n := 0) rfl hN71
                        refine r_get (T := TX13) (v := .ref (ad b71)) hx hb hts in13 hown hK hP ky45_0 (by decide) rfl 4 (by decide) (hts (.fieldLink RX13 150 "StoneWalkModel" "read" "LStoneWalkModel$Island;") (List.mem_of_getElem? (i := 1) (by decide +kernel))) rfl (t := 2) rfl (by show va_rf _ = _; rw [hN71]; rfl) dX13_readRoad_104 ?_
                        refine r_getN (T := TX12) (v := .int (gI z67.2 b71 1)) hx hb hts in12 hown hK hP kb71 (by decide) rfl 1 (by decide) (hG.2.2.1 _ (List.mem_of_getElem? (i := 6) rfl)) rfl (t := 0) rfl rfl dX13_readRoad_107 ?_
                        refine lv_imul hx hb dX13_readRoad_110 ?_
                        refine lv_iload_n hx hb dX13_readRoad_111 rfl (lv_at hl 3 rfl) ?_
                        refine lv_iadd hx hb dX13_readRoad_112 ?_
                        refine lv_iload hx hb dX13_readRoad_113 (lv_at hl 0 rfl) ?_
                        obtain ⟨hn72, h⟩ := chk_some h
                        refine r_iast hx hb hK hP hD hT hS kb70 hn72 dX13_readRoad_115 (fun H locs hP hD hT hS => ?_)
                        refine lv_iinc (v := y45_2 + 1) (lv' := [(2, .int (y45_2 + 1)), (4, .int z67.1), (0, .ref (ad y45_0)), (1, .int y45_1), (3, .int y45_3)]) hx hb dX13_readRoad_116 hl (k := 3) rfl rfl (by decide) rfl (fun ls hl => ?_)
                        refine lv_aload_n hx hb dX13_readRoad_119 rfl (lv_at hl 2 rfl) ?_
                        refine lv_bipush (v := 44) hx hb dX13_readRoad_120 rfl ?_
                        obtain ⟨z73, h73, h⟩ := ob_some h
                        refine k_z (va_runV (As := [.int 44]) (rest := []) ⟨hx, hb, hml, hown, hts⟩ (c_X13_eatsSign (l := l) (pI z67.2 b70 (ix ((6 * (gI z67.2 b71 1)) + y45_2)) z67.1) y45_0 44 ky45_0 h73) (cwV 1 hts gX13_readRoad_X13_eatsSign rfl rfl rfl hdV_X13_eatsSign ⟨Nat.le_of_ble_eq_true rfl, Nat.le_of_ble_eq_true rfl⟩) (pV (T := TX13) hP hK hD hT hG hS ky45_0 (by decide) rfl) rfl rfl hl.1 rfl (lv_room (Nat.le_of_ble_eq_true rfl)) dX13_readRoad_122 ⟨Nat.zero_le _, Nat.zero_le _⟩) hS (fun H locs hz73 hP hD hT hS => ?_)
                        refine lv_istore_n (lv' := [(3, .int z73.1), (2, .int (y45_2 + 1)), (4, .int z67.1), (0, .ref (ad y45_0)), (1, .int y45_1)]) hx hb dX13_readRoad_125 rfl hl (by decide) rfl (fun ls hl => ?_)
                        refine lv_goto (tgt := 57) hx hb dX13_readRoad_126 rfl ?_
                        exact ih45 z73.2 y45_0 y45_1 (y45_2 + 1) z73.1 ky45_0 _ _ h hP hD hT hS ls (lv_sub hl [3, 4, 1, 0] rfl)
                  · replace h := ite_t c68 h
                    exact r_vret hx hb hr hlocks hP hK hD hT hG hS (Option.some.inj h) dX13_readRoad_93
                · replace h := ite_f c66 h
                  refine lv_aload_n hx hb dX13_readRoad_74 rfl (lv_at hl 0 rfl) ?_
                  refine lv_iconst (v := 5) hx hb dX13_readRoad_75 rfl ?_
                  obtain ⟨z74, h74, h⟩ := ob_some h
                  refine k_v (va_runV (As := [.int 5]) (rest := []) ⟨hx, hb, hml, hown, hts⟩ (c_X13_wrong (l := l) M45 y45_0 5 ky45_0 h74) (cwV 1 hts gX13_readRoad_X13_wrong rfl rfl rfl hdV_X13_wrong ⟨Nat.le_of_ble_eq_true rfl, Nat.le_of_ble_eq_true rfl⟩) (pV (T := TX13) hP hK hD hT hG hS ky45_0 (by decide) rfl) rfl rfl hl.1 rfl (lv_room (Nat.le_of_ble_eq_true rfl)) dX13_readRoad_76 ⟨Nat.zero_le _, Nat.zero_le _⟩) hS (fun H locs hP hD hT hS => ?_)
                  refine lv_aload_n hx hb dX13_readRoad_79 rfl (lv_at hl 0 rfl) ?_
                  obtain ⟨z75, h75, h⟩ := ob_some h
                  refine k_i (va_runV (As := []) (rest := []) ⟨hx, hb, hml, hown, hts⟩ (c_X13_readSlope (l := l) z74 y45_0 ky45_0 h75) (cwV 0 hts gX13_readRoad_X13_readSlope rfl rfl rfl hdV_X13_readSlope ⟨Nat.le_of_ble_eq_true rfl, Nat.le_of_ble_eq_true rfl⟩) (pV (T := TX13) hP hK hD hT hG hS ky45_0 (by decide) rfl) rfl rfl hl.1 rfl (lv_room (Nat.le_of_ble_eq_true rfl)) dX13_readRoad_80 ⟨Nat.zero_le _, Nat.zero_le _⟩) hS (fun H locs hP hD hT hS => ?_)
                  refine lv_istore (lv' := [(4, .int z75.1), (0, .ref (ad y45_0)), (1, .int y45_1), (2, .int y45_2), (3, .int y45_3)]) hx hb dX13_readRoad_83 hl (by decide) rfl (fun ls hl => ?_)
                  refine lv_aload_n hx hb dX13_readRoad_85 rfl (lv_at hl 1 rfl) ?_
                  refine r_get (T := TX13) (v := .int (gI z75.2 y45_0 9)) hx hb hts in13 hown hK hP ky45_0 (by decide) rfl 9 (by decide) (hts (.fieldLink RX13 58 "StoneWalkModel" "sort" "I") (List.mem_of_getElem? (i := 2) (by decide +kernel))) rfl (t := 0) rfl rfl dX13_readRoad_86 ?_
                  refine lv_iconst (v := 5) hx hb dX13_readRoad_89 rfl ?_
                  refine lv_icmp_ne (tgt := 94) hx hb dX13_readRoad_90 rfl (fun c76 => ?_) (fun c76 => ?_)
                  · replace h := ite_f c76 h
                    refine lv_aload_n hx hb dX13_readRoad_94 rfl (lv_at hl 1 rfl) ?_
                    rcases hN77 : gR z75.2 y45_0 4 with _ | b77
                    · replace h := oc_n hN77 h
                      refine r_get (T := TX13) (v := .null) hx hb hts in13 hown hK hP ky45_0 (by decide) rfl 4 (by decide) (hts (.fieldLink RX13 150 "StoneWalkModel" "read" "LStoneWalkModel$Island;") (List.mem_of_getElem? (i := 1) (by decide +kernel))) rfl (t := 2) rfl (by show va_rf _ = _; rw [hN77]; rfl) dX13_readRoad_95 ?_
                      exact absurd h (by simp)
                    · replace h := oc_s hN77 h
                      have kb77 := hT.f ky45_0 (k := 4) (t := 12) (n := 0) rfl hN77
                      refine r_get (T := TX13) (v := .ref (ad b77)) hx hb hts in13 hown hK hP ky45_0 (by decide) rfl 4 (by decide) (hts (.fieldLink RX13 150 "StoneWalkModel" "read" "LStoneWalkModel$Island;") (List.mem_of_getElem? (i := 1) (by decide +kernel))) rfl (t := 2) rfl (by show va_rf _ = _; rw [hN77]; rfl) dX13_readRoad_95 ?_
                      rcases hN78 : gR z75.2 b77 14 with _ | b78
                      · exact absurd (oc_n hN78 h) (by simp)
                      replace h := oc_s hN78 h
                      have kb78 := hT.f kb77 (k := 14) (t := 15) (n := 18) rfl hN78
                      refine r_getN (T := TX12) (v := .ref (ad b78)) hx hb hts in12 hown hK hP kb77 (by decide) rfl 14 (by decide) (hG.2.2.1 _ (List.mem_of_getElem? (i := 11) rfl)) rfl (t := 2) rfl (by show va_rf _ = _; rw [hN78]; rfl) dX13_readRoad_98 ?_
                      refine lv_bipush (v := 6) hx hb dX13_readRoad_101 rfl ?_
                      refine lv_aload_n hx hb dX13_readRoad_103 rfl (lv_at hl 1 rfl) ?_
                      rcases hN79 : gR z75.2 y45_0 4 with _ | b79
                      · replace h := oc_n hN79 h
                        refine r_get (T := TX13) (v := .null) hx hb hts in13 hown hK hP ky45_0 (by decide) rfl 4 (by decide) (hts (.fieldLink RX13 150 "StoneWalkModel" "read" "LStoneWalkModel$Island;") (List.mem_of_getElem? (i := 1) (by decide +kernel))) rfl (t := 2) rfl (by show va_rf _ = _; rw [hN79]; rfl) dX13_readRoad_104 ?_
                        exact absurd h (by simp)
                      · replace h := oc_s hN79 h
                        have kb79 := hT.f ky45_0 (k := 4) (t := 12) (n := 0) rfl hN79
                        refine r_get (T := TX13) (v := .ref (ad b79)) hx hb hts in13 hown hK hP ky45_0 (by decide) rfl 4 (by decide) (hts (.fieldLink RX13 150 "StoneWalkModel" "read" "LStoneWalkModel$Island;") (List.mem_of_getElem? (i := 1) (by decide +kernel))) rfl (t := 2) rfl (by show va_rf _ = _; rw [hN79]; rfl) dX13_readRoad_104 ?_
                        refine r_getN (T := TX12) (v := .int (gI z75.2 b79 1)) hx hb hts in12 hown hK hP kb79 (by decide) rfl 1 (by decide) (hG.2.2.1 _ (List.mem_of_getElem? (i := 6) rfl)) rfl (t := 0) rfl rfl dX13_readRoad_107 ?_
                        refine lv_imul hx hb dX13_readRoad_110 ?_
                        refine lv_iload_n hx hb dX13_readRoad_111 rfl (lv_at hl 3 rfl) ?_
                        refine lv_iadd hx hb dX13_readRoad_112 ?_
                        refine lv_iload hx hb dX13_readRoad_113 (lv_at hl 0 rfl) ?_
                        obtain ⟨hn80, h⟩ := chk_some h
                        refine r_iast hx hb hK hP hD hT hS kb78 hn80 dX13_readRoad_115 (fun H locs hP hD hT hS => ?_)
                        refine lv_iinc (v := y45_2 + 1) (lv' := [(2, .int (y45_2 + 1)), (4, .int z75.1), (0, .ref (ad y45_0)), (1, .int y45_1), (3, .int y45_3)]) hx hb dX13_readRoad_116 hl (k := 3) rfl rfl (by decide) rfl (fun ls hl => ?_)
                        refine lv_aload_n hx hb dX13_readRoad_119 rfl (lv_at hl 2 rfl) ?_
                        refine lv_bipush (v := 44) hx hb dX13_readRoad_120 rfl ?_
                        obtain ⟨z81, h81, h⟩ := ob_some h
                        refine k_z (va_runV (As := [.int 44]) (rest := []) ⟨hx, hb, hml, hown, hts⟩ (c_X13_eatsSign (l := l) (pI z75.2 b78 (ix ((6 * (gI z75.2 b79 1)) + y45_2)) z75.1) y45_0 44 ky45_0 h81) (cwV 1 hts gX13_readRoad_X13_eatsSign rfl rfl rfl hdV_X13_eatsSign ⟨Nat.le_of_ble_eq_true rfl, Nat.le_of_ble_eq_true rfl⟩) (pV (T := TX13) hP hK hD hT hG hS ky45_0 (by decide) rfl) rfl rfl hl.1 rfl (lv_room (Nat.le_of_ble_eq_true rfl)) dX13_readRoad_122 ⟨Nat.zero_le _, Nat.zero_le _⟩) hS (fun H locs hz81 hP hD hT hS => ?_)
                        refine lv_istore_n (lv' := [(3, .int z81.1), (2, .int (y45_2 + 1)), (4, .int z75.1), (0, .ref (ad y45_0)), (1, .int y45_1)]) hx hb dX13_readRoad_125 rfl hl (by decide) rfl (fun ls hl => ?_)
                        refine lv_goto (tgt := 57) hx hb dX13_readRoad_126 rfl ?_
                        exact ih45 z81.2 y45_0 y45_1 (y45_2 + 1) z81.1 ky45_0 _ _ h hP hD hT hS ls (lv_sub hl [3, 4, 1, 0] rfl)
                  · replace h := ite_t c76 h
                    exact r_vret hx hb hr hlocks hP hK hD hT hG hS (Option.some.inj h) dX13_readRoad_93
        exact L45 FU z6 a0 z5.1 0 1 k0 _ _ h hP hD hT hS ls (lv_sub hl [3, 2, 1, 0] rfl)
set_option maxHeartbeats 4000000 in
set_option maxRecDepth 100000 in
theorem c_X13_readStatue {l : Launch} {D : va_G} {ad : Nat → Nat} {cy : Nat → ClassId} {A : Nat → Prop} {g : CG} {q : SE} (M : MM) (a0 : Nat) (k0 : ok g a0 13 0) {Z : MM} (h : f_X13_readStatue M a0 = some Z) : Met l yX13_readStatue wsX13_readStatue ({ frames := 9, cells := 0, slots := 0, locals := 193 }) (va_Pc [.ref (ad a0)] (Wd D ad cy A g q M)) (va_Qv (fun u => u = Z) (Wd D ad cy A g q) A) 0 0 A := by
  refine Met.ofW (cc := cX13_readStatue) (maxL := 9) (ret := none) (by decide) rfl ?_
  intro p e s m args below meth c s₁ B hml hv
  obtain ⟨rfl, hP, hK, hD, hT, hG⟩ := hv
  have hx := B.exec
  have hb := B.bytes
  have hr := B.returns
  have hts := atoms_spec (ws := wsX13_readStatue) B.pre
  have hown : s.vm.findClass RX13 = some m.cls := findClass_of_methodNamed B.named
  have hlocks := B.notSynchronized
  have in12 : ∀ w ∈ u_ws RX12 TX12 48, w ∈ wsX13_readStatue := fun w h => List.mem_cons_of_mem _ (List.mem_append_right _ h)
  have in13 : ∀ w ∈ u_ws RX13 TX13 29, w ∈ wsX13_readStatue := fun w h => List.mem_cons_of_mem _ (List.mem_append_left _ (List.mem_append_right _ h))
  have hS : va_S A s.heap s.heap [] := va_S.rf
  have hl := lv_entry ([.ref (ad a0)]) (n := 9) (Nat.le_of_ble_eq_true rfl)
  rw [lg_entry_eq]
  generalize (lg_sl ([.ref (ad a0)]) ++ List.replicate (9 - (lg_sl ([.ref (ad a0)])).length) Slot.unset).toArray = ls at hl ⊢
  have hl : lv_has ls 9 [(0, .ref (ad a0))] := hl
  unfold f_X13_readStatue at h
  have J1 : ∀ (M1 : MM) (y1_0 : Nat) (y1_1 : Int32) (y1_2 : Int32) (y1_3 : Int32) (w1_0 : Int32) (ky1_0 : ok g y1_0 13 0) (H : Heap) (locs : List Loc), f_X13_readStatue_J143 M1 y1_0 y1_1 y1_2 y1_3 w1_0 = some Z → va_P D vwCl (wd ad cy g M1) H → va_D A (wd ad cy g M1) → WT g M1 → va_S A s.heap H locs → ∀ (ls : Array Slot), lv_has ls 9 [(0, .ref (ad y1_0)), (1, .int y1_1), (2, .int y1_2), (3, .int y1_3)] → W p l e ((headSpec wsX13_readStatue ({ frames := 9, cells := 0, slots := 0, locals := 193 })).room) s m (([.ref (ad a0)] : List Value).toArray) below meth c H locs 0 0 (MQ below (va_Qv (fun u => u = Z) (Wd D ad cy A g q) A) ([.ref (ad a0)]).toArray s 0 0 A) (F0 m 143 ls [.int w1_0]) := by
    intro M1 y1_0 y1_1 y1_2 y1_3 w1_0 ky1_0 H locs h hP hD hT hS ls hl
    unfold f_X13_readStatue_J143 at h
    have J2 : ∀ (M2 : MM) (y2_0 : Nat) (y2_1 : Int32) (y2_2 : Int32) (y2_3 : Int32) (y2_4 : Int32) (ky2_0 : ok g y2_0 13 0) (H : Heap) (locs : List Loc), f_X13_readStatue_J156 M2 y2_0 y2_1 y2_2 y2_3 y2_4 = some Z → va_P D vwCl (wd ad cy g M2) H → va_D A (wd ad cy g M2) → WT g M2 → va_S A s.heap H locs → ∀ (ls : Array Slot), lv_has ls 9 [(0, .ref (ad y2_0)), (1, .int y2_1), (2, .int y2_2), (3, .int y2_3), (4, .int y2_4)] → W p l e ((headSpec wsX13_readStatue ({ frames := 9, cells := 0, slots := 0, locals := 193 })).room) s m (([.ref (ad a0)] : List Value).toArray) below meth c H locs 0 0 (MQ below (va_Qv (fun u => u = Z) (Wd D ad cy A g q) A) ([.ref (ad a0)]).toArray s 0 0 A) (F0 m 156 ls []) := by
      intro M2 y2_0 y2_1 y2_2 y2_3 y2_4 ky2_0 H locs h hP hD hT hS ls hl
      unfold f_X13_readStatue_J156 at h
      have J3 : ∀ (M3 : MM) (y3_0 : Nat) (y3_1 : Int32) (y3_2 : Int32) (y3_3 : Int32) (y3_4 : Int32) (ky3_0 : ok g y3_0 13 0) (H : Heap) (locs : List Loc), f_X13_readStatue_J179 M3 y3_0 y3_1 y3_2 y3_3 y3_4 = some Z → va_P D vwCl (wd ad cy g M3) H → va_D A (wd ad cy g M3) → WT g M3 → va_S A s.heap H locs → ∀ (ls : Array Slot), lv_has ls 9 [(0, .ref (ad y3_0)), (1, .int y3_1), (2, .int y3_2), (3, .int y3_3), (4, .int y3_4)] → W p l e ((headSpec wsX13_readStatue ({ frames := 9, cells := 0, slots := 0, locals := 193 })).room) s m (([.ref (ad a0)] : List Value).toArray) below meth c H locs 0 0 (MQ below (va_Qv (fun u => u = Z) (Wd D ad cy A g q) A) ([.ref (ad a0)]).toArray s 0 0 A) (F0 m 179 ls []) := by
        intro M3 y3_0 y3_1 y3_2 y3_3 y3_4 ky3_0 H locs h hP hD hT hS ls hl
        unfold f_X13_readStatue_J179 at h
        have J4 : ∀ (M4 : MM) (y4_0 : Nat) (y4_1 : Int32) (y4_2 : Int32) (y4_3 : Int32) (y4_4 : Int32) (y4_5 : Int32) (y4_6 : Int32) (y4_7 : Int32) (ky4_0 : ok g y4_0 13 0) (H : Heap) (locs : List Loc), f_X13_readStatue_J309 M4 y4_0 y4_1 y4_2 y4_3 y4_4 y4_5 y4_6 y4_7 = some Z → va_P D vwCl (wd ad cy g M4) H → va_D A (wd ad cy g M4) → WT g M4 → va_S A s.heap H locs → ∀ (ls : Array Slot), lv_has ls 9 [(0, .ref (ad y4_0)), (1, .int y4_1), (2, .int y4_2), (3, .int y4_3), (4, .int y4_4), (5, .int y4_5), (6, .int y4_6), (7, .int y4_7)] → W p l e ((headSpec wsX13_readStatue ({ frames := 9, cells := 0, slots := 0, locals := 193 })).room) s m (([.ref (ad a0)] : List Value).toArray) below meth c H locs 0 0 (MQ below (va_Qv (fun u => u = Z) (Wd D ad cy A g q) A) ([.ref (ad a0)]).toArray s 0 0 A) (F0 m 309 ls []) := by
          intro M4 y4_0 y4_1 y4_2 y4_3 y4_4 y4_5 y4_6 y4_7 ky4_0 H locs h hP hD hT hS ls hl
          unfold f_X13_readStatue_J309 at h
          refine lv_aload_n hx hb dX13_readStatue_309 rfl (lv_at hl 0 rfl) ?_
          refine r_get (T := TX13) (v := .int (gI M4 y4_0 9)) hx hb hts in13 hown hK hP ky4_0 (by decide) rfl 9 (by decide) (hts (.fieldLink RX13 58 "StoneWalkModel" "sort" "I") (List.mem_of_getElem? (i := 2) (by decide +kernel))) rfl (t := 0) rfl rfl dX13_readStatue_310 ?_
          refine lv_iconst (v := 5) hx hb dX13_readStatue_313 rfl ?_
          refine lv_icmp_ne (tgt := 318) hx hb dX13_readStatue_314 rfl (fun c5 => ?_) (fun c5 => ?_)
          · replace h := ite_f c5 h
            refine lv_aload_n hx hb dX13_readStatue_318 rfl (lv_at hl 0 rfl) ?_
            rcases hN6 : gR M4 y4_0 4 with _ | b6
            · replace h := oc_n hN6 h
              refine r_get (T := TX13) (v := .null) hx hb hts in13 hown hK hP ky4_0 (by decide) rfl 4 (by decide) (hts (.fieldLink RX13 150 "StoneWalkModel" "read" "LStoneWalkModel$Island;") (List.mem_of_getElem? (i := 1) (by decide +kernel))) rfl (t := 2) rfl (by show va_rf _ = _; rw [hN6]; rfl) dX13_readStatue_319 ?_
              exact absurd h (by simp)
            · replace h := oc_s hN6 h
              have kb6 := hT.f ky4_0 (k := 4) (t := 12) (n := 0) rfl hN6
              refine r_get (T := TX13) (v := .ref (ad b6)) hx hb hts in13 hown hK hP ky4_0 (by decide) rfl 4 (by decide) (hts (.fieldLink RX13 150 "StoneWalkModel" "read" "LStoneWalkModel$Island;") (List.mem_of_getElem? (i := 1) (by decide +kernel))) rfl (t := 2) rfl (by show va_rf _ = _; rw [hN6]; rfl) dX13_readStatue_319 ?_
              refine r_getN (T := TX12) (v := .int (gI M4 b6 2)) hx hb hts in12 hown hK hP kb6 (by decide) rfl 2 (by decide) (hG.2.2.1 _ (List.mem_of_getElem? (i := 7) rfl)) rfl (t := 0) rfl rfl dX13_readStatue_322 ?_
              refine lv_istore (lv' := [(8, .int (gI M4 b6 2)), (0, .ref (ad y4_0)), (1, .int y4_1), (2, .int y4_2), (3, .int y4_3), (4, .int y4_4), (5, .int y4_5), (6, .int y4_6), (7, .int y4_7)]) hx hb dX13_readStatue_325 hl (by decide) rfl (fun ls hl => ?_)
              refine lv_aload_n hx hb dX13_readStatue_327 rfl (lv_at hl 1 rfl) ?_
              rcases hN7 : gR M4 y4_0 4 with _ | b7
              · replace h := oc_n hN7 h
                refine r_get (T := TX13) (v := .null) hx hb hts in13 hown hK hP ky4_0 (by decide) rfl 4 (by decide) (hts (.fieldLink RX13 150 "StoneWalkModel" "read" "LStoneWalkModel$Island;") (List.mem_of_getElem? (i := 1) (by decide +kernel))) rfl (t := 2) rfl (by show va_rf _ = _; rw [hN7]; rfl) dX13_readStatue_328 ?_
                exact absurd h (by simp)
              · replace h := oc_s hN7 h
                have kb7 := hT.f ky4_0 (k := 4) (t := 12) (n := 0) rfl hN7
                refine r_get (T := TX13) (v := .ref (ad b7)) hx hb hts in13 hown hK hP ky4_0 (by decide) rfl 4 (by decide) (hts (.fieldLink RX13 150 "StoneWalkModel" "read" "LStoneWalkModel$Island;") (List.mem_of_getElem? (i := 1) (by decide +kernel))) rfl (t := 2) rfl (by show va_rf _ = _; rw [hN7]; rfl) dX13_readStatue_328 ?_
                rcases hN8 : gR M4 b7 15 with _ | b8
                · exact absurd (oc_n hN8 h) (by simp)
                replace h := oc_s hN8 h
                have kb8 := hT.f kb7 (k := 15) (t := 15) (n := 10) rfl hN8
                refine r_getN (T := TX12) (v := .ref (ad b8)) hx hb hts in12 hown hK hP kb7 (by decide) rfl 15 (by decide) (hG.2.2.1 _ (List.mem_of_getElem? (i := 15) rfl)) rfl (t := 2) rfl (by show va_rf _ = _; rw [hN8]; rfl) dX13_readStatue_331 ?_
                refine lv_iload hx hb dX13_readStatue_334 (lv_at hl 0 rfl) ?_
                refine lv_iload_n hx hb dX13_readStatue_336 rfl (lv_at hl 2 rfl) ?_
                obtain ⟨hn9, h⟩ := chk_some h
                refine r_iast hx hb hK hP hD hT hS kb8 hn9 dX13_readStatue_337 (fun H locs hP hD hT hS => ?_)
                refine lv_aload_n hx hb dX13_readStatue_338 rfl (lv_at hl 1 rfl) ?_
                rcases hN10 : gR (pI M4 b8 (ix (gI M4 b6 2)) y4_1) y4_0 4 with _ | b10
                · replace h := oc_n hN10 h
                  refine r_get (T := TX13) (v := .null) hx hb hts in13 hown hK hP ky4_0 (by decide) rfl 4 (by decide) (hts (.fieldLink RX13 150 "StoneWalkModel" "read" "LStoneWalkModel$Island;") (List.mem_of_getElem? (i := 1) (by decide +kernel))) rfl (t := 2) rfl (by show va_rf _ = _; rw [hN10]; rfl) dX13_readStatue_339 ?_
                  exact absurd h (by simp)
                · replace h := oc_s hN10 h
                  have kb10 := hT.f ky4_0 (k := 4) (t := 12) (n := 0) rfl hN10
                  refine r_get (T := TX13) (v := .ref (ad b10)) hx hb hts in13 hown hK hP ky4_0 (by decide) rfl 4 (by decide) (hts (.fieldLink RX13 150 "StoneWalkModel" "read" "LStoneWalkModel$Island;") (List.mem_of_getElem? (i := 1) (by decide +kernel))) rfl (t := 2) rfl (by show va_rf _ = _; rw [hN10]; rfl) dX13_readStatue_339 ?_
                  rcases hN11 : gR (pI M4 b8 (ix (gI M4 b6 2)) y4_1) b10 16 with _ | b11
                  · exact absurd (oc_n hN11 h) (by simp)
                  replace h := oc_s hN11 h
                  have kb11 := hT.f kb10 (k := 16) (t := 15) (n := 10) rfl hN11
                  refine r_getN (T := TX12) (v := .ref (ad b11)) hx hb hts in12 hown hK hP kb10 (by decide) rfl 16 (by decide) (hG.2.2.1 _ (List.mem_of_getElem? (i := 16) rfl)) rfl (t := 2) rfl (by show va_rf _ = _; rw [hN11]; rfl) dX13_readStatue_342 ?_
                  refine lv_iload hx hb dX13_readStatue_345 (lv_at hl 0 rfl) ?_
                  refine lv_iload_n hx hb dX13_readStatue_347 rfl (lv_at hl 3 rfl) ?_
                  obtain ⟨hn12, h⟩ := chk_some h
                  refine r_iast hx hb hK hP hD hT hS kb11 hn12 dX13_readStatue_348 (fun H locs hP hD hT hS => ?_)
                  refine lv_aload_n hx hb dX13_readStatue_349 rfl (lv_at hl 1 rfl) ?_
                  rcases hN13 : gR (pI (pI M4 b8 (ix (gI M4 b6 2)) y4_1) b11 (ix (gI M4 b6 2)) y4_2) y4_0 4 with _ | b13
                  · replace h := oc_n hN13 h
                    refine r_get (T := TX13) (v := .null) hx hb hts in13 hown hK hP ky4_0 (by decide) rfl 4 (by decide) (hts (.fieldLink RX13 150 "StoneWalkModel" "read" "LStoneWalkModel$Island;") (List.mem_of_getElem? (i := 1) (by decide +kernel))) rfl (t := 2) rfl (by show va_rf _ = _; rw [hN13]; rfl) dX13_readStatue_350 ?_
                    exact absurd h (by simp)
                  · replace h := oc_s hN13 h
                    have kb13 := hT.f ky4_0 (k := 4) (t := 12) (n := 0) rfl hN13
                    refine r_get (T := TX13) (v := .ref (ad b13)) hx hb hts in13 hown hK hP ky4_0 (by decide) rfl 4 (by decide) (hts (.fieldLink RX13 150 "StoneWalkModel" "read" "LStoneWalkModel$Island;") (List.mem_of_getElem? (i := 1) (by decide +kernel))) rfl (t := 2) rfl (by show va_rf _ = _; rw [hN13]; rfl) dX13_readStatue_350 ?_
                    rcases hN14 : gR (pI (pI M4 b8 (ix (gI M4 b6 2)) y4_1) b11 (ix (gI M4 b6 2)) y4_2) b13 17 with _ | b14
                    · exact absurd (oc_n hN14 h) (by simp)
                    replace h := oc_s hN14 h
                    have kb14 := hT.f kb13 (k := 17) (t := 15) (n := 10) rfl hN14
                    refine r_getN (T := TX12) (v := .ref (ad b14)) hx hb hts in12 hown hK hP kb13 (by decide) rfl 17 (by decide) (hG.2.2.1 _ (List.mem_of_getElem? (i := 17) rfl)) rfl (t := 2) rfl (by show va_rf _ = _; rw [hN14]; rfl) dX13_readStatue_353 ?_
                    refine lv_iload hx hb dX13_readStatue_356 (lv_at hl 0 rfl) ?_
                    refine lv_iload_n hx hb dX13_readStatue_358 rfl (lv_at hl 4 rfl) ?_
                    obtain ⟨hn15, h⟩ := chk_some h
                    refine r_iast hx hb hK hP hD hT hS kb14 hn15 dX13_readStatue_359 (fun H locs hP hD hT hS => ?_)
                    refine lv_aload_n hx hb dX13_readStatue_360 rfl (lv_at hl 1 rfl) ?_
                    rcases hN16 : gR (pI (pI (pI M4 b8 (ix (gI M4 b6 2)) y4_1) b11 (ix (gI M4 b6 2)) y4_2) b14 (ix (gI M4 b6 2)) y4_3) y4_0 4 with _ | b16
                    · replace h := oc_n hN16 h
                      refine r_get (T := TX13) (v := .null) hx hb hts in13 hown hK hP ky4_0 (by decide) rfl 4 (by decide) (hts (.fieldLink RX13 150 "StoneWalkModel" "read" "LStoneWalkModel$Island;") (List.mem_of_getElem? (i := 1) (by decide +kernel))) rfl (t := 2) rfl (by show va_rf _ = _; rw [hN16]; rfl) dX13_readStatue_361 ?_
                      exact absurd h (by simp)
                    · replace h := oc_s hN16 h
                      have kb16 := hT.f ky4_0 (k := 4) (t := 12) (n := 0) rfl hN16
                      refine r_get (T := TX13) (v := .ref (ad b16)) hx hb hts in13 hown hK hP ky4_0 (by decide) rfl 4 (by decide) (hts (.fieldLink RX13 150 "StoneWalkModel" "read" "LStoneWalkModel$Island;") (List.mem_of_getElem? (i := 1) (by decide +kernel))) rfl (t := 2) rfl (by show va_rf _ = _; rw [hN16]; rfl) dX13_readStatue_361 ?_
                      rcases hN17 : gR (pI (pI (pI M4 b8 (ix (gI M4 b6 2)) y4_1) b11 (ix (gI M4 b6 2)) y4_2) b14 (ix (gI M4 b6 2)) y4_3) b16 18 with _ | b17
                      · exact absurd (oc_n hN17 h) (by simp)
                      replace h := oc_s hN17 h
                      have kb17 := hT.f kb16 (k := 18) (t := 15) (n := 10) rfl hN17
                      refine r_getN (T := TX12) (v := .ref (ad b17)) hx hb hts in12 hown hK hP kb16 (by decide) rfl 18 (by decide) (hG.2.2.1 _ (List.mem_of_getElem? (i := 18) rfl)) rfl (t := 2) rfl (by show va_rf _ = _; rw [hN17]; rfl) dX13_readStatue_364 ?_
                      refine lv_iload hx hb dX13_readStatue_367 (lv_at hl 0 rfl) ?_
                      refine lv_iload hx hb dX13_readStatue_369 (lv_at hl 5 rfl) ?_
                      obtain ⟨hn18, h⟩ := chk_some h
                      refine r_iast hx hb hK hP hD hT hS kb17 hn18 dX13_readStatue_371 (fun H locs hP hD hT hS => ?_)
                      refine lv_aload_n hx hb dX13_readStatue_372 rfl (lv_at hl 1 rfl) ?_
                      rcases hN19 : gR (pI (pI (pI (pI M4 b8 (ix (gI M4 b6 2)) y4_1) b11 (ix (gI M4 b6 2)) y4_2) b14 (ix (gI M4 b6 2)) y4_3) b17 (ix (gI M4 b6 2)) y4_4) y4_0 4 with _ | b19
                      · replace h := oc_n hN19 h
                        refine r_get (T := TX13) (v := .null) hx hb hts in13 hown hK hP ky4_0 (by decide) rfl 4 (by decide) (hts (.fieldLink RX13 150 "StoneWalkModel" "read" "LStoneWalkModel$Island;") (List.mem_of_getElem? (i := 1) (by decide +kernel))) rfl (t := 2) rfl (by show va_rf _ = _; rw [hN19]; rfl) dX13_readStatue_373 ?_
                        exact absurd h (by simp)
                      · replace h := oc_s hN19 h
                        have kb19 := hT.f ky4_0 (k := 4) (t := 12) (n := 0) rfl hN19
                        refine r_get (T := TX13) (v := .ref (ad b19)) hx hb hts in13 hown hK hP ky4_0 (by decide) rfl 4 (by decide) (hts (.fieldLink RX13 150 "StoneWalkModel" "read" "LStoneWalkModel$Island;") (List.mem_of_getElem? (i := 1) (by decide +kernel))) rfl (t := 2) rfl (by show va_rf _ = _; rw [hN19]; rfl) dX13_readStatue_373 ?_
                        rcases hN20 : gR (pI (pI (pI (pI M4 b8 (ix (gI M4 b6 2)) y4_1) b11 (ix (gI M4 b6 2)) y4_2) b14 (ix (gI M4 b6 2)) y4_3) b17 (ix (gI M4 b6 2)) y4_4) b19 19 with _ | b20
                        · exact absurd (oc_n hN20 h) (by simp)
                        replace h := oc_s hN20 h
                        have kb20 := hT.f kb19 (k := 19) (t := 15) (n := 10) rfl hN20
                        refine r_getN (T := TX12) (v := .ref (ad b20)) hx hb hts in12 hown hK hP kb19 (by decide) rfl 19 (by decide) (hG.2.2.1 _ (List.mem_of_getElem? (i := 19) rfl)) rfl (t := 2) rfl (by show va_rf _ = _; rw [hN20]; rfl) dX13_readStatue_376 ?_
                        refine lv_iload hx hb dX13_readStatue_379 (lv_at hl 0 rfl) ?_
                        refine lv_iload hx hb dX13_readStatue_381 (lv_at hl 6 rfl) ?_
                        obtain ⟨hn21, h⟩ := chk_some h
                        refine r_iast hx hb hK hP hD hT hS kb20 hn21 dX13_readStatue_383 (fun H locs hP hD hT hS => ?_)
                        refine lv_aload_n hx hb dX13_readStatue_384 rfl (lv_at hl 1 rfl) ?_
                        rcases hN22 : gR (pI (pI (pI (pI (pI M4 b8 (ix (gI M4 b6 2)) y4_1) b11 (ix (gI M4 b6 2)) y4_2) b14 (ix (gI M4 b6 2)) y4_3) b17 (ix (gI M4 b6 2)) y4_4) b20 (ix (gI M4 b6 2)) y4_5) y4_0 4 with _ | b22
                        · replace h := oc_n hN22 h
                          refine r_get (T := TX13) (v := .null) hx hb hts in13 hown hK hP ky4_0 (by decide) rfl 4 (by decide) (hts (.fieldLink RX13 150 "StoneWalkModel" "read" "LStoneWalkModel$Island;") (List.mem_of_getElem? (i := 1) (by decide +kernel))) rfl (t := 2) rfl (by show va_rf _ = _; rw [hN22]; rfl) dX13_readStatue_385 ?_
                          exact absurd h (by simp)
                        · replace h := oc_s hN22 h
                          have kb22 := hT.f ky4_0 (k := 4) (t := 12) (n := 0) rfl hN22
                          refine r_get (T := TX13) (v := .ref (ad b22)) hx hb hts in13 hown hK hP ky4_0 (by decide) rfl 4 (by decide) (hts (.fieldLink RX13 150 "StoneWalkModel" "read" "LStoneWalkModel$Island;") (List.mem_of_getElem? (i := 1) (by decide +kernel))) rfl (t := 2) rfl (by show va_rf _ = _; rw [hN22]; rfl) dX13_readStatue_385 ?_
                          rcases hN23 : gR (pI (pI (pI (pI (pI M4 b8 (ix (gI M4 b6 2)) y4_1) b11 (ix (gI M4 b6 2)) y4_2) b14 (ix (gI M4 b6 2)) y4_3) b17 (ix (gI M4 b6 2)) y4_4) b20 (ix (gI M4 b6 2)) y4_5) b22 20 with _ | b23
                          · exact absurd (oc_n hN23 h) (by simp)
                          replace h := oc_s hN23 h
                          have kb23 := hT.f kb22 (k := 20) (t := 15) (n := 10) rfl hN23
                          refine r_getN (T := TX12) (v := .ref (ad b23)) hx hb hts in12 hown hK hP kb22 (by decide) rfl 20 (by decide) (hG.2.2.1 _ (List.mem_of_getElem? (i := 20) rfl)) rfl (t := 2) rfl (by show va_rf _ = _; rw [hN23]; rfl) dX13_readStatue_388 ?_
                          refine lv_iload hx hb dX13_readStatue_391 (lv_at hl 0 rfl) ?_
                          refine lv_iload hx hb dX13_readStatue_393 (lv_at hl 7 rfl) ?_
                          obtain ⟨hn24, h⟩ := chk_some h
                          refine r_iast hx hb hK hP hD hT hS kb23 hn24 dX13_readStatue_395 (fun H locs hP hD hT hS => ?_)
                          refine lv_aload_n hx hb dX13_readStatue_396 rfl (lv_at hl 1 rfl) ?_
                          rcases hN25 : gR (pI (pI (pI (pI (pI (pI M4 b8 (ix (gI M4 b6 2)) y4_1) b11 (ix (gI M4 b6 2)) y4_2) b14 (ix (gI M4 b6 2)) y4_3) b17 (ix (gI M4 b6 2)) y4_4) b20 (ix (gI M4 b6 2)) y4_5) b23 (ix (gI M4 b6 2)) y4_6) y4_0 4 with _ | b25
                          · replace h := oc_n hN25 h
                            refine r_get (T := TX13) (v := .null) hx hb hts in13 hown hK hP ky4_0 (by decide) rfl 4 (by decide) (hts (.fieldLink RX13 150 "StoneWalkModel" "read" "LStoneWalkModel$Island;") (List.mem_of_getElem? (i := 1) (by decide +kernel))) rfl (t := 2) rfl (by show va_rf _ = _; rw [hN25]; rfl) dX13_readStatue_397 ?_
                            exact absurd h (by simp)
                          · replace h := oc_s hN25 h
                            have kb25 := hT.f ky4_0 (k := 4) (t := 12) (n := 0) rfl hN25
                            refine r_get (T := TX13) (v := .ref (ad b25)) hx hb hts in13 hown hK hP ky4_0 (by decide) rfl 4 (by decide) (hts (.fieldLink RX13 150 "StoneWalkModel" "read" "LStoneWalkModel$Island;") (List.mem_of_getElem? (i := 1) (by decide +kernel))) rfl (t := 2) rfl (by show va_rf _ = _; rw [hN25]; rfl) dX13_readStatue_397 ?_
                            rcases hN26 : gR (pI (pI (pI (pI (pI (pI M4 b8 (ix (gI M4 b6 2)) y4_1) b11 (ix (gI M4 b6 2)) y4_2) b14 (ix (gI M4 b6 2)) y4_3) b17 (ix (gI M4 b6 2)) y4_4) b20 (ix (gI M4 b6 2)) y4_5) b23 (ix (gI M4 b6 2)) y4_6) b25 21 with _ | b26
                            · exact absurd (oc_n hN26 h) (by simp)
                            replace h := oc_s hN26 h
                            have kb26 := hT.f kb25 (k := 21) (t := 15) (n := 10) rfl hN26
                            refine r_getN (T := TX12) (v := .ref (ad b26)) hx hb hts in12 hown hK hP kb25 (by decide) rfl 21 (by decide) (hG.2.2.1 _ (List.mem_of_getElem? (i := 21) rfl)) rfl (t := 2) rfl (by show va_rf _ = _; rw [hN26]; rfl) dX13_readStatue_400 ?_
                            refine lv_iload hx hb dX13_readStatue_403 (lv_at hl 0 rfl) ?_
                            refine lv_iload hx hb dX13_readStatue_405 (lv_at hl 8 rfl) ?_
                            obtain ⟨hn27, h⟩ := chk_some h
                            refine r_iast hx hb hK hP hD hT hS kb26 hn27 dX13_readStatue_407 (fun H locs hP hD hT hS => ?_)
                            refine lv_aload_n hx hb dX13_readStatue_408 rfl (lv_at hl 1 rfl) ?_
                            rcases hN28 : gR (pI (pI (pI (pI (pI (pI (pI M4 b8 (ix (gI M4 b6 2)) y4_1) b11 (ix (gI M4 b6 2)) y4_2) b14 (ix (gI M4 b6 2)) y4_3) b17 (ix (gI M4 b6 2)) y4_4) b20 (ix (gI M4 b6 2)) y4_5) b23 (ix (gI M4 b6 2)) y4_6) b26 (ix (gI M4 b6 2)) y4_7) y4_0 4 with _ | b28
                            · replace h := oc_n hN28 h
                              refine r_get (T := TX13) (v := .null) hx hb hts in13 hown hK hP ky4_0 (by decide) rfl 4 (by decide) (hts (.fieldLink RX13 150 "StoneWalkModel" "read" "LStoneWalkModel$Island;") (List.mem_of_getElem? (i := 1) (by decide +kernel))) rfl (t := 2) rfl (by show va_rf _ = _; rw [hN28]; rfl) dX13_readStatue_409 ?_
                              refine lv_dup hx hb dX13_readStatue_412 rfl ?_
                              exact absurd h (by simp)
                            · replace h := oc_s hN28 h
                              have kb28 := hT.f ky4_0 (k := 4) (t := 12) (n := 0) rfl hN28
                              refine r_get (T := TX13) (v := .ref (ad b28)) hx hb hts in13 hown hK hP ky4_0 (by decide) rfl 4 (by decide) (hts (.fieldLink RX13 150 "StoneWalkModel" "read" "LStoneWalkModel$Island;") (List.mem_of_getElem? (i := 1) (by decide +kernel))) rfl (t := 2) rfl (by show va_rf _ = _; rw [hN28]; rfl) dX13_readStatue_409 ?_
                              refine lv_dup hx hb dX13_readStatue_412 rfl ?_
                              refine r_getN (T := TX12) (v := .int (gI (pI (pI (pI (pI (pI (pI (pI M4 b8 (ix (gI M4 b6 2)) y4_1) b11 (ix (gI M4 b6 2)) y4_2) b14 (ix (gI M4 b6 2)) y4_3) b17 (ix (gI M4 b6 2)) y4_4) b20 (ix (gI M4 b6 2)) y4_5) b23 (ix (gI M4 b6 2)) y4_6) b26 (ix (gI M4 b6 2)) y4_7) b28 3)) hx hb hts in12 hown hK hP kb28 (by decide) rfl 3 (by decide) (hG.2.2.1 _ (List.mem_of_getElem? (i := 14) rfl)) rfl (t := 0) rfl rfl dX13_readStatue_413 ?_
                              refine lv_iload hx hb dX13_readStatue_416 (lv_at hl 5 rfl) ?_
                              refine lv_iconst (v := 5) hx hb dX13_readStatue_418 rfl ?_
                              refine lv_icmp_ne (tgt := 426) hx hb dX13_readStatue_419 rfl (fun c29 => ?_) (fun c29 => ?_)
                              · replace h := ite_f c29 h
                                refine lv_iconst (v := 0) hx hb dX13_readStatue_426 rfl ?_
                                refine lv_iadd hx hb dX13_readStatue_427 ?_
                                refine r_putIN (T := TX12) (ty := .int) (v := (gI (pI (pI (pI (pI (pI (pI (pI M4 b8 (ix (gI M4 b6 2)) y4_1) b11 (ix (gI M4 b6 2)) y4_2) b14 (ix (gI M4 b6 2)) y4_3) b17 (ix (gI M4 b6 2)) y4_4) b20 (ix (gI M4 b6 2)) y4_5) b23 (ix (gI M4 b6 2)) y4_6) b26 (ix (gI M4 b6 2)) y4_7) b28 3) + 0) hx hb hts in12 tyX12 tyX12_ok nmX12 hown hK hP hD hT hS kb28 (by decide) rfl 3 (by decide) (hG.2.2.1 _ (List.mem_of_getElem? (i := 14) rfl)) rfl rfl (tyX12_ok 3 (by decide)) rfl rfl rfl dX13_readStatue_428 (fun H locs hP hD hT hS => ?_)
                                refine lv_aload_n hx hb dX13_readStatue_431 rfl (lv_at hl 1 rfl) ?_
                                rcases hN30 : gR (pI (pI (pI (pI (pI (pI (pI (pI M4 b8 (ix (gI M4 b6 2)) y4_1) b11 (ix (gI M4 b6 2)) y4_2) b14 (ix (gI M4 b6 2)) y4_3) b17 (ix (gI M4 b6 2)) y4_4) b20 (ix (gI M4 b6 2)) y4_5) b23 (ix (gI M4 b6 2)) y4_6) b26 (ix (gI M4 b6 2)) y4_7) b28 3 ((gI (pI (pI (pI (pI (pI (pI (pI M4 b8 (ix (gI M4 b6 2)) y4_1) b11 (ix (gI M4 b6 2)) y4_2) b14 (ix (gI M4 b6 2)) y4_3) b17 (ix (gI M4 b6 2)) y4_4) b20 (ix (gI M4 b6 2)) y4_5) b23 (ix (gI M4 b6 2)) y4_6) b26 (ix (gI M4 b6 2)) y4_7) b28 3) + 0)) y4_0 4 with _ | b30
                                · replace h := oc_n hN30 h
                                  refine r_get (T := TX13) (v := .null) hx hb hts in13 hown hK hP ky4_0 (by decide) rfl 4 (by decide) (hts (.fieldLink RX13 150 "StoneWalkModel" "read" "LStoneWalkModel$Island;") (List.mem_of_getElem? (i := 1) (by decide +kernel))) rfl (t := 2) rfl (by show va_rf _ = _; rw [hN30]; rfl) dX13_readStatue_432 ?_
                                  refine lv_dup hx hb dX13_readStatue_435 rfl ?_
                                  exact absurd h (by simp)
                                · replace h := oc_s hN30 h
                                  have kb30 := hT.f ky4_0 (k := 4) (t := 12) (n := 0) rfl hN30
                                  refine r_get (T := TX13) (v := .ref (ad b30)) hx hb hts in13 hown hK hP ky4_0 (by decide) rfl 4 (by decide) (hts (.fieldLink RX13 150 "StoneWalkModel" "read" "LStoneWalkModel$Island;") (List.mem_of_getElem? (i := 1) (by decide +kernel))) rfl (t := 2) rfl (by show va_rf _ = _; rw [hN30]; rfl) dX13_readStatue_432 ?_
                                  refine lv_dup hx hb dX13_readStatue_435 rfl ?_
                                  refine r_getN (T := TX12) (v := .int (gI (pI (pI (pI (pI (pI (pI (pI (pI M4 b8 (ix (gI M4 b6 2)) y4_1) b11 (ix (gI M4 b6 2)) y4_2) b14 (ix (gI M4 b6 2)) y4_3) b17 (ix (gI M4 b6 2)) y4_4) b20 (ix (gI M4 b6 2)) y4_5) b23 (ix (gI M4 b6 2)) y4_6) b26 (ix (gI M4 b6 2)) y4_7) b28 3 ((gI (pI (pI (pI (pI (pI (pI (pI M4 b8 (ix (gI M4 b6 2)) y4_1) b11 (ix (gI M4 b6 2)) y4_2) b14 (ix (gI M4 b6 2)) y4_3) b17 (ix (gI M4 b6 2)) y4_4) b20 (ix (gI M4 b6 2)) y4_5) b23 (ix (gI M4 b6 2)) y4_6) b26 (ix (gI M4 b6 2)) y4_7) b28 3) + 0)) b30 2)) hx hb hts in12 hown hK hP kb30 (by decide) rfl 2 (by decide) (hG.2.2.1 _ (List.mem_of_getElem? (i := 7) rfl)) rfl (t := 0) rfl rfl dX13_readStatue_436 ?_
                                  refine lv_iconst (v := 1) hx hb dX13_readStatue_439 rfl ?_
                                  refine lv_iadd hx hb dX13_readStatue_440 ?_
                                  refine r_putIN (T := TX12) (ty := .int) (v := (gI (pI (pI (pI (pI (pI (pI (pI (pI M4 b8 (ix (gI M4 b6 2)) y4_1) b11 (ix (gI M4 b6 2)) y4_2) b14 (ix (gI M4 b6 2)) y4_3) b17 (ix (gI M4 b6 2)) y4_4) b20 (ix (gI M4 b6 2)) y4_5) b23 (ix (gI M4 b6 2)) y4_6) b26 (ix (gI M4 b6 2)) y4_7) b28 3 ((gI (pI (pI (pI (pI (pI (pI (pI M4 b8 (ix (gI M4 b6 2)) y4_1) b11 (ix (gI M4 b6 2)) y4_2) b14 (ix (gI M4 b6 2)) y4_3) b17 (ix (gI M4 b6 2)) y4_4) b20 (ix (gI M4 b6 2)) y4_5) b23 (ix (gI M4 b6 2)) y4_6) b26 (ix (gI M4 b6 2)) y4_7) b28 3) + 0)) b30 2) + 1) hx hb hts in12 tyX12 tyX12_ok nmX12 hown hK hP hD hT hS kb30 (by decide) rfl 2 (by decide) (hG.2.2.1 _ (List.mem_of_getElem? (i := 7) rfl)) rfl rfl (tyX12_ok 2 (by decide)) rfl rfl rfl dX13_readStatue_441 (fun H locs hP hD hT hS => ?_)
                                  exact r_vret hx hb hr hlocks hP hK hD hT hG hS (Option.some.inj h) dX13_readStatue_444
                              · replace h := ite_t c29 h
                                refine lv_iconst (v := 1) hx hb dX13_readStatue_422 rfl ?_
                                refine lv_goto (tgt := 427) hx hb dX13_readStatue_423 rfl ?_
                                refine lv_iadd hx hb dX13_readStatue_427 ?_
                                refine r_putIN (T := TX12) (ty := .int) (v := (gI (pI (pI (pI (pI (pI (pI (pI M4 b8 (ix (gI M4 b6 2)) y4_1) b11 (ix (gI M4 b6 2)) y4_2) b14 (ix (gI M4 b6 2)) y4_3) b17 (ix (gI M4 b6 2)) y4_4) b20 (ix (gI M4 b6 2)) y4_5) b23 (ix (gI M4 b6 2)) y4_6) b26 (ix (gI M4 b6 2)) y4_7) b28 3) + 1) hx hb hts in12 tyX12 tyX12_ok nmX12 hown hK hP hD hT hS kb28 (by decide) rfl 3 (by decide) (hG.2.2.1 _ (List.mem_of_getElem? (i := 14) rfl)) rfl rfl (tyX12_ok 3 (by decide)) rfl rfl rfl dX13_readStatue_428 (fun H locs hP hD hT hS => ?_)
                                refine lv_aload_n hx hb dX13_readStatue_431 rfl (lv_at hl 1 rfl) ?_
                                rcases hN31 : gR (pI (pI (pI (pI (pI (pI (pI (pI M4 b8 (ix (gI M4 b6 2)) y4_1) b11 (ix (gI M4 b6 2)) y4_2) b14 (ix (gI M4 b6 2)) y4_3) b17 (ix (gI M4 b6 2)) y4_4) b20 (ix (gI M4 b6 2)) y4_5) b23 (ix (gI M4 b6 2)) y4_6) b26 (ix (gI M4 b6 2)) y4_7) b28 3 ((gI (pI (pI (pI (pI (pI (pI (pI M4 b8 (ix (gI M4 b6 2)) y4_1) b11 (ix (gI M4 b6 2)) y4_2) b14 (ix (gI M4 b6 2)) y4_3) b17 (ix (gI M4 b6 2)) y4_4) b20 (ix (gI M4 b6 2)) y4_5) b23 (ix (gI M4 b6 2)) y4_6) b26 (ix (gI M4 b6 2)) y4_7) b28 3) + 1)) y4_0 4 with _ | b31
                                · replace h := oc_n hN31 h
                                  refine r_get (T := TX13) (v := .null) hx hb hts in13 hown hK hP ky4_0 (by decide) rfl 4 (by decide) (hts (.fieldLink RX13 150 "StoneWalkModel" "read" "LStoneWalkModel$Island;") (List.mem_of_getElem? (i := 1) (by decide +kernel))) rfl (t := 2) rfl (by show va_rf _ = _; rw [hN31]; rfl) dX13_readStatue_432 ?_
                                  refine lv_dup hx hb dX13_readStatue_435 rfl ?_
                                  exact absurd h (by simp)
                                · replace h := oc_s hN31 h
                                  have kb31 := hT.f ky4_0 (k := 4) (t := 12) (n := 0) rfl hN31
                                  refine r_get (T := TX13) (v := .ref (ad b31)) hx hb hts in13 hown hK hP ky4_0 (by decide) rfl 4 (by decide) (hts (.fieldLink RX13 150 "StoneWalkModel" "read" "LStoneWalkModel$Island;") (List.mem_of_getElem? (i := 1) (by decide +kernel))) rfl (t := 2) rfl (by show va_rf _ = _; rw [hN31]; rfl) dX13_readStatue_432 ?_
                                  refine lv_dup hx hb dX13_readStatue_435 rfl ?_
                                  refine r_getN (T := TX12) (v := .int (gI (pI (pI (pI (pI (pI (pI (pI (pI M4 b8 (ix (gI M4 b6 2)) y4_1) b11 (ix (gI M4 b6 2)) y4_2) b14 (ix (gI M4 b6 2)) y4_3) b17 (ix (gI M4 b6 2)) y4_4) b20 (ix (gI M4 b6 2)) y4_5) b23 (ix (gI M4 b6 2)) y4_6) b26 (ix (gI M4 b6 2)) y4_7) b28 3 ((gI (pI (pI (pI (pI (pI (pI (pI M4 b8 (ix (gI M4 b6 2)) y4_1) b11 (ix (gI M4 b6 2)) y4_2) b14 (ix (gI M4 b6 2)) y4_3) b17 (ix (gI M4 b6 2)) y4_4) b20 (ix (gI M4 b6 2)) y4_5) b23 (ix (gI M4 b6 2)) y4_6) b26 (ix (gI M4 b6 2)) y4_7) b28 3) + 1)) b31 2)) hx hb hts in12 hown hK hP kb31 (by decide) rfl 2 (by decide) (hG.2.2.1 _ (List.mem_of_getElem? (i := 7) rfl)) rfl (t := 0) rfl rfl dX13_readStatue_436 ?_
                                  refine lv_iconst (v := 1) hx hb dX13_readStatue_439 rfl ?_
                                  refine lv_iadd hx hb dX13_readStatue_440 ?_
                                  refine r_putIN (T := TX12) (ty := .int) (v := (gI (pI (pI (pI (pI (pI (pI (pI (pI M4 b8 (ix (gI M4 b6 2)) y4_1) b11 (ix (gI M4 b6 2)) y4_2) b14 (ix (gI M4 b6 2)) y4_3) b17 (ix (gI M4 b6 2)) y4_4) b20 (ix (gI M4 b6 2)) y4_5) b23 (ix (gI M4 b6 2)) y4_6) b26 (ix (gI M4 b6 2)) y4_7) b28 3 ((gI (pI (pI (pI (pI (pI (pI (pI M4 b8 (ix (gI M4 b6 2)) y4_1) b11 (ix (gI M4 b6 2)) y4_2) b14 (ix (gI M4 b6 2)) y4_3) b17 (ix (gI M4 b6 2)) y4_4) b20 (ix (gI M4 b6 2)) y4_5) b23 (ix (gI M4 b6 2)) y4_6) b26 (ix (gI M4 b6 2)) y4_7) b28 3) + 1)) b31 2) + 1) hx hb hts in12 tyX12 tyX12_ok nmX12 hown hK hP hD hT hS kb31 (by decide) rfl 2 (by decide) (hG.2.2.1 _ (List.mem_of_getElem? (i := 7) rfl)) rfl rfl (tyX12_ok 2 (by decide)) rfl rfl rfl dX13_readStatue_441 (fun H locs hP hD hT hS => ?_)
                                  exact r_vret hx hb hr hlocks hP hK hD hT hG hS (Option.some.inj h) dX13_readStatue_444
          · replace h := ite_t c5 h
            exact r_vret hx hb hr hlocks hP hK hD hT hG hS (Option.some.inj h) dX13_readStatue_317
        have J32 : ∀ (M32 : MM) (y32_0 : Nat) (y32_1 : Int32) (y32_2 : Int32) (y32_3 : Int32) (y32_4 : Int32) (w32_0 : Int32) (ky32_0 : ok g y32_0 13 0) (H : Heap) (locs : List Loc), f_X13_readStatue_J244 M32 y32_0 y32_1 y32_2 y32_3 y32_4 w32_0 = some Z → va_P D vwCl (wd ad cy g M32) H → va_D A (wd ad cy g M32) → WT g M32 → va_S A s.heap H locs → ∀ (ls : Array Slot), lv_has ls 9 [(0, .ref (ad y32_0)), (1, .int y32_1), (2, .int y32_2), (3, .int y32_3), (4, .int y32_4)] → W p l e ((headSpec wsX13_readStatue ({ frames := 9, cells := 0, slots := 0, locals := 193 })).room) s m (([.ref (ad a0)] : List Value).toArray) below meth c H locs 0 0 (MQ below (va_Qv (fun u => u = Z) (Wd D ad cy A g q) A) ([.ref (ad a0)]).toArray s 0 0 A) (F0 m 244 ls [.int w32_0]) := by
          intro M32 y32_0 y32_1 y32_2 y32_3 y32_4 w32_0 ky32_0 H locs h hP hD hT hS ls hl
          unfold f_X13_readStatue_J244 at h
          have J33 : ∀ (M33 : MM) (y33_0 : Nat) (y33_1 : Int32) (y33_2 : Int32) (y33_3 : Int32) (y33_4 : Int32) (y33_5 : Int32) (ky33_0 : ok g y33_0 13 0) (H : Heap) (locs : List Loc), f_X13_readStatue_J257 M33 y33_0 y33_1 y33_2 y33_3 y33_4 y33_5 = some Z → va_P D vwCl (wd ad cy g M33) H → va_D A (wd ad cy g M33) → WT g M33 → va_S A s.heap H locs → ∀ (ls : Array Slot), lv_has ls 9 [(0, .ref (ad y33_0)), (1, .int y33_1), (2, .int y33_2), (3, .int y33_3), (4, .int y33_4), (5, .int y33_5)] → W p l e ((headSpec wsX13_readStatue ({ frames := 9, cells := 0, slots := 0, locals := 193 })).room) s m (([.ref (ad a0)] : List Value).toArray) below meth c H locs 0 0 (MQ below (va_Qv (fun u => u = Z) (Wd D ad cy A g q) A) ([.ref (ad a0)]).toArray s 0 0 A) (F0 m 257 ls []) := by
            intro M33 y33_0 y33_1 y33_2 y33_3 y33_4 y33_5 ky33_0 H locs h hP hD hT hS ls hl
            unfold f_X13_readStatue_J257 at h
            have J34 : ∀ (M34 : MM) (y34_0 : Nat) (y34_1 : Int32) (y34_2 : Int32) (y34_3 : Int32) (y34_4 : Int32) (y34_5 : Int32) (y34_6 : Int32) (w34_0 : Int32) (w34_1 : Int32) (w34_2 : Nat) (w34_3 : Nat) (ky34_0 : ok g y34_0 13 0) (kw34_2 : w34_2 < nS) (kw34_3 : ok g w34_3 13 0) (H : Heap) (locs : List Loc), f_X13_readStatue_J304 M34 y34_0 y34_1 y34_2 y34_3 y34_4 y34_5 y34_6 w34_0 w34_1 w34_2 w34_3 = some Z → va_P D vwCl (wd ad cy g M34) H → va_D A (wd ad cy g M34) → WT g M34 → va_S A s.heap H locs → ∀ (ls : Array Slot), lv_has ls 9 [(0, .ref (ad y34_0)), (1, .int y34_1), (2, .int y34_2), (3, .int y34_3), (4, .int y34_4), (5, .int y34_5), (6, .int y34_6)] → W p l e ((headSpec wsX13_readStatue ({ frames := 9, cells := 0, slots := 0, locals := 193 })).room) s m (([.ref (ad a0)] : List Value).toArray) below meth c H locs 0 0 (MQ below (va_Qv (fun u => u = Z) (Wd D ad cy A g q) A) ([.ref (ad a0)]).toArray s 0 0 A) (F0 m 304 ls [.int w34_0, .int w34_1, .ref (q.2.1 w34_2), .ref (ad w34_3)]) := by
              intro M34 y34_0 y34_1 y34_2 y34_3 y34_4 y34_5 y34_6 w34_0 w34_1 w34_2 w34_3 ky34_0 kw34_2 kw34_3 H locs h hP hD hT hS ls hl
              unfold f_X13_readStatue_J304 at h
              obtain ⟨z35, h35, h⟩ := ob_some h
              refine k_i (va_runV (As := [.ref (q.2.1 w34_2), .int w34_1, .int w34_0]) (rest := []) ⟨hx, hb, hml, hown, hts⟩ (c_X13_readPart (l := l) M34 w34_3 w34_2 w34_1 w34_0 kw34_3 kw34_2 h35) (cwV 3 hts gX13_readStatue_X13_readPart rfl rfl rfl hdV_X13_readPart ⟨Nat.le_of_ble_eq_true rfl, Nat.le_of_ble_eq_true rfl⟩) (pV (T := TX13) hP hK hD hT hG hS kw34_3 (by decide) rfl) rfl rfl hl.1 rfl (lv_room (Nat.le_of_ble_eq_true rfl)) dX13_readStatue_304 ⟨Nat.zero_le _, Nat.zero_le _⟩) hS (fun H locs hP hD hT hS => ?_)
              refine lv_istore (lv' := [(7, .int z35.1), (0, .ref (ad y34_0)), (1, .int y34_1), (2, .int y34_2), (3, .int y34_3), (4, .int y34_4), (5, .int y34_5), (6, .int y34_6)]) hx hb dX13_readStatue_307 hl (by decide) rfl (fun ls hl => ?_)
              exact J4 z35.2 y34_0 y34_1 y34_2 y34_3 y34_4 y34_5 y34_6 z35.1 ky34_0 _ _ h hP hD hT hS ls (lv_sub hl [1, 2, 3, 4, 5, 6, 7, 0] rfl)
            refine lv_aload_n hx hb dX13_readStatue_257 rfl (lv_at hl 0 rfl) ?_
            obtain ⟨z36, h36, h⟩ := ob_some h
            refine k_v (va_runV (As := []) (rest := []) ⟨hx, hb, hml, hown, hts⟩ (c_X13_goesOn (l := l) M33 y33_0 ky33_0 h36) (cwV 0 hts gX13_readStatue_X13_goesOn rfl rfl rfl hdV_X13_goesOn ⟨Nat.le_of_ble_eq_true rfl, Nat.le_of_ble_eq_true rfl⟩) (pV (T := TX13) hP hK hD hT hG hS ky33_0 (by decide) rfl) rfl rfl hl.1 rfl (lv_room (Nat.le_of_ble_eq_true rfl)) dX13_readStatue_258 ⟨Nat.zero_le _, Nat.zero_le _⟩) hS (fun H locs hP hD hT hS => ?_)
            refine lv_aload_n hx hb dX13_readStatue_261 rfl (lv_at hl 0 rfl) ?_
            refine r_ldcSw (tx := "on") (i := 13) hx hb hG hown (by decide +kernel) dX13_readStatue_262 ?_
            obtain ⟨z37, h37, h⟩ := ob_some h
            refine k_v (va_runV (As := [.ref (q.2.1 13)]) (rest := []) ⟨hx, hb, hml, hown, hts⟩ (c_X13_needs (l := l) z36 y33_0 13 ky33_0 (by decide) h37) (cwV 1 hts gX13_readStatue_X13_needs rfl rfl rfl hdV_X13_needs ⟨Nat.le_of_ble_eq_true rfl, Nat.le_of_ble_eq_true rfl⟩) (pV (T := TX13) hP hK hD hT hG hS ky33_0 (by decide) rfl) rfl rfl hl.1 rfl (lv_room (Nat.le_of_ble_eq_true rfl)) dX13_readStatue_265 ⟨Nat.zero_le _, Nat.zero_le _⟩) hS (fun H locs hP hD hT hS => ?_)
            refine lv_aload_n hx hb dX13_readStatue_268 rfl (lv_at hl 0 rfl) ?_
            refine lv_iconst (v := 1) hx hb dX13_readStatue_269 rfl ?_
            obtain ⟨z38, h38, h⟩ := ob_some h
            refine k_i (va_runV (As := [.int 1]) (rest := []) ⟨hx, hb, hml, hown, hts⟩ (c_X13_readKnown (l := l) z37 y33_0 1 ky33_0 h38) (cwV 1 hts gX13_readStatue_X13_readKnown rfl rfl rfl hdV_X13_readKnown ⟨Nat.le_of_ble_eq_true rfl, Nat.le_of_ble_eq_true rfl⟩) (pV (T := TX13) hP hK hD hT hG hS ky33_0 (by decide) rfl) rfl rfl hl.1 rfl (lv_room (Nat.le_of_ble_eq_true rfl)) dX13_readStatue_270 ⟨Nat.zero_le _, Nat.zero_le _⟩) hS (fun H locs hP hD hT hS => ?_)
            refine lv_istore (lv' := [(6, .int z38.1), (0, .ref (ad y33_0)), (1, .int y33_1), (2, .int y33_2), (3, .int y33_3), (4, .int y33_4), (5, .int y33_5)]) hx hb dX13_readStatue_273 hl (by decide) rfl (fun ls hl => ?_)
            refine lv_aload_n hx hb dX13_readStatue_275 rfl (lv_at hl 1 rfl) ?_
            refine r_ldcSw (tx := "at") (i := 14) hx hb hG hown (by decide +kernel) dX13_readStatue_276 ?_
            refine lv_iconst (v := 0) hx hb dX13_readStatue_279 rfl ?_
            refine lv_aload_n hx hb dX13_readStatue_280 rfl (lv_at hl 1 rfl) ?_
            refine r_get (T := TX13) (v := .int (gI z38.2 y33_0 9)) hx hb hts in13 hown hK hP ky33_0 (by decide) rfl 9 (by decide) (hts (.fieldLink RX13 58 "StoneWalkModel" "sort" "I") (List.mem_of_getElem? (i := 2) (by decide +kernel))) rfl (t := 0) rfl rfl dX13_readStatue_281 ?_
            refine lv_iconst (v := 5) hx hb dX13_readStatue_284 rfl ?_
            refine lv_icmp_ne (tgt := 292) hx hb dX13_readStatue_285 rfl (fun c39 => ?_) (fun c39 => ?_)
            · replace h := ite_f c39 h
              refine lv_aload_n hx hb dX13_readStatue_292 rfl (lv_at hl 1 rfl) ?_
              rcases hN40 : gR z38.2 y33_0 4 with _ | b40
              · replace h := oc_n hN40 h
                refine r_get (T := TX13) (v := .null) hx hb hts in13 hown hK hP ky33_0 (by decide) rfl 4 (by decide) (hts (.fieldLink RX13 150 "StoneWalkModel" "read" "LStoneWalkModel$Island;") (List.mem_of_getElem? (i := 1) (by decide +kernel))) rfl (t := 2) rfl (by show va_rf _ = _; rw [hN40]; rfl) dX13_readStatue_293 ?_
                exact absurd h (by simp)
              · replace h := oc_s hN40 h
                have kb40 := hT.f ky33_0 (k := 4) (t := 12) (n := 0) rfl hN40
                refine r_get (T := TX13) (v := .ref (ad b40)) hx hb hts in13 hown hK hP ky33_0 (by decide) rfl 4 (by decide) (hts (.fieldLink RX13 150 "StoneWalkModel" "read" "LStoneWalkModel$Island;") (List.mem_of_getElem? (i := 1) (by decide +kernel))) rfl (t := 2) rfl (by show va_rf _ = _; rw [hN40]; rfl) dX13_readStatue_293 ?_
                rcases hN41 : gR z38.2 b40 13 with _ | b41
                · exact absurd (oc_n hN41 h) (by simp)
                replace h := oc_s hN41 h
                have kb41 := hT.f kb40 (k := 13) (t := 15) (n := 3) rfl hN41
                refine r_getN (T := TX12) (v := .ref (ad b41)) hx hb hts in12 hown hK hP kb40 (by decide) rfl 13 (by decide) (hG.2.2.1 _ (List.mem_of_getElem? (i := 13) rfl)) rfl (t := 2) rfl (by show va_rf _ = _; rw [hN41]; rfl) dX13_readStatue_296 ?_
                refine lv_iload hx hb dX13_readStatue_299 (lv_at hl 0 rfl) ?_
                obtain ⟨hn42, h⟩ := chk_some h
                refine r_iald hx hb hK hP kb41 hn42 dX13_readStatue_301 ?_
                refine lv_iconst (v := 1) hx hb dX13_readStatue_302 rfl ?_
                refine lv_isub hx hb dX13_readStatue_303 ?_
                exact J34 z38.2 y33_0 y33_1 y33_2 y33_3 y33_4 y33_5 z38.1 ((gI z38.2 b41 (ix z38.1)) - 1) 0 14 y33_0 ky33_0 (by decide) ky33_0 _ _ h hP hD hT hS ls (lv_sub hl [1, 2, 3, 4, 5, 6, 0] rfl)
            · replace h := ite_t c39 h
              refine lv_iconst (v := 0) hx hb dX13_readStatue_288 rfl ?_
              refine lv_goto (tgt := 304) hx hb dX13_readStatue_289 rfl ?_
              exact J34 z38.2 y33_0 y33_1 y33_2 y33_3 y33_4 y33_5 z38.1 0 0 14 y33_0 ky33_0 (by decide) ky33_0 _ _ h hP hD hT hS ls (lv_sub hl [1, 2, 3, 4, 5, 6, 0] rfl)
          refine lv_istore (lv' := [(5, .int w32_0), (0, .ref (ad y32_0)), (1, .int y32_1), (2, .int y32_2), (3, .int y32_3), (4, .int y32_4)]) hx hb dX13_readStatue_244 hl (by decide) rfl (fun ls hl => ?_)
          refine lv_iload hx hb dX13_readStatue_246 (lv_at hl 0 rfl) ?_
          refine lv_iconst (v := (-1)) hx hb dX13_readStatue_248 rfl ?_
          refine lv_icmp_ne (tgt := 257) hx hb dX13_readStatue_249 rfl (fun c43 => ?_) (fun c43 => ?_)
          · replace h := ite_f c43 h
            exact J33 M32 y32_0 y32_1 y32_2 y32_3 y32_4 w32_0 ky32_0 _ _ h hP hD hT hS ls (lv_sub hl [1, 2, 3, 4, 5, 0] rfl)
          · replace h := ite_t c43 h
            refine lv_aload_n hx hb dX13_readStatue_252 rfl (lv_at hl 1 rfl) ?_
            refine lv_iconst (v := 1) hx hb dX13_readStatue_253 rfl ?_
            obtain ⟨z44, h44, h⟩ := ob_some h
            refine k_v (va_runV (As := [.int 1]) (rest := []) ⟨hx, hb, hml, hown, hts⟩ (c_X13_wrong (l := l) M32 y32_0 1 ky32_0 h44) (cwV 1 hts gX13_readStatue_X13_wrong rfl rfl rfl hdV_X13_wrong ⟨Nat.le_of_ble_eq_true rfl, Nat.le_of_ble_eq_true rfl⟩) (pV (T := TX13) hP hK hD hT hG hS ky32_0 (by decide) rfl) rfl rfl hl.1 rfl (lv_room (Nat.le_of_ble_eq_true rfl)) dX13_readStatue_254 ⟨Nat.zero_le _, Nat.zero_le _⟩) hS (fun H locs hP hD hT hS => ?_)
            exact J33 z44 y32_0 y32_1 y32_2 y32_3 y32_4 w32_0 ky32_0 _ _ h hP hD hT hS ls (lv_sub hl [1, 2, 3, 4, 5, 0] rfl)
        refine lv_aload_n hx hb dX13_readStatue_179 rfl (lv_at hl 0 rfl) ?_
        obtain ⟨z45, h45, h⟩ := ob_some h
        refine k_v (va_runV (As := []) (rest := []) ⟨hx, hb, hml, hown, hts⟩ (c_X13_goesOn (l := l) M3 y3_0 ky3_0 h45) (cwV 0 hts gX13_readStatue_X13_goesOn rfl rfl rfl hdV_X13_goesOn ⟨Nat.le_of_ble_eq_true rfl, Nat.le_of_ble_eq_true rfl⟩) (pV (T := TX13) hP hK hD hT hG hS ky3_0 (by decide) rfl) rfl rfl hl.1 rfl (lv_room (Nat.le_of_ble_eq_true rfl)) dX13_readStatue_180 ⟨Nat.zero_le _, Nat.zero_le _⟩) hS (fun H locs hP hD hT hS => ?_)
        refine lv_bipush (v := (-2)) hx hb dX13_readStatue_183 rfl ?_
        refine lv_istore (lv' := [(5, .int (-2)), (0, .ref (ad y3_0)), (1, .int y3_1), (2, .int y3_2), (3, .int y3_3), (4, .int y3_4)]) hx hb dX13_readStatue_185 hl (by decide) rfl (fun ls hl => ?_)
        refine lv_bipush (v := (-2)) hx hb dX13_readStatue_187 rfl ?_
        refine lv_istore (lv' := [(6, .int (-2)), (5, .int (-2)), (0, .ref (ad y3_0)), (1, .int y3_1), (2, .int y3_2), (3, .int y3_3), (4, .int y3_4)]) hx hb dX13_readStatue_189 hl (by decide) rfl (fun ls hl => ?_)
        refine lv_bipush (v := (-2)) hx hb dX13_readStatue_191 rfl ?_
        refine lv_istore (lv' := [(7, .int (-2)), (6, .int (-2)), (5, .int (-2)), (0, .ref (ad y3_0)), (1, .int y3_1), (2, .int y3_2), (3, .int y3_3), (4, .int y3_4)]) hx hb dX13_readStatue_193 hl (by decide) rfl (fun ls hl => ?_)
        refine lv_iload hx hb dX13_readStatue_195 (lv_at hl 7 rfl) ?_
        refine lv_iconst (v := 5) hx hb dX13_readStatue_197 rfl ?_
        refine lv_icmp_ne (tgt := 309) hx hb dX13_readStatue_198 rfl (fun c46 => ?_) (fun c46 => ?_)
        · replace h := ite_f c46 h
          exact J4 z45 y3_0 y3_1 y3_2 y3_3 y3_4 (-2) (-2) (-2) ky3_0 _ _ h hP hD hT hS ls (lv_sub hl [3, 4, 5, 6, 7, 2, 1, 0] rfl)
        · replace h := ite_t c46 h
          refine lv_aload_n hx hb dX13_readStatue_201 rfl (lv_at hl 3 rfl) ?_
          refine r_ldcSw (tx := "face") (i := 51) hx hb hG hown (by decide +kernel) dX13_readStatue_202 ?_
          obtain ⟨z47, h47, h⟩ := ob_some h
          refine k_z (va_runV (As := [.ref (q.2.1 51)]) (rest := []) ⟨hx, hb, hml, hown, hts⟩ (c_X13_isWord (l := l) z45 y3_0 51 ky3_0 (by decide) h47) (cwV 1 hts gX13_readStatue_X13_isWord rfl rfl rfl hdV_X13_isWord ⟨Nat.le_of_ble_eq_true rfl, Nat.le_of_ble_eq_true rfl⟩) (pV (T := TX13) hP hK hD hT hG hS ky3_0 (by decide) rfl) rfl rfl hl.1 rfl (lv_room (Nat.le_of_ble_eq_true rfl)) dX13_readStatue_205 ⟨Nat.zero_le _, Nat.zero_le _⟩) hS (fun H locs hz47 hP hD hT hS => ?_)
          refine lv_if_eq (tgt := 215) hx hb dX13_readStatue_208 rfl (fun c48 => ?_) (fun c48 => ?_)
          · replace h := ite_t c48 h
            refine lv_aload_n hx hb dX13_readStatue_215 rfl (lv_at hl 3 rfl) ?_
            refine r_ldcSw (tx := "back") (i := 52) hx hb hG hown (by decide +kernel) dX13_readStatue_216 ?_
            obtain ⟨z49, h49, h⟩ := ob_some h
            refine k_z (va_runV (As := [.ref (q.2.1 52)]) (rest := []) ⟨hx, hb, hml, hown, hts⟩ (c_X13_isWord (l := l) z45 y3_0 52 ky3_0 (by decide) h49) (cwV 1 hts gX13_readStatue_X13_isWord rfl rfl rfl hdV_X13_isWord ⟨Nat.le_of_ble_eq_true rfl, Nat.le_of_ble_eq_true rfl⟩) (pV (T := TX13) hP hK hD hT hG hS ky3_0 (by decide) rfl) rfl rfl hl.1 rfl (lv_room (Nat.le_of_ble_eq_true rfl)) dX13_readStatue_219 ⟨Nat.zero_le _, Nat.zero_le _⟩) hS (fun H locs hz49 hP hD hT hS => ?_)
            refine lv_if_eq (tgt := 229) hx hb dX13_readStatue_222 rfl (fun c50 => ?_) (fun c50 => ?_)
            · replace h := ite_t c50 h
              refine lv_aload_n hx hb dX13_readStatue_229 rfl (lv_at hl 3 rfl) ?_
              refine r_ldcSw (tx := "side") (i := 53) hx hb hG hown (by decide +kernel) dX13_readStatue_230 ?_
              obtain ⟨z51, h51, h⟩ := ob_some h
              refine k_z (va_runV (As := [.ref (q.2.1 53)]) (rest := []) ⟨hx, hb, hml, hown, hts⟩ (c_X13_isWord (l := l) z45 y3_0 53 ky3_0 (by decide) h51) (cwV 1 hts gX13_readStatue_X13_isWord rfl rfl rfl hdV_X13_isWord ⟨Nat.le_of_ble_eq_true rfl, Nat.le_of_ble_eq_true rfl⟩) (pV (T := TX13) hP hK hD hT hG hS ky3_0 (by decide) rfl) rfl rfl hl.1 rfl (lv_room (Nat.le_of_ble_eq_true rfl)) dX13_readStatue_233 ⟨Nat.zero_le _, Nat.zero_le _⟩) hS (fun H locs hz51 hP hD hT hS => ?_)
              refine lv_if_eq (tgt := 243) hx hb dX13_readStatue_236 rfl (fun c52 => ?_) (fun c52 => ?_)
              · replace h := ite_t c52 h
                refine lv_iconst (v := (-1)) hx hb dX13_readStatue_243 rfl ?_
                exact J32 z45 y3_0 y3_1 y3_2 y3_3 y3_4 (-1) ky3_0 _ _ h hP hD hT hS ls (lv_sub hl [3, 4, 5, 6, 7] rfl)
              · replace h := ite_f c52 h
                refine lv_iconst (v := 2) hx hb dX13_readStatue_239 rfl ?_
                refine lv_goto (tgt := 244) hx hb dX13_readStatue_240 rfl ?_
                exact J32 z45 y3_0 y3_1 y3_2 y3_3 y3_4 2 ky3_0 _ _ h hP hD hT hS ls (lv_sub hl [3, 4, 5, 6, 7] rfl)
            · replace h := ite_f c50 h
              refine lv_iconst (v := 1) hx hb dX13_readStatue_225 rfl ?_
              refine lv_goto (tgt := 244) hx hb dX13_readStatue_226 rfl ?_
              exact J32 z45 y3_0 y3_1 y3_2 y3_3 y3_4 1 ky3_0 _ _ h hP hD hT hS ls (lv_sub hl [3, 4, 5, 6, 7] rfl)
          · replace h := ite_f c48 h
            refine lv_iconst (v := 0) hx hb dX13_readStatue_211 rfl ?_
            refine lv_goto (tgt := 244) hx hb dX13_readStatue_212 rfl ?_
            exact J32 z45 y3_0 y3_1 y3_2 y3_3 y3_4 0 ky3_0 _ _ h hP hD hT hS ls (lv_sub hl [3, 4, 5, 6, 7] rfl)
      refine lv_iload hx hb dX13_readStatue_156 (lv_at hl 4 rfl) ?_
      refine lv_iconst (v := 5) hx hb dX13_readStatue_158 rfl ?_
      refine lv_icmp_ne (tgt := 179) hx hb dX13_readStatue_159 rfl (fun c53 => ?_) (fun c53 => ?_)
      · replace h := ite_f c53 h
        exact J3 M2 y2_0 y2_1 y2_2 y2_3 y2_4 ky2_0 _ _ h hP hD hT hS ls (lv_sub hl [0, 1, 2, 3, 4] rfl)
      · replace h := ite_t c53 h
        refine lv_aload_n hx hb dX13_readStatue_162 rfl (lv_at hl 0 rfl) ?_
        rcases hN54 : gR M2 y2_0 4 with _ | b54
        · replace h := oc_n hN54 h
          refine r_get (T := TX13) (v := .null) hx hb hts in13 hown hK hP ky2_0 (by decide) rfl 4 (by decide) (hts (.fieldLink RX13 150 "StoneWalkModel" "read" "LStoneWalkModel$Island;") (List.mem_of_getElem? (i := 1) (by decide +kernel))) rfl (t := 2) rfl (by show va_rf _ = _; rw [hN54]; rfl) dX13_readStatue_163 ?_
          exact absurd h (by simp)
        · replace h := oc_s hN54 h
          have kb54 := hT.f ky2_0 (k := 4) (t := 12) (n := 0) rfl hN54
          refine r_get (T := TX13) (v := .ref (ad b54)) hx hb hts in13 hown hK hP ky2_0 (by decide) rfl 4 (by decide) (hts (.fieldLink RX13 150 "StoneWalkModel" "read" "LStoneWalkModel$Island;") (List.mem_of_getElem? (i := 1) (by decide +kernel))) rfl (t := 2) rfl (by show va_rf _ = _; rw [hN54]; rfl) dX13_readStatue_163 ?_
          refine r_getN (T := TX12) (v := .int (gI M2 b54 3)) hx hb hts in12 hown hK hP kb54 (by decide) rfl 3 (by decide) (hG.2.2.1 _ (List.mem_of_getElem? (i := 14) rfl)) rfl (t := 0) rfl rfl dX13_readStatue_166 ?_
          refine lv_bipush (v := 8) hx hb dX13_readStatue_169 rfl ?_
          refine lv_icmp_ne (tgt := 179) hx hb dX13_readStatue_171 rfl (fun c55 => ?_) (fun c55 => ?_)
          · replace h := ite_f c55 h
            exact J3 M2 y2_0 y2_1 y2_2 y2_3 y2_4 ky2_0 _ _ h hP hD hT hS ls (lv_sub hl [0, 1, 2, 3, 4] rfl)
          · replace h := ite_t c55 h
            refine lv_aload_n hx hb dX13_readStatue_174 rfl (lv_at hl 0 rfl) ?_
            refine lv_iconst (v := 5) hx hb dX13_readStatue_175 rfl ?_
            obtain ⟨z56, h56, h⟩ := ob_some h
            refine k_v (va_runV (As := [.int 5]) (rest := []) ⟨hx, hb, hml, hown, hts⟩ (c_X13_wrong (l := l) M2 y2_0 5 ky2_0 h56) (cwV 1 hts gX13_readStatue_X13_wrong rfl rfl rfl hdV_X13_wrong ⟨Nat.le_of_ble_eq_true rfl, Nat.le_of_ble_eq_true rfl⟩) (pV (T := TX13) hP hK hD hT hG hS ky2_0 (by decide) rfl) rfl rfl hl.1 rfl (lv_room (Nat.le_of_ble_eq_true rfl)) dX13_readStatue_176 ⟨Nat.zero_le _, Nat.zero_le _⟩) hS (fun H locs hP hD hT hS => ?_)
            exact J3 z56 y2_0 y2_1 y2_2 y2_3 y2_4 ky2_0 _ _ h hP hD hT hS ls (lv_sub hl [0, 1, 2, 3, 4] rfl)
    refine lv_istore (lv' := [(4, .int w1_0), (0, .ref (ad y1_0)), (1, .int y1_1), (2, .int y1_2), (3, .int y1_3)]) hx hb dX13_readStatue_143 hl (by decide) rfl (fun ls hl => ?_)
    refine lv_iload hx hb dX13_readStatue_145 (lv_at hl 0 rfl) ?_
    refine lv_iconst (v := (-1)) hx hb dX13_readStatue_147 rfl ?_
    refine lv_icmp_ne (tgt := 156) hx hb dX13_readStatue_148 rfl (fun c57 => ?_) (fun c57 => ?_)
    · replace h := ite_f c57 h
      exact J2 M1 y1_0 y1_1 y1_2 y1_3 w1_0 ky1_0 _ _ h hP hD hT hS ls (lv_sub hl [1, 2, 3, 4, 0] rfl)
    · replace h := ite_t c57 h
      refine lv_aload_n hx hb dX13_readStatue_151 rfl (lv_at hl 1 rfl) ?_
      refine lv_iconst (v := 1) hx hb dX13_readStatue_152 rfl ?_
      obtain ⟨z58, h58, h⟩ := ob_some h
      refine k_v (va_runV (As := [.int 1]) (rest := []) ⟨hx, hb, hml, hown, hts⟩ (c_X13_wrong (l := l) M1 y1_0 1 ky1_0 h58) (cwV 1 hts gX13_readStatue_X13_wrong rfl rfl rfl hdV_X13_wrong ⟨Nat.le_of_ble_eq_true rfl, Nat.le_of_ble_eq_true rfl⟩) (pV (T := TX13) hP hK hD hT hG hS ky1_0 (by decide) rfl) rfl rfl hl.1 rfl (lv_room (Nat.le_of_ble_eq_true rfl)) dX13_readStatue_153 ⟨Nat.zero_le _, Nat.zero_le _⟩) hS (fun H locs hP hD hT hS => ?_)
      exact J2 z58 y1_0 y1_1 y1_2 y1_3 w1_0 ky1_0 _ _ h hP hD hT hS ls (lv_sub hl [1, 2, 3, 4, 0] rfl)
  refine lv_aload_n hx hb dX13_readStatue_0 rfl (lv_at hl 0 rfl) ?_
  refine lv_aload_n hx hb dX13_readStatue_1 rfl (lv_at hl 0 rfl) ?_
  rcases hN59 : gR M a0 4 with _ | b59
  · replace h := oc_n hN59 h
    refine r_get (T := TX13) (v := .null) hx hb hts in13 hown hK hP k0 (by decide) rfl 4 (by decide) (hts (.fieldLink RX13 150 "StoneWalkModel" "read" "LStoneWalkModel$Island;") (List.mem_of_getElem? (i := 1) (by decide +kernel))) rfl (t := 2) rfl (by show va_rf _ = _; rw [hN59]; rfl) dX13_readStatue_2 ?_
    exact absurd h (by simp)
  · replace h := oc_s hN59 h
    have kb59 := hT.f k0 (k := 4) (t := 12) (n := 0) rfl hN59
    refine r_get (T := TX13) (v := .ref (ad b59)) hx hb hts in13 hown hK hP k0 (by decide) rfl 4 (by decide) (hts (.fieldLink RX13 150 "StoneWalkModel" "read" "LStoneWalkModel$Island;") (List.mem_of_getElem? (i := 1) (by decide +kernel))) rfl (t := 2) rfl (by show va_rf _ = _; rw [hN59]; rfl) dX13_readStatue_2 ?_
    refine r_getN (T := TX12) (v := .int (gI M b59 2)) hx hb hts in12 hown hK hP kb59 (by decide) rfl 2 (by decide) (hG.2.2.1 _ (List.mem_of_getElem? (i := 7) rfl)) rfl (t := 0) rfl rfl dX13_readStatue_5 ?_
    refine lv_bipush (v := 10) hx hb dX13_readStatue_8 rfl ?_
    obtain ⟨z60, h60, h⟩ := ob_some h
    refine k_v (va_runV (As := [.int (gI M b59 2), .int 10]) (rest := []) ⟨hx, hb, hml, hown, hts⟩ (c_X13_begins (l := l) M a0 (gI M b59 2) 10 k0 h60) (cwV 2 hts gX13_readStatue_X13_begins rfl rfl rfl hdV_X13_begins ⟨Nat.le_of_ble_eq_true rfl, Nat.le_of_ble_eq_true rfl⟩) (pV (T := TX13) hP hK hD hT hG hS k0 (by decide) rfl) rfl rfl hl.1 rfl (lv_room (Nat.le_of_ble_eq_true rfl)) dX13_readStatue_10 ⟨Nat.zero_le _, Nat.zero_le _⟩) hS (fun H locs hP hD hT hS => ?_)
    refine lv_aload_n hx hb dX13_readStatue_13 rfl (lv_at hl 0 rfl) ?_
    refine lv_iconst (v := 2) hx hb dX13_readStatue_14 rfl ?_
    refine lv_aload_n hx hb dX13_readStatue_15 rfl (lv_at hl 0 rfl) ?_
    rcases hN61 : gR z60 a0 4 with _ | b61
    · replace h := oc_n hN61 h
      refine r_get (T := TX13) (v := .null) hx hb hts in13 hown hK hP k0 (by decide) rfl 4 (by decide) (hts (.fieldLink RX13 150 "StoneWalkModel" "read" "LStoneWalkModel$Island;") (List.mem_of_getElem? (i := 1) (by decide +kernel))) rfl (t := 2) rfl (by show va_rf _ = _; rw [hN61]; rfl) dX13_readStatue_16 ?_
      exact absurd h (by simp)
    · replace h := oc_s hN61 h
      have kb61 := hT.f k0 (k := 4) (t := 12) (n := 0) rfl hN61
      refine r_get (T := TX13) (v := .ref (ad b61)) hx hb hts in13 hown hK hP k0 (by decide) rfl 4 (by decide) (hts (.fieldLink RX13 150 "StoneWalkModel" "read" "LStoneWalkModel$Island;") (List.mem_of_getElem? (i := 1) (by decide +kernel))) rfl (t := 2) rfl (by show va_rf _ = _; rw [hN61]; rfl) dX13_readStatue_16 ?_
      refine r_getN (T := TX12) (v := .int (gI z60 b61 2)) hx hb hts in12 hown hK hP kb61 (by decide) rfl 2 (by decide) (hG.2.2.1 _ (List.mem_of_getElem? (i := 7) rfl)) rfl (t := 0) rfl rfl dX13_readStatue_19 ?_
      obtain ⟨z62, h62, h⟩ := ob_some h
      refine k_v (va_runV (As := [.int 2, .int (gI z60 b61 2)]) (rest := []) ⟨hx, hb, hml, hown, hts⟩ (c_X13_readFresh (l := l) z60 a0 2 (gI z60 b61 2) k0 h62) (cwV 2 hts gX13_readStatue_X13_readFresh rfl rfl rfl hdV_X13_readFresh ⟨Nat.le_of_ble_eq_true rfl, Nat.le_of_ble_eq_true rfl⟩) (pV (T := TX13) hP hK hD hT hG hS k0 (by decide) rfl) rfl rfl hl.1 rfl (lv_room (Nat.le_of_ble_eq_true rfl)) dX13_readStatue_22 ⟨Nat.zero_le _, Nat.zero_le _⟩) hS (fun H locs hP hD hT hS => ?_)
      refine lv_aload_n hx hb dX13_readStatue_25 rfl (lv_at hl 0 rfl) ?_
      refine r_ldcSw (tx := "tons") (i := 7) hx hb hG hown (by decide +kernel) dX13_readStatue_26 ?_
      refine lv_iconst (v := 1) hx hb dX13_readStatue_29 rfl ?_
      refine lv_bipush (v := 99) hx hb dX13_readStatue_30 rfl ?_
      obtain ⟨z63, h63, h⟩ := ob_some h
      refine k_i (va_runV (As := [.ref (q.2.1 7), .int 1, .int 99]) (rest := []) ⟨hx, hb, hml, hown, hts⟩ (c_X13_readPart (l := l) z62 a0 7 1 99 k0 (by decide) h63) (cwV 3 hts gX13_readStatue_X13_readPart rfl rfl rfl hdV_X13_readPart ⟨Nat.le_of_ble_eq_true rfl, Nat.le_of_ble_eq_true rfl⟩) (pV (T := TX13) hP hK hD hT hG hS k0 (by decide) rfl) rfl rfl hl.1 rfl (lv_room (Nat.le_of_ble_eq_true rfl)) dX13_readStatue_32 ⟨Nat.zero_le _, Nat.zero_le _⟩) hS (fun H locs hP hD hT hS => ?_)
      refine lv_istore_n (lv' := [(1, .int z63.1), (0, .ref (ad a0))]) hx hb dX13_readStatue_35 rfl hl (by decide) rfl (fun ls hl => ?_)
      refine lv_aload_n hx hb dX13_readStatue_36 rfl (lv_at hl 1 rfl) ?_
      refine r_ldcSw (tx := "lean") (i := 8) hx hb hG hown (by decide +kernel) dX13_readStatue_37 ?_
      refine lv_iconst (v := 0) hx hb dX13_readStatue_40 rfl ?_
      refine lv_bipush (v := 30) hx hb dX13_readStatue_41 rfl ?_
      obtain ⟨z64, h64, h⟩ := ob_some h
      refine k_i (va_runV (As := [.ref (q.2.1 8), .int 0, .int 30]) (rest := []) ⟨hx, hb, hml, hown, hts⟩ (c_X13_readPart (l := l) z63.2 a0 8 0 30 k0 (by decide) h64) (cwV 3 hts gX13_readStatue_X13_readPart rfl rfl rfl hdV_X13_readPart ⟨Nat.le_of_ble_eq_true rfl, Nat.le_of_ble_eq_true rfl⟩) (pV (T := TX13) hP hK hD hT hG hS k0 (by decide) rfl) rfl rfl hl.1 rfl (lv_room (Nat.le_of_ble_eq_true rfl)) dX13_readStatue_43 ⟨Nat.zero_le _, Nat.zero_le _⟩) hS (fun H locs hP hD hT hS => ?_)
      refine lv_istore_n (lv' := [(2, .int z64.1), (1, .int z63.1), (0, .ref (ad a0))]) hx hb dX13_readStatue_46 rfl hl (by decide) rfl (fun ls hl => ?_)
      refine lv_aload_n hx hb dX13_readStatue_47 rfl (lv_at hl 2 rfl) ?_
      refine r_ldcSw (tx := "edge") (i := 9) hx hb hG hown (by decide +kernel) dX13_readStatue_48 ?_
      refine lv_iconst (v := 0) hx hb dX13_readStatue_51 rfl ?_
      refine lv_bipush (v := 20) hx hb dX13_readStatue_52 rfl ?_
      obtain ⟨z65, h65, h⟩ := ob_some h
      refine k_i (va_runV (As := [.ref (q.2.1 9), .int 0, .int 20]) (rest := []) ⟨hx, hb, hml, hown, hts⟩ (c_X13_readPart (l := l) z64.2 a0 9 0 20 k0 (by decide) h65) (cwV 3 hts gX13_readStatue_X13_readPart rfl rfl rfl hdV_X13_readPart ⟨Nat.le_of_ble_eq_true rfl, Nat.le_of_ble_eq_true rfl⟩) (pV (T := TX13) hP hK hD hT hG hS k0 (by decide) rfl) rfl rfl hl.1 rfl (lv_room (Nat.le_of_ble_eq_true rfl)) dX13_readStatue_54 ⟨Nat.zero_le _, Nat.zero_le _⟩) hS (fun H locs hP hD hT hS => ?_)
      refine lv_istore_n (lv' := [(3, .int z65.1), (2, .int z64.1), (1, .int z63.1), (0, .ref (ad a0))]) hx hb dX13_readStatue_57 rfl hl (by decide) rfl (fun ls hl => ?_)
      refine lv_aload_n hx hb dX13_readStatue_58 rfl (lv_at hl 3 rfl) ?_
      refine r_ldcSw (tx := "cut") (i := 46) hx hb hG hown (by decide +kernel) dX13_readStatue_59 ?_
      obtain ⟨z66, h66, h⟩ := ob_some h
      refine k_z (va_runV (As := [.ref (q.2.1 46)]) (rest := []) ⟨hx, hb, hml, hown, hts⟩ (c_X13_isWord (l := l) z65.2 a0 46 k0 (by decide) h66) (cwV 1 hts gX13_readStatue_X13_isWord rfl rfl rfl hdV_X13_isWord ⟨Nat.le_of_ble_eq_true rfl, Nat.le_of_ble_eq_true rfl⟩) (pV (T := TX13) hP hK hD hT hG hS k0 (by decide) rfl) rfl rfl hl.1 rfl (lv_room (Nat.le_of_ble_eq_true rfl)) dX13_readStatue_62 ⟨Nat.zero_le _, Nat.zero_le _⟩) hS (fun H locs hz66 hP hD hT hS => ?_)
      refine lv_if_eq (tgt := 72) hx hb dX13_readStatue_65 rfl (fun c67 => ?_) (fun c67 => ?_)
      · replace h := ite_t c67 h
        refine lv_aload_n hx hb dX13_readStatue_72 rfl (lv_at hl 3 rfl) ?_
        refine r_ldcSw (tx := "large") (i := 47) hx hb hG hown (by decide +kernel) dX13_readStatue_73 ?_
        obtain ⟨z68, h68, h⟩ := ob_some h
        refine k_z (va_runV (As := [.ref (q.2.1 47)]) (rest := []) ⟨hx, hb, hml, hown, hts⟩ (c_X13_isWord (l := l) z65.2 a0 47 k0 (by decide) h68) (cwV 1 hts gX13_readStatue_X13_isWord rfl rfl rfl hdV_X13_isWord ⟨Nat.le_of_ble_eq_true rfl, Nat.le_of_ble_eq_true rfl⟩) (pV (T := TX13) hP hK hD hT hG hS k0 (by decide) rfl) rfl rfl hl.1 rfl (lv_room (Nat.le_of_ble_eq_true rfl)) dX13_readStatue_76 ⟨Nat.zero_le _, Nat.zero_le _⟩) hS (fun H locs hz68 hP hD hT hS => ?_)
        refine lv_if_eq (tgt := 86) hx hb dX13_readStatue_79 rfl (fun c69 => ?_) (fun c69 => ?_)
        · replace h := ite_t c69 h
          refine lv_aload_n hx hb dX13_readStatue_86 rfl (lv_at hl 3 rfl) ?_
          refine r_ldcSw (tx := "buried") (i := 48) hx hb hG hown (by decide +kernel) dX13_readStatue_87 ?_
          obtain ⟨z70, h70, h⟩ := ob_some h
          refine k_z (va_runV (As := [.ref (q.2.1 48)]) (rest := []) ⟨hx, hb, hml, hown, hts⟩ (c_X13_isWord (l := l) z65.2 a0 48 k0 (by decide) h70) (cwV 1 hts gX13_readStatue_X13_isWord rfl rfl rfl hdV_X13_isWord ⟨Nat.le_of_ble_eq_true rfl, Nat.le_of_ble_eq_true rfl⟩) (pV (T := TX13) hP hK hD hT hG hS k0 (by decide) rfl) rfl rfl hl.1 rfl (lv_room (Nat.le_of_ble_eq_true rfl)) dX13_readStatue_90 ⟨Nat.zero_le _, Nat.zero_le _⟩) hS (fun H locs hz70 hP hD hT hS => ?_)
          refine lv_if_eq (tgt := 100) hx hb dX13_readStatue_93 rfl (fun c71 => ?_) (fun c71 => ?_)
          · replace h := ite_t c71 h
            refine lv_aload_n hx hb dX13_readStatue_100 rfl (lv_at hl 3 rfl) ?_
            refine r_ldcSw (tx := "stood") (i := 49) hx hb hG hown (by decide +kernel) dX13_readStatue_101 ?_
            obtain ⟨z72, h72, h⟩ := ob_some h
            refine k_z (va_runV (As := [.ref (q.2.1 49)]) (rest := []) ⟨hx, hb, hml, hown, hts⟩ (c_X13_isWord (l := l) z65.2 a0 49 k0 (by decide) h72) (cwV 1 hts gX13_readStatue_X13_isWord rfl rfl rfl hdV_X13_isWord ⟨Nat.le_of_ble_eq_true rfl, Nat.le_of_ble_eq_true rfl⟩) (pV (T := TX13) hP hK hD hT hG hS k0 (by decide) rfl) rfl rfl hl.1 rfl (lv_room (Nat.le_of_ble_eq_true rfl)) dX13_readStatue_104 ⟨Nat.zero_le _, Nat.zero_le _⟩) hS (fun H locs hz72 hP hD hT hS => ?_)
            refine lv_if_eq (tgt := 114) hx hb dX13_readStatue_107 rfl (fun c73 => ?_) (fun c73 => ?_)
            · replace h := ite_t c73 h
              refine lv_aload_n hx hb dX13_readStatue_114 rfl (lv_at hl 3 rfl) ?_
              refine r_ldcSw (tx := "tried") (i := 50) hx hb hG hown (by decide +kernel) dX13_readStatue_115 ?_
              obtain ⟨z74, h74, h⟩ := ob_some h
              refine k_z (va_runV (As := [.ref (q.2.1 50)]) (rest := []) ⟨hx, hb, hml, hown, hts⟩ (c_X13_isWord (l := l) z65.2 a0 50 k0 (by decide) h74) (cwV 1 hts gX13_readStatue_X13_isWord rfl rfl rfl hdV_X13_isWord ⟨Nat.le_of_ble_eq_true rfl, Nat.le_of_ble_eq_true rfl⟩) (pV (T := TX13) hP hK hD hT hG hS k0 (by decide) rfl) rfl rfl hl.1 rfl (lv_room (Nat.le_of_ble_eq_true rfl)) dX13_readStatue_118 ⟨Nat.zero_le _, Nat.zero_le _⟩) hS (fun H locs hz74 hP hD hT hS => ?_)
              refine lv_if_eq (tgt := 128) hx hb dX13_readStatue_121 rfl (fun c75 => ?_) (fun c75 => ?_)
              · replace h := ite_t c75 h
                refine lv_aload_n hx hb dX13_readStatue_128 rfl (lv_at hl 3 rfl) ?_
                refine r_ldcSw (tx := "lies") (i := 10) hx hb hG hown (by decide +kernel) dX13_readStatue_129 ?_
                obtain ⟨z76, h76, h⟩ := ob_some h
                refine k_z (va_runV (As := [.ref (q.2.1 10)]) (rest := []) ⟨hx, hb, hml, hown, hts⟩ (c_X13_isWord (l := l) z65.2 a0 10 k0 (by decide) h76) (cwV 1 hts gX13_readStatue_X13_isWord rfl rfl rfl hdV_X13_isWord ⟨Nat.le_of_ble_eq_true rfl, Nat.le_of_ble_eq_true rfl⟩) (pV (T := TX13) hP hK hD hT hG hS k0 (by decide) rfl) rfl rfl hl.1 rfl (lv_room (Nat.le_of_ble_eq_true rfl)) dX13_readStatue_132 ⟨Nat.zero_le _, Nat.zero_le _⟩) hS (fun H locs hz76 hP hD hT hS => ?_)
                refine lv_if_eq (tgt := 142) hx hb dX13_readStatue_135 rfl (fun c77 => ?_) (fun c77 => ?_)
                · replace h := ite_t c77 h
                  refine lv_iconst (v := (-1)) hx hb dX13_readStatue_142 rfl ?_
                  exact J1 z65.2 a0 z63.1 z64.1 z65.1 (-1) k0 _ _ h hP hD hT hS ls (lv_sub hl [3, 2, 1, 0] rfl)
                · replace h := ite_f c77 h
                  refine lv_iconst (v := 5) hx hb dX13_readStatue_138 rfl ?_
                  refine lv_goto (tgt := 143) hx hb dX13_readStatue_139 rfl ?_
                  exact J1 z65.2 a0 z63.1 z64.1 z65.1 5 k0 _ _ h hP hD hT hS ls (lv_sub hl [3, 2, 1, 0] rfl)
              · replace h := ite_f c75 h
                refine lv_iconst (v := 4) hx hb dX13_readStatue_124 rfl ?_
                refine lv_goto (tgt := 143) hx hb dX13_readStatue_125 rfl ?_
                exact J1 z65.2 a0 z63.1 z64.1 z65.1 4 k0 _ _ h hP hD hT hS ls (lv_sub hl [3, 2, 1, 0] rfl)
            · replace h := ite_f c73 h
              refine lv_iconst (v := 3) hx hb dX13_readStatue_110 rfl ?_
              refine lv_goto (tgt := 143) hx hb dX13_readStatue_111 rfl ?_
              exact J1 z65.2 a0 z63.1 z64.1 z65.1 3 k0 _ _ h hP hD hT hS ls (lv_sub hl [3, 2, 1, 0] rfl)
          · replace h := ite_f c71 h
            refine lv_iconst (v := 2) hx hb dX13_readStatue_96 rfl ?_
            refine lv_goto (tgt := 143) hx hb dX13_readStatue_97 rfl ?_
            exact J1 z65.2 a0 z63.1 z64.1 z65.1 2 k0 _ _ h hP hD hT hS ls (lv_sub hl [3, 2, 1, 0] rfl)
        · replace h := ite_f c69 h
          refine lv_iconst (v := 1) hx hb dX13_readStatue_82 rfl ?_
          refine lv_goto (tgt := 143) hx hb dX13_readStatue_83 rfl ?_
          exact J1 z65.2 a0 z63.1 z64.1 z65.1 1 k0 _ _ h hP hD hT hS ls (lv_sub hl [3, 2, 1, 0] rfl)
      · replace h := ite_f c67 h
        refine lv_iconst (v := 0) hx hb dX13_readStatue_68 rfl ?_
        refine lv_goto (tgt := 143) hx hb dX13_readStatue_69 rfl ?_
        exact J1 z65.2 a0 z63.1 z64.1 z65.1 0 k0 _ _ h hP hD hT hS ls (lv_sub hl [3, 2, 1, 0] rfl)
set_option maxHeartbeats 4000000 in
set_option maxRecDepth 100000 in
theorem c_X13_readTrial {l : Launch} {D : va_G} {ad : Nat → Nat} {cy : Nat → ClassId} {A : Nat → Prop} {g : CG} {q : SE} (M : MM) (a0 : Nat) (k0 : ok g a0 13 0) {Z : MM} (h : f_X13_readTrial M a0 = some Z) : Met l yX13_readTrial wsX13_readTrial ({ frames := 9, cells := 0, slots := 0, locals := 193 }) (va_Pc [.ref (ad a0)] (Wd D ad cy A g q M)) (va_Qv (fun u => u = Z) (Wd D ad cy A g q) A) 0 0 A := by
  refine Met.ofW (cc := cX13_readTrial) (maxL := 6) (ret := none) (by decide) rfl ?_
  intro p e s m args below meth c s₁ B hml hv
  obtain ⟨rfl, hP, hK, hD, hT, hG⟩ := hv
  have hx := B.exec
  have hb := B.bytes
  have hr := B.returns
  have hts := atoms_spec (ws := wsX13_readTrial) B.pre
  have hown : s.vm.findClass RX13 = some m.cls := findClass_of_methodNamed B.named
  have hlocks := B.notSynchronized
  have in12 : ∀ w ∈ u_ws RX12 TX12 48, w ∈ wsX13_readTrial := fun w h => List.mem_cons_of_mem _ (List.mem_append_right _ h)
  have in13 : ∀ w ∈ u_ws RX13 TX13 29, w ∈ wsX13_readTrial := fun w h => List.mem_cons_of_mem _ (List.mem_append_left _ (List.mem_append_right _ h))
  have hS : va_S A s.heap s.heap [] := va_S.rf
  have hl := lv_entry ([.ref (ad a0)]) (n := 6) (Nat.le_of_ble_eq_true rfl)
  rw [lg_entry_eq]
  generalize (lg_sl ([.ref (ad a0)]) ++ List.replicate (6 - (lg_sl ([.ref (ad a0)])).length) Slot.unset).toArray = ls at hl ⊢
  have hl : lv_has ls 6 [(0, .ref (ad a0))] := hl
  unfold f_X13_readTrial at h
  refine lv_aload_n hx hb dX13_readTrial_0 rfl (lv_at hl 0 rfl) ?_
  refine lv_aload_n hx hb dX13_readTrial_1 rfl (lv_at hl 0 rfl) ?_
  rcases hN1 : gR M a0 4 with _ | b1
  · replace h := oc_n hN1 h
    refine r_get (T := TX13) (v := .null) hx hb hts in13 hown hK hP k0 (by decide) rfl 4 (by decide) (hts (.fieldLink RX13 150 "StoneWalkModel" "read" "LStoneWalkModel$Island;") (List.mem_of_getElem? (i := 1) (by decide +kernel))) rfl (t := 2) rfl (by show va_rf _ = _; rw [hN1]; rfl) dX13_readTrial_2 ?_
    exact absurd h (by simp)
  · replace h := oc_s hN1 h
    have kb1 := hT.f k0 (k := 4) (t := 12) (n := 0) rfl hN1
    refine r_get (T := TX13) (v := .ref (ad b1)) hx hb hts in13 hown hK hP k0 (by decide) rfl 4 (by decide) (hts (.fieldLink RX13 150 "StoneWalkModel" "read" "LStoneWalkModel$Island;") (List.mem_of_getElem? (i := 1) (by decide +kernel))) rfl (t := 2) rfl (by show va_rf _ = _; rw [hN1]; rfl) dX13_readTrial_2 ?_
    refine r_getN (T := TX12) (v := .int (gI M b1 4)) hx hb hts in12 hown hK hP kb1 (by decide) rfl 4 (by decide) (hG.2.2.1 _ (List.mem_of_getElem? (i := 22) rfl)) rfl (t := 0) rfl rfl dX13_readTrial_5 ?_
    refine lv_iconst (v := 5) hx hb dX13_readTrial_8 rfl ?_
    obtain ⟨z2, h2, h⟩ := ob_some h
    refine k_v (va_runV (As := [.int (gI M b1 4), .int 5]) (rest := []) ⟨hx, hb, hml, hown, hts⟩ (c_X13_begins (l := l) M a0 (gI M b1 4) 5 k0 h2) (cwV 2 hts gX13_readTrial_X13_begins rfl rfl rfl hdV_X13_begins ⟨Nat.le_of_ble_eq_true rfl, Nat.le_of_ble_eq_true rfl⟩) (pV (T := TX13) hP hK hD hT hG hS k0 (by decide) rfl) rfl rfl hl.1 rfl (lv_room (Nat.le_of_ble_eq_true rfl)) dX13_readTrial_9 ⟨Nat.zero_le _, Nat.zero_le _⟩) hS (fun H locs hP hD hT hS => ?_)
    refine lv_aload_n hx hb dX13_readTrial_12 rfl (lv_at hl 0 rfl) ?_
    refine lv_iconst (v := 2) hx hb dX13_readTrial_13 rfl ?_
    refine lv_aload_n hx hb dX13_readTrial_14 rfl (lv_at hl 0 rfl) ?_
    rcases hN3 : gR z2 a0 4 with _ | b3
    · replace h := oc_n hN3 h
      refine r_get (T := TX13) (v := .null) hx hb hts in13 hown hK hP k0 (by decide) rfl 4 (by decide) (hts (.fieldLink RX13 150 "StoneWalkModel" "read" "LStoneWalkModel$Island;") (List.mem_of_getElem? (i := 1) (by decide +kernel))) rfl (t := 2) rfl (by show va_rf _ = _; rw [hN3]; rfl) dX13_readTrial_15 ?_
      exact absurd h (by simp)
    · replace h := oc_s hN3 h
      have kb3 := hT.f k0 (k := 4) (t := 12) (n := 0) rfl hN3
      refine r_get (T := TX13) (v := .ref (ad b3)) hx hb hts in13 hown hK hP k0 (by decide) rfl 4 (by decide) (hts (.fieldLink RX13 150 "StoneWalkModel" "read" "LStoneWalkModel$Island;") (List.mem_of_getElem? (i := 1) (by decide +kernel))) rfl (t := 2) rfl (by show va_rf _ = _; rw [hN3]; rfl) dX13_readTrial_15 ?_
      refine r_getN (T := TX12) (v := .int (gI z2 b3 4)) hx hb hts in12 hown hK hP kb3 (by decide) rfl 4 (by decide) (hG.2.2.1 _ (List.mem_of_getElem? (i := 22) rfl)) rfl (t := 0) rfl rfl dX13_readTrial_18 ?_
      obtain ⟨z4, h4, h⟩ := ob_some h
      refine k_v (va_runV (As := [.int 2, .int (gI z2 b3 4)]) (rest := []) ⟨hx, hb, hml, hown, hts⟩ (c_X13_readFresh (l := l) z2 a0 2 (gI z2 b3 4) k0 h4) (cwV 2 hts gX13_readTrial_X13_readFresh rfl rfl rfl hdV_X13_readFresh ⟨Nat.le_of_ble_eq_true rfl, Nat.le_of_ble_eq_true rfl⟩) (pV (T := TX13) hP hK hD hT hG hS k0 (by decide) rfl) rfl rfl hl.1 rfl (lv_room (Nat.le_of_ble_eq_true rfl)) dX13_readTrial_21 ⟨Nat.zero_le _, Nat.zero_le _⟩) hS (fun H locs hP hD hT hS => ?_)
      refine lv_aload_n hx hb dX13_readTrial_24 rfl (lv_at hl 0 rfl) ?_
      refine r_ldcSw (tx := "of") (i := 15) hx hb hG hown (by decide +kernel) dX13_readTrial_25 ?_
      obtain ⟨z5, h5, h⟩ := ob_some h
      refine k_v (va_runV (As := [.ref (q.2.1 15)]) (rest := []) ⟨hx, hb, hml, hown, hts⟩ (c_X13_needs (l := l) z4 a0 15 k0 (by decide) h5) (cwV 1 hts gX13_readTrial_X13_needs rfl rfl rfl hdV_X13_needs ⟨Nat.le_of_ble_eq_true rfl, Nat.le_of_ble_eq_true rfl⟩) (pV (T := TX13) hP hK hD hT hG hS k0 (by decide) rfl) rfl rfl hl.1 rfl (lv_room (Nat.le_of_ble_eq_true rfl)) dX13_readTrial_28 ⟨Nat.zero_le _, Nat.zero_le _⟩) hS (fun H locs hP hD hT hS => ?_)
      refine lv_aload_n hx hb dX13_readTrial_31 rfl (lv_at hl 0 rfl) ?_
      refine lv_iconst (v := 0) hx hb dX13_readTrial_32 rfl ?_
      obtain ⟨z6, h6, h⟩ := ob_some h
      refine k_i (va_runV (As := [.int 0]) (rest := []) ⟨hx, hb, hml, hown, hts⟩ (c_X13_readKnown (l := l) z5 a0 0 k0 h6) (cwV 1 hts gX13_readTrial_X13_readKnown rfl rfl rfl hdV_X13_readKnown ⟨Nat.le_of_ble_eq_true rfl, Nat.le_of_ble_eq_true rfl⟩) (pV (T := TX13) hP hK hD hT hG hS k0 (by decide) rfl) rfl rfl hl.1 rfl (lv_room (Nat.le_of_ble_eq_true rfl)) dX13_readTrial_33 ⟨Nat.zero_le _, Nat.zero_le _⟩) hS (fun H locs hP hD hT hS => ?_)
      refine lv_istore_n (lv' := [(1, .int z6.1), (0, .ref (ad a0))]) hx hb dX13_readTrial_36 rfl hl (by decide) rfl (fun ls hl => ?_)
      refine lv_aload_n hx hb dX13_readTrial_37 rfl (lv_at hl 1 rfl) ?_
      refine r_ldcSw (tx := "tons") (i := 7) hx hb hG hown (by decide +kernel) dX13_readTrial_38 ?_
      refine lv_iconst (v := 1) hx hb dX13_readTrial_41 rfl ?_
      refine lv_bipush (v := 99) hx hb dX13_readTrial_42 rfl ?_
      obtain ⟨z7, h7, h⟩ := ob_some h
      refine k_i (va_runV (As := [.ref (q.2.1 7), .int 1, .int 99]) (rest := []) ⟨hx, hb, hml, hown, hts⟩ (c_X13_readPart (l := l) z6.2 a0 7 1 99 k0 (by decide) h7) (cwV 3 hts gX13_readTrial_X13_readPart rfl rfl rfl hdV_X13_readPart ⟨Nat.le_of_ble_eq_true rfl, Nat.le_of_ble_eq_true rfl⟩) (pV (T := TX13) hP hK hD hT hG hS k0 (by decide) rfl) rfl rfl hl.1 rfl (lv_room (Nat.le_of_ble_eq_true rfl)) dX13_readTrial_44 ⟨Nat.zero_le _, Nat.zero_le _⟩) hS (fun H locs hP hD hT hS => ?_)
      refine lv_istore_n (lv' := [(2, .int z7.1), (1, .int z6.1), (0, .ref (ad a0))]) hx hb dX13_readTrial_47 rfl hl (by decide) rfl (fun ls hl => ?_)
      refine lv_aload_n hx hb dX13_readTrial_48 rfl (lv_at hl 2 rfl) ?_
      refine r_ldcSw (tx := "people") (i := 16) hx hb hG hown (by decide +kernel) dX13_readTrial_49 ?_
      refine lv_iconst (v := 1) hx hb dX13_readTrial_52 rfl ?_
      refine lv_sipush (v := 200) hx hb dX13_readTrial_53 rfl ?_
      obtain ⟨z8, h8, h⟩ := ob_some h
      refine k_i (va_runV (As := [.ref (q.2.1 16), .int 1, .int 200]) (rest := []) ⟨hx, hb, hml, hown, hts⟩ (c_X13_readPart (l := l) z7.2 a0 16 1 200 k0 (by decide) h8) (cwV 3 hts gX13_readTrial_X13_readPart rfl rfl rfl hdV_X13_readPart ⟨Nat.le_of_ble_eq_true rfl, Nat.le_of_ble_eq_true rfl⟩) (pV (T := TX13) hP hK hD hT hG hS k0 (by decide) rfl) rfl rfl hl.1 rfl (lv_room (Nat.le_of_ble_eq_true rfl)) dX13_readTrial_56 ⟨Nat.zero_le _, Nat.zero_le _⟩) hS (fun H locs hP hD hT hS => ?_)
      refine lv_istore_n (lv' := [(3, .int z8.1), (2, .int z7.1), (1, .int z6.1), (0, .ref (ad a0))]) hx hb dX13_readTrial_59 rfl hl (by decide) rfl (fun ls hl => ?_)
      refine lv_aload_n hx hb dX13_readTrial_60 rfl (lv_at hl 3 rfl) ?_
      refine r_ldcSw (tx := "yards") (i := 17) hx hb hG hown (by decide +kernel) dX13_readTrial_61 ?_
      refine lv_iconst (v := 1) hx hb dX13_readTrial_64 rfl ?_
      refine lv_sipush (v := 999) hx hb dX13_readTrial_65 rfl ?_
      obtain ⟨z9, h9, h⟩ := ob_some h
      refine k_i (va_runV (As := [.ref (q.2.1 17), .int 1, .int 999]) (rest := []) ⟨hx, hb, hml, hown, hts⟩ (c_X13_readPart (l := l) z8.2 a0 17 1 999 k0 (by decide) h9) (cwV 3 hts gX13_readTrial_X13_readPart rfl rfl rfl hdV_X13_readPart ⟨Nat.le_of_ble_eq_true rfl, Nat.le_of_ble_eq_true rfl⟩) (pV (T := TX13) hP hK hD hT hG hS k0 (by decide) rfl) rfl rfl hl.1 rfl (lv_room (Nat.le_of_ble_eq_true rfl)) dX13_readTrial_68 ⟨Nat.zero_le _, Nat.zero_le _⟩) hS (fun H locs hP hD hT hS => ?_)
      refine lv_istore (lv' := [(4, .int z9.1), (3, .int z8.1), (2, .int z7.1), (1, .int z6.1), (0, .ref (ad a0))]) hx hb dX13_readTrial_71 hl (by decide) rfl (fun ls hl => ?_)
      refine lv_aload_n hx hb dX13_readTrial_73 rfl (lv_at hl 4 rfl) ?_
      refine r_ldcSw (tx := "minutes") (i := 18) hx hb hG hown (by decide +kernel) dX13_readTrial_74 ?_
      refine lv_iconst (v := 1) hx hb dX13_readTrial_77 rfl ?_
      refine lv_sipush (v := 999) hx hb dX13_readTrial_78 rfl ?_
      obtain ⟨z10, h10, h⟩ := ob_some h
      refine k_i (va_runV (As := [.ref (q.2.1 18), .int 1, .int 999]) (rest := []) ⟨hx, hb, hml, hown, hts⟩ (c_X13_readPart (l := l) z9.2 a0 18 1 999 k0 (by decide) h10) (cwV 3 hts gX13_readTrial_X13_readPart rfl rfl rfl hdV_X13_readPart ⟨Nat.le_of_ble_eq_true rfl, Nat.le_of_ble_eq_true rfl⟩) (pV (T := TX13) hP hK hD hT hG hS k0 (by decide) rfl) rfl rfl hl.1 rfl (lv_room (Nat.le_of_ble_eq_true rfl)) dX13_readTrial_81 ⟨Nat.zero_le _, Nat.zero_le _⟩) hS (fun H locs hP hD hT hS => ?_)
      refine lv_istore (lv' := [(5, .int z10.1), (4, .int z9.1), (3, .int z8.1), (2, .int z7.1), (1, .int z6.1), (0, .ref (ad a0))]) hx hb dX13_readTrial_84 hl (by decide) rfl (fun ls hl => ?_)
      refine lv_aload_n hx hb dX13_readTrial_86 rfl (lv_at hl 5 rfl) ?_
      refine r_get (T := TX13) (v := .int (gI z10.2 a0 9)) hx hb hts in13 hown hK hP k0 (by decide) rfl 9 (by decide) (hts (.fieldLink RX13 58 "StoneWalkModel" "sort" "I") (List.mem_of_getElem? (i := 2) (by decide +kernel))) rfl (t := 0) rfl rfl dX13_readTrial_87 ?_
      refine lv_iconst (v := 5) hx hb dX13_readTrial_90 rfl ?_
      refine lv_icmp_ne (tgt := 95) hx hb dX13_readTrial_91 rfl (fun c11 => ?_) (fun c11 => ?_)
      · replace h := ite_f c11 h
        refine lv_aload_n hx hb dX13_readTrial_95 rfl (lv_at hl 5 rfl) ?_
        rcases hN12 : gR z10.2 a0 4 with _ | b12
        · replace h := oc_n hN12 h
          refine r_get (T := TX13) (v := .null) hx hb hts in13 hown hK hP k0 (by decide) rfl 4 (by decide) (hts (.fieldLink RX13 150 "StoneWalkModel" "read" "LStoneWalkModel$Island;") (List.mem_of_getElem? (i := 1) (by decide +kernel))) rfl (t := 2) rfl (by show va_rf _ = _; rw [hN12]; rfl) dX13_readTrial_96 ?_
          exact absurd h (by simp)
        · replace h := oc_s hN12 h
          have kb12 := hT.f k0 (k := 4) (t := 12) (n := 0) rfl hN12
          refine r_get (T := TX13) (v := .ref (ad b12)) hx hb hts in13 hown hK hP k0 (by decide) rfl 4 (by decide) (hts (.fieldLink RX13 150 "StoneWalkModel" "read" "LStoneWalkModel$Island;") (List.mem_of_getElem? (i := 1) (by decide +kernel))) rfl (t := 2) rfl (by show va_rf _ = _; rw [hN12]; rfl) dX13_readTrial_96 ?_
          rcases hN13 : gR z10.2 b12 22 with _ | b13
          · exact absurd (oc_n hN13 h) (by simp)
          replace h := oc_s hN13 h
          have kb13 := hT.f kb12 (k := 22) (t := 15) (n := 5) rfl hN13
          refine r_getN (T := TX12) (v := .ref (ad b13)) hx hb hts in12 hown hK hP kb12 (by decide) rfl 22 (by decide) (hG.2.2.1 _ (List.mem_of_getElem? (i := 23) rfl)) rfl (t := 2) rfl (by show va_rf _ = _; rw [hN13]; rfl) dX13_readTrial_99 ?_
          refine lv_aload_n hx hb dX13_readTrial_102 rfl (lv_at hl 5 rfl) ?_
          rcases hN14 : gR z10.2 a0 4 with _ | b14
          · replace h := oc_n hN14 h
            refine r_get (T := TX13) (v := .null) hx hb hts in13 hown hK hP k0 (by decide) rfl 4 (by decide) (hts (.fieldLink RX13 150 "StoneWalkModel" "read" "LStoneWalkModel$Island;") (List.mem_of_getElem? (i := 1) (by decide +kernel))) rfl (t := 2) rfl (by show va_rf _ = _; rw [hN14]; rfl) dX13_readTrial_103 ?_
            exact absurd h (by simp)
          · replace h := oc_s hN14 h
            have kb14 := hT.f k0 (k := 4) (t := 12) (n := 0) rfl hN14
            refine r_get (T := TX13) (v := .ref (ad b14)) hx hb hts in13 hown hK hP k0 (by decide) rfl 4 (by decide) (hts (.fieldLink RX13 150 "StoneWalkModel" "read" "LStoneWalkModel$Island;") (List.mem_of_getElem? (i := 1) (by decide +kernel))) rfl (t := 2) rfl (by show va_rf _ = _; rw [hN14]; rfl) dX13_readTrial_103 ?_
            refine r_getN (T := TX12) (v := .int (gI z10.2 b14 4)) hx hb hts in12 hown hK hP kb14 (by decide) rfl 4 (by decide) (hG.2.2.1 _ (List.mem_of_getElem? (i := 22) rfl)) rfl (t := 0) rfl rfl dX13_readTrial_106 ?_
            refine lv_iload_n hx hb dX13_readTrial_109 rfl (lv_at hl 4 rfl) ?_
            obtain ⟨hn15, h⟩ := chk_some h
            refine r_iast hx hb hK hP hD hT hS kb13 hn15 dX13_readTrial_110 (fun H locs hP hD hT hS => ?_)
            refine lv_aload_n hx hb dX13_readTrial_111 rfl (lv_at hl 5 rfl) ?_
            rcases hN16 : gR (pI z10.2 b13 (ix (gI z10.2 b14 4)) z6.1) a0 4 with _ | b16
            · replace h := oc_n hN16 h
              refine r_get (T := TX13) (v := .null) hx hb hts in13 hown hK hP k0 (by decide) rfl 4 (by decide) (hts (.fieldLink RX13 150 "StoneWalkModel" "read" "LStoneWalkModel$Island;") (List.mem_of_getElem? (i := 1) (by decide +kernel))) rfl (t := 2) rfl (by show va_rf _ = _; rw [hN16]; rfl) dX13_readTrial_112 ?_
              exact absurd h (by simp)
            · replace h := oc_s hN16 h
              have kb16 := hT.f k0 (k := 4) (t := 12) (n := 0) rfl hN16
              refine r_get (T := TX13) (v := .ref (ad b16)) hx hb hts in13 hown hK hP k0 (by decide) rfl 4 (by decide) (hts (.fieldLink RX13 150 "StoneWalkModel" "read" "LStoneWalkModel$Island;") (List.mem_of_getElem? (i := 1) (by decide +kernel))) rfl (t := 2) rfl (by show va_rf _ = _; rw [hN16]; rfl) dX13_readTrial_112 ?_
              rcases hN17 : gR (pI z10.2 b13 (ix (gI z10.2 b14 4)) z6.1) b16 23 with _ | b17
              · exact absurd (oc_n hN17 h) (by simp)
              replace h := oc_s hN17 h
              have kb17 := hT.f kb16 (k := 23) (t := 15) (n := 5) rfl hN17
              refine r_getN (T := TX12) (v := .ref (ad b17)) hx hb hts in12 hown hK hP kb16 (by decide) rfl 23 (by decide) (hG.2.2.1 _ (List.mem_of_getElem? (i := 24) rfl)) rfl (t := 2) rfl (by show va_rf _ = _; rw [hN17]; rfl) dX13_readTrial_115 ?_
              refine lv_aload_n hx hb dX13_readTrial_118 rfl (lv_at hl 5 rfl) ?_
              rcases hN18 : gR (pI z10.2 b13 (ix (gI z10.2 b14 4)) z6.1) a0 4 with _ | b18
              · replace h := oc_n hN18 h
                refine r_get (T := TX13) (v := .null) hx hb hts in13 hown hK hP k0 (by decide) rfl 4 (by decide) (hts (.fieldLink RX13 150 "StoneWalkModel" "read" "LStoneWalkModel$Island;") (List.mem_of_getElem? (i := 1) (by decide +kernel))) rfl (t := 2) rfl (by show va_rf _ = _; rw [hN18]; rfl) dX13_readTrial_119 ?_
                exact absurd h (by simp)
              · replace h := oc_s hN18 h
                have kb18 := hT.f k0 (k := 4) (t := 12) (n := 0) rfl hN18
                refine r_get (T := TX13) (v := .ref (ad b18)) hx hb hts in13 hown hK hP k0 (by decide) rfl 4 (by decide) (hts (.fieldLink RX13 150 "StoneWalkModel" "read" "LStoneWalkModel$Island;") (List.mem_of_getElem? (i := 1) (by decide +kernel))) rfl (t := 2) rfl (by show va_rf _ = _; rw [hN18]; rfl) dX13_readTrial_119 ?_
                refine r_getN (T := TX12) (v := .int (gI (pI z10.2 b13 (ix (gI z10.2 b14 4)) z6.1) b18 4)) hx hb hts in12 hown hK hP kb18 (by decide) rfl 4 (by decide) (hG.2.2.1 _ (List.mem_of_getElem? (i := 22) rfl)) rfl (t := 0) rfl rfl dX13_readTrial_122 ?_
                refine lv_iload_n hx hb dX13_readTrial_125 rfl (lv_at hl 3 rfl) ?_
                obtain ⟨hn19, h⟩ := chk_some h
                refine r_iast hx hb hK hP hD hT hS kb17 hn19 dX13_readTrial_126 (fun H locs hP hD hT hS => ?_)
                refine lv_aload_n hx hb dX13_readTrial_127 rfl (lv_at hl 5 rfl) ?_
                rcases hN20 : gR (pI (pI z10.2 b13 (ix (gI z10.2 b14 4)) z6.1) b17 (ix (gI (pI z10.2 b13 (ix (gI z10.2 b14 4)) z6.1) b18 4)) z7.1) a0 4 with _ | b20
                · replace h := oc_n hN20 h
                  refine r_get (T := TX13) (v := .null) hx hb hts in13 hown hK hP k0 (by decide) rfl 4 (by decide) (hts (.fieldLink RX13 150 "StoneWalkModel" "read" "LStoneWalkModel$Island;") (List.mem_of_getElem? (i := 1) (by decide +kernel))) rfl (t := 2) rfl (by show va_rf _ = _; rw [hN20]; rfl) dX13_readTrial_128 ?_
                  exact absurd h (by simp)
                · replace h := oc_s hN20 h
                  have kb20 := hT.f k0 (k := 4) (t := 12) (n := 0) rfl hN20
                  refine r_get (T := TX13) (v := .ref (ad b20)) hx hb hts in13 hown hK hP k0 (by decide) rfl 4 (by decide) (hts (.fieldLink RX13 150 "StoneWalkModel" "read" "LStoneWalkModel$Island;") (List.mem_of_getElem? (i := 1) (by decide +kernel))) rfl (t := 2) rfl (by show va_rf _ = _; rw [hN20]; rfl) dX13_readTrial_128 ?_
                  rcases hN21 : gR (pI (pI z10.2 b13 (ix (gI z10.2 b14 4)) z6.1) b17 (ix (gI (pI z10.2 b13 (ix (gI z10.2 b14 4)) z6.1) b18 4)) z7.1) b20 24 with _ | b21
                  · exact absurd (oc_n hN21 h) (by simp)
                  replace h := oc_s hN21 h
                  have kb21 := hT.f kb20 (k := 24) (t := 15) (n := 5) rfl hN21
                  refine r_getN (T := TX12) (v := .ref (ad b21)) hx hb hts in12 hown hK hP kb20 (by decide) rfl 24 (by decide) (hG.2.2.1 _ (List.mem_of_getElem? (i := 25) rfl)) rfl (t := 2) rfl (by show va_rf _ = _; rw [hN21]; rfl) dX13_readTrial_131 ?_
                  refine lv_aload_n hx hb dX13_readTrial_134 rfl (lv_at hl 5 rfl) ?_
                  rcases hN22 : gR (pI (pI z10.2 b13 (ix (gI z10.2 b14 4)) z6.1) b17 (ix (gI (pI z10.2 b13 (ix (gI z10.2 b14 4)) z6.1) b18 4)) z7.1) a0 4 with _ | b22
                  · replace h := oc_n hN22 h
                    refine r_get (T := TX13) (v := .null) hx hb hts in13 hown hK hP k0 (by decide) rfl 4 (by decide) (hts (.fieldLink RX13 150 "StoneWalkModel" "read" "LStoneWalkModel$Island;") (List.mem_of_getElem? (i := 1) (by decide +kernel))) rfl (t := 2) rfl (by show va_rf _ = _; rw [hN22]; rfl) dX13_readTrial_135 ?_
                    exact absurd h (by simp)
                  · replace h := oc_s hN22 h
                    have kb22 := hT.f k0 (k := 4) (t := 12) (n := 0) rfl hN22
                    refine r_get (T := TX13) (v := .ref (ad b22)) hx hb hts in13 hown hK hP k0 (by decide) rfl 4 (by decide) (hts (.fieldLink RX13 150 "StoneWalkModel" "read" "LStoneWalkModel$Island;") (List.mem_of_getElem? (i := 1) (by decide +kernel))) rfl (t := 2) rfl (by show va_rf _ = _; rw [hN22]; rfl) dX13_readTrial_135 ?_
                    refine r_getN (T := TX12) (v := .int (gI (pI (pI z10.2 b13 (ix (gI z10.2 b14 4)) z6.1) b17 (ix (gI (pI z10.2 b13 (ix (gI z10.2 b14 4)) z6.1) b18 4)) z7.1) b22 4)) hx hb hts in12 hown hK hP kb22 (by decide) rfl 4 (by decide) (hG.2.2.1 _ (List.mem_of_getElem? (i := 22) rfl)) rfl (t := 0) rfl rfl dX13_readTrial_138 ?_
                    refine lv_iload_n hx hb dX13_readTrial_141 rfl (lv_at hl 2 rfl) ?_
                    obtain ⟨hn23, h⟩ := chk_some h
                    refine r_iast hx hb hK hP hD hT hS kb21 hn23 dX13_readTrial_142 (fun H locs hP hD hT hS => ?_)
                    refine lv_aload_n hx hb dX13_readTrial_143 rfl (lv_at hl 5 rfl) ?_
                    rcases hN24 : gR (pI (pI (pI z10.2 b13 (ix (gI z10.2 b14 4)) z6.1) b17 (ix (gI (pI z10.2 b13 (ix (gI z10.2 b14 4)) z6.1) b18 4)) z7.1) b21 (ix (gI (pI (pI z10.2 b13 (ix (gI z10.2 b14 4)) z6.1) b17 (ix (gI (pI z10.2 b13 (ix (gI z10.2 b14 4)) z6.1) b18 4)) z7.1) b22 4)) z8.1) a0 4 with _ | b24
                    · replace h := oc_n hN24 h
                      refine r_get (T := TX13) (v := .null) hx hb hts in13 hown hK hP k0 (by decide) rfl 4 (by decide) (hts (.fieldLink RX13 150 "StoneWalkModel" "read" "LStoneWalkModel$Island;") (List.mem_of_getElem? (i := 1) (by decide +kernel))) rfl (t := 2) rfl (by show va_rf _ = _; rw [hN24]; rfl) dX13_readTrial_144 ?_
                      exact absurd h (by simp)
                    · replace h := oc_s hN24 h
                      have kb24 := hT.f k0 (k := 4) (t := 12) (n := 0) rfl hN24
                      refine r_get (T := TX13) (v := .ref (ad b24)) hx hb hts in13 hown hK hP k0 (by decide) rfl 4 (by decide) (hts (.fieldLink RX13 150 "StoneWalkModel" "read" "LStoneWalkModel$Island;") (List.mem_of_getElem? (i := 1) (by decide +kernel))) rfl (t := 2) rfl (by show va_rf _ = _; rw [hN24]; rfl) dX13_readTrial_144 ?_
                      rcases hN25 : gR (pI (pI (pI z10.2 b13 (ix (gI z10.2 b14 4)) z6.1) b17 (ix (gI (pI z10.2 b13 (ix (gI z10.2 b14 4)) z6.1) b18 4)) z7.1) b21 (ix (gI (pI (pI z10.2 b13 (ix (gI z10.2 b14 4)) z6.1) b17 (ix (gI (pI z10.2 b13 (ix (gI z10.2 b14 4)) z6.1) b18 4)) z7.1) b22 4)) z8.1) b24 25 with _ | b25
                      · exact absurd (oc_n hN25 h) (by simp)
                      replace h := oc_s hN25 h
                      have kb25 := hT.f kb24 (k := 25) (t := 15) (n := 5) rfl hN25
                      refine r_getN (T := TX12) (v := .ref (ad b25)) hx hb hts in12 hown hK hP kb24 (by decide) rfl 25 (by decide) (hG.2.2.1 _ (List.mem_of_getElem? (i := 26) rfl)) rfl (t := 2) rfl (by show va_rf _ = _; rw [hN25]; rfl) dX13_readTrial_147 ?_
                      refine lv_aload_n hx hb dX13_readTrial_150 rfl (lv_at hl 5 rfl) ?_
                      rcases hN26 : gR (pI (pI (pI z10.2 b13 (ix (gI z10.2 b14 4)) z6.1) b17 (ix (gI (pI z10.2 b13 (ix (gI z10.2 b14 4)) z6.1) b18 4)) z7.1) b21 (ix (gI (pI (pI z10.2 b13 (ix (gI z10.2 b14 4)) z6.1) b17 (ix (gI (pI z10.2 b13 (ix (gI z10.2 b14 4)) z6.1) b18 4)) z7.1) b22 4)) z8.1) a0 4 with _ | b26
                      · replace h := oc_n hN26 h
                        refine r_get (T := TX13) (v := .null) hx hb hts in13 hown hK hP k0 (by decide) rfl 4 (by decide) (hts (.fieldLink RX13 150 "StoneWalkModel" "read" "LStoneWalkModel$Island;") (List.mem_of_getElem? (i := 1) (by decide +kernel))) rfl (t := 2) rfl (by show va_rf _ = _; rw [hN26]; rfl) dX13_readTrial_151 ?_
                        exact absurd h (by simp)
                      · replace h := oc_s hN26 h
                        have kb26 := hT.f k0 (k := 4) (t := 12) (n := 0) rfl hN26
                        refine r_get (T := TX13) (v := .ref (ad b26)) hx hb hts in13 hown hK hP k0 (by decide) rfl 4 (by decide) (hts (.fieldLink RX13 150 "StoneWalkModel" "read" "LStoneWalkModel$Island;") (List.mem_of_getElem? (i := 1) (by decide +kernel))) rfl (t := 2) rfl (by show va_rf _ = _; rw [hN26]; rfl) dX13_readTrial_151 ?_
                        refine r_getN (T := TX12) (v := .int (gI (pI (pI (pI z10.2 b13 (ix (gI z10.2 b14 4)) z6.1) b17 (ix (gI (pI z10.2 b13 (ix (gI z10.2 b14 4)) z6.1) b18 4)) z7.1) b21 (ix (gI (pI (pI z10.2 b13 (ix (gI z10.2 b14 4)) z6.1) b17 (ix (gI (pI z10.2 b13 (ix (gI z10.2 b14 4)) z6.1) b18 4)) z7.1) b22 4)) z8.1) b26 4)) hx hb hts in12 hown hK hP kb26 (by decide) rfl 4 (by decide) (hG.2.2.1 _ (List.mem_of_getElem? (i := 22) rfl)) rfl (t := 0) rfl rfl dX13_readTrial_154 ?_
                        refine lv_iload hx hb dX13_readTrial_157 (lv_at hl 1 rfl) ?_
                        obtain ⟨hn27, h⟩ := chk_some h
                        refine r_iast hx hb hK hP hD hT hS kb25 hn27 dX13_readTrial_159 (fun H locs hP hD hT hS => ?_)
                        refine lv_aload_n hx hb dX13_readTrial_160 rfl (lv_at hl 5 rfl) ?_
                        rcases hN28 : gR (pI (pI (pI (pI z10.2 b13 (ix (gI z10.2 b14 4)) z6.1) b17 (ix (gI (pI z10.2 b13 (ix (gI z10.2 b14 4)) z6.1) b18 4)) z7.1) b21 (ix (gI (pI (pI z10.2 b13 (ix (gI z10.2 b14 4)) z6.1) b17 (ix (gI (pI z10.2 b13 (ix (gI z10.2 b14 4)) z6.1) b18 4)) z7.1) b22 4)) z8.1) b25 (ix (gI (pI (pI (pI z10.2 b13 (ix (gI z10.2 b14 4)) z6.1) b17 (ix (gI (pI z10.2 b13 (ix (gI z10.2 b14 4)) z6.1) b18 4)) z7.1) b21 (ix (gI (pI (pI z10.2 b13 (ix (gI z10.2 b14 4)) z6.1) b17 (ix (gI (pI z10.2 b13 (ix (gI z10.2 b14 4)) z6.1) b18 4)) z7.1) b22 4)) z8.1) b26 4)) z9.1) a0 4 with _ | b28
                        · replace h := oc_n hN28 h
                          refine r_get (T := TX13) (v := .null) hx hb hts in13 hown hK hP k0 (by decide) rfl 4 (by decide) (hts (.fieldLink RX13 150 "StoneWalkModel" "read" "LStoneWalkModel$Island;") (List.mem_of_getElem? (i := 1) (by decide +kernel))) rfl (t := 2) rfl (by show va_rf _ = _; rw [hN28]; rfl) dX13_readTrial_161 ?_
                          exact absurd h (by simp)
                        · replace h := oc_s hN28 h
                          have kb28 := hT.f k0 (k := 4) (t := 12) (n := 0) rfl hN28
                          refine r_get (T := TX13) (v := .ref (ad b28)) hx hb hts in13 hown hK hP k0 (by decide) rfl 4 (by decide) (hts (.fieldLink RX13 150 "StoneWalkModel" "read" "LStoneWalkModel$Island;") (List.mem_of_getElem? (i := 1) (by decide +kernel))) rfl (t := 2) rfl (by show va_rf _ = _; rw [hN28]; rfl) dX13_readTrial_161 ?_
                          rcases hN29 : gR (pI (pI (pI (pI z10.2 b13 (ix (gI z10.2 b14 4)) z6.1) b17 (ix (gI (pI z10.2 b13 (ix (gI z10.2 b14 4)) z6.1) b18 4)) z7.1) b21 (ix (gI (pI (pI z10.2 b13 (ix (gI z10.2 b14 4)) z6.1) b17 (ix (gI (pI z10.2 b13 (ix (gI z10.2 b14 4)) z6.1) b18 4)) z7.1) b22 4)) z8.1) b25 (ix (gI (pI (pI (pI z10.2 b13 (ix (gI z10.2 b14 4)) z6.1) b17 (ix (gI (pI z10.2 b13 (ix (gI z10.2 b14 4)) z6.1) b18 4)) z7.1) b21 (ix (gI (pI (pI z10.2 b13 (ix (gI z10.2 b14 4)) z6.1) b17 (ix (gI (pI z10.2 b13 (ix (gI z10.2 b14 4)) z6.1) b18 4)) z7.1) b22 4)) z8.1) b26 4)) z9.1) b28 26 with _ | b29
                          · exact absurd (oc_n hN29 h) (by simp)
                          replace h := oc_s hN29 h
                          have kb29 := hT.f kb28 (k := 26) (t := 15) (n := 5) rfl hN29
                          refine r_getN (T := TX12) (v := .ref (ad b29)) hx hb hts in12 hown hK hP kb28 (by decide) rfl 26 (by decide) (hG.2.2.1 _ (List.mem_of_getElem? (i := 27) rfl)) rfl (t := 2) rfl (by show va_rf _ = _; rw [hN29]; rfl) dX13_readTrial_164 ?_
                          refine lv_aload_n hx hb dX13_readTrial_167 rfl (lv_at hl 5 rfl) ?_
                          rcases hN30 : gR (pI (pI (pI (pI z10.2 b13 (ix (gI z10.2 b14 4)) z6.1) b17 (ix (gI (pI z10.2 b13 (ix (gI z10.2 b14 4)) z6.1) b18 4)) z7.1) b21 (ix (gI (pI (pI z10.2 b13 (ix (gI z10.2 b14 4)) z6.1) b17 (ix (gI (pI z10.2 b13 (ix (gI z10.2 b14 4)) z6.1) b18 4)) z7.1) b22 4)) z8.1) b25 (ix (gI (pI (pI (pI z10.2 b13 (ix (gI z10.2 b14 4)) z6.1) b17 (ix (gI (pI z10.2 b13 (ix (gI z10.2 b14 4)) z6.1) b18 4)) z7.1) b21 (ix (gI (pI (pI z10.2 b13 (ix (gI z10.2 b14 4)) z6.1) b17 (ix (gI (pI z10.2 b13 (ix (gI z10.2 b14 4)) z6.1) b18 4)) z7.1) b22 4)) z8.1) b26 4)) z9.1) a0 4 with _ | b30
                          · replace h := oc_n hN30 h
                            refine r_get (T := TX13) (v := .null) hx hb hts in13 hown hK hP k0 (by decide) rfl 4 (by decide) (hts (.fieldLink RX13 150 "StoneWalkModel" "read" "LStoneWalkModel$Island;") (List.mem_of_getElem? (i := 1) (by decide +kernel))) rfl (t := 2) rfl (by show va_rf _ = _; rw [hN30]; rfl) dX13_readTrial_168 ?_
                            exact absurd h (by simp)
                          · replace h := oc_s hN30 h
                            have kb30 := hT.f k0 (k := 4) (t := 12) (n := 0) rfl hN30
                            refine r_get (T := TX13) (v := .ref (ad b30)) hx hb hts in13 hown hK hP k0 (by decide) rfl 4 (by decide) (hts (.fieldLink RX13 150 "StoneWalkModel" "read" "LStoneWalkModel$Island;") (List.mem_of_getElem? (i := 1) (by decide +kernel))) rfl (t := 2) rfl (by show va_rf _ = _; rw [hN30]; rfl) dX13_readTrial_168 ?_
                            refine r_getN (T := TX12) (v := .int (gI (pI (pI (pI (pI z10.2 b13 (ix (gI z10.2 b14 4)) z6.1) b17 (ix (gI (pI z10.2 b13 (ix (gI z10.2 b14 4)) z6.1) b18 4)) z7.1) b21 (ix (gI (pI (pI z10.2 b13 (ix (gI z10.2 b14 4)) z6.1) b17 (ix (gI (pI z10.2 b13 (ix (gI z10.2 b14 4)) z6.1) b18 4)) z7.1) b22 4)) z8.1) b25 (ix (gI (pI (pI (pI z10.2 b13 (ix (gI z10.2 b14 4)) z6.1) b17 (ix (gI (pI z10.2 b13 (ix (gI z10.2 b14 4)) z6.1) b18 4)) z7.1) b21 (ix (gI (pI (pI z10.2 b13 (ix (gI z10.2 b14 4)) z6.1) b17 (ix (gI (pI z10.2 b13 (ix (gI z10.2 b14 4)) z6.1) b18 4)) z7.1) b22 4)) z8.1) b26 4)) z9.1) b30 4)) hx hb hts in12 hown hK hP kb30 (by decide) rfl 4 (by decide) (hG.2.2.1 _ (List.mem_of_getElem? (i := 22) rfl)) rfl (t := 0) rfl rfl dX13_readTrial_171 ?_
                            refine lv_iload hx hb dX13_readTrial_174 (lv_at hl 0 rfl) ?_
                            obtain ⟨hn31, h⟩ := chk_some h
                            refine r_iast hx hb hK hP hD hT hS kb29 hn31 dX13_readTrial_176 (fun H locs hP hD hT hS => ?_)
                            refine lv_aload_n hx hb dX13_readTrial_177 rfl (lv_at hl 5 rfl) ?_
                            rcases hN32 : gR (pI (pI (pI (pI (pI z10.2 b13 (ix (gI z10.2 b14 4)) z6.1) b17 (ix (gI (pI z10.2 b13 (ix (gI z10.2 b14 4)) z6.1) b18 4)) z7.1) b21 (ix (gI (pI (pI z10.2 b13 (ix (gI z10.2 b14 4)) z6.1) b17 (ix (gI (pI z10.2 b13 (ix (gI z10.2 b14 4)) z6.1) b18 4)) z7.1) b22 4)) z8.1) b25 (ix (gI (pI (pI (pI z10.2 b13 (ix (gI z10.2 b14 4)) z6.1) b17 (ix (gI (pI z10.2 b13 (ix (gI z10.2 b14 4)) z6.1) b18 4)) z7.1) b21 (ix (gI (pI (pI z10.2 b13 (ix (gI z10.2 b14 4)) z6.1) b17 (ix (gI (pI z10.2 b13 (ix (gI z10.2 b14 4)) z6.1) b18 4)) z7.1) b22 4)) z8.1) b26 4)) z9.1) b29 (ix (gI (pI (pI (pI (pI z10.2 b13 (ix (gI z10.2 b14 4)) z6.1) b17 (ix (gI (pI z10.2 b13 (ix (gI z10.2 b14 4)) z6.1) b18 4)) z7.1) b21 (ix (gI (pI (pI z10.2 b13 (ix (gI z10.2 b14 4)) z6.1) b17 (ix (gI (pI z10.2 b13 (ix (gI z10.2 b14 4)) z6.1) b18 4)) z7.1) b22 4)) z8.1) b25 (ix (gI (pI (pI (pI z10.2 b13 (ix (gI z10.2 b14 4)) z6.1) b17 (ix (gI (pI z10.2 b13 (ix (gI z10.2 b14 4)) z6.1) b18 4)) z7.1) b21 (ix (gI (pI (pI z10.2 b13 (ix (gI z10.2 b14 4)) z6.1) b17 (ix (gI (pI z10.2 b13 (ix (gI z10.2 b14 4)) z6.1) b18 4)) z7.1) b22 4)) z8.1) b26 4)) z9.1) b30 4)) z10.1) a0 4 with _ | b32
                            · replace h := oc_n hN32 h
                              refine r_get (T := TX13) (v := .null) hx hb hts in13 hown hK hP k0 (by decide) rfl 4 (by decide) (hts (.fieldLink RX13 150 "StoneWalkModel" "read" "LStoneWalkModel$Island;") (List.mem_of_getElem? (i := 1) (by decide +kernel))) rfl (t := 2) rfl (by show va_rf _ = _; rw [hN32]; rfl) dX13_readTrial_178 ?_
                              refine lv_dup hx hb dX13_readTrial_181 rfl ?_
                              exact absurd h (by simp)
                            · replace h := oc_s hN32 h
                              have kb32 := hT.f k0 (k := 4) (t := 12) (n := 0) rfl hN32
                              refine r_get (T := TX13) (v := .ref (ad b32)) hx hb hts in13 hown hK hP k0 (by decide) rfl 4 (by decide) (hts (.fieldLink RX13 150 "StoneWalkModel" "read" "LStoneWalkModel$Island;") (List.mem_of_getElem? (i := 1) (by decide +kernel))) rfl (t := 2) rfl (by show va_rf _ = _; rw [hN32]; rfl) dX13_readTrial_178 ?_
                              refine lv_dup hx hb dX13_readTrial_181 rfl ?_
                              refine r_getN (T := TX12) (v := .int (gI (pI (pI (pI (pI (pI z10.2 b13 (ix (gI z10.2 b14 4)) z6.1) b17 (ix (gI (pI z10.2 b13 (ix (gI z10.2 b14 4)) z6.1) b18 4)) z7.1) b21 (ix (gI (pI (pI z10.2 b13 (ix (gI z10.2 b14 4)) z6.1) b17 (ix (gI (pI z10.2 b13 (ix (gI z10.2 b14 4)) z6.1) b18 4)) z7.1) b22 4)) z8.1) b25 (ix (gI (pI (pI (pI z10.2 b13 (ix (gI z10.2 b14 4)) z6.1) b17 (ix (gI (pI z10.2 b13 (ix (gI z10.2 b14 4)) z6.1) b18 4)) z7.1) b21 (ix (gI (pI (pI z10.2 b13 (ix (gI z10.2 b14 4)) z6.1) b17 (ix (gI (pI z10.2 b13 (ix (gI z10.2 b14 4)) z6.1) b18 4)) z7.1) b22 4)) z8.1) b26 4)) z9.1) b29 (ix (gI (pI (pI (pI (pI z10.2 b13 (ix (gI z10.2 b14 4)) z6.1) b17 (ix (gI (pI z10.2 b13 (ix (gI z10.2 b14 4)) z6.1) b18 4)) z7.1) b21 (ix (gI (pI (pI z10.2 b13 (ix (gI z10.2 b14 4)) z6.1) b17 (ix (gI (pI z10.2 b13 (ix (gI z10.2 b14 4)) z6.1) b18 4)) z7.1) b22 4)) z8.1) b25 (ix (gI (pI (pI (pI z10.2 b13 (ix (gI z10.2 b14 4)) z6.1) b17 (ix (gI (pI z10.2 b13 (ix (gI z10.2 b14 4)) z6.1) b18 4)) z7.1) b21 (ix (gI (pI (pI z10.2 b13 (ix (gI z10.2 b14 4)) z6.1) b17 (ix (gI (pI z10.2 b13 (ix (gI z10.2 b14 4)) z6.1) b18 4)) z7.1) b22 4)) z8.1) b26 4)) z9.1) b30 4)) z10.1) b32 4)) hx hb hts in12 hown hK hP kb32 (by decide) rfl 4 (by decide) (hG.2.2.1 _ (List.mem_of_getElem? (i := 22) rfl)) rfl (t := 0) rfl rfl dX13_readTrial_182 ?_
                              refine lv_iconst (v := 1) hx hb dX13_readTrial_185 rfl ?_
                              refine lv_iadd hx hb dX13_readTrial_186 ?_
                              refine r_putIN (T := TX12) (ty := .int) (v := (gI (pI (pI (pI (pI (pI z10.2 b13 (ix (gI z10.2 b14 4)) z6.1) b17 (ix (gI (pI z10.2 b13 (ix (gI z10.2 b14 4)) z6.1) b18 4)) z7.1) b21 (ix (gI (pI (pI z10.2 b13 (ix (gI z10.2 b14 4)) z6.1) b17 (ix (gI (pI z10.2 b13 (ix (gI z10.2 b14 4)) z6.1) b18 4)) z7.1) b22 4)) z8.1) b25 (ix (gI (pI (pI (pI z10.2 b13 (ix (gI z10.2 b14 4)) z6.1) b17 (ix (gI (pI z10.2 b13 (ix (gI z10.2 b14 4)) z6.1) b18 4)) z7.1) b21 (ix (gI (pI (pI z10.2 b13 (ix (gI z10.2 b14 4)) z6.1) b17 (ix (gI (pI z10.2 b13 (ix (gI z10.2 b14 4)) z6.1) b18 4)) z7.1) b22 4)) z8.1) b26 4)) z9.1) b29 (ix (gI (pI (pI (pI (pI z10.2 b13 (ix (gI z10.2 b14 4)) z6.1) b17 (ix (gI (pI z10.2 b13 (ix (gI z10.2 b14 4)) z6.1) b18 4)) z7.1) b21 (ix (gI (pI (pI z10.2 b13 (ix (gI z10.2 b14 4)) z6.1) b17 (ix (gI (pI z10.2 b13 (ix (gI z10.2 b14 4)) z6.1) b18 4)) z7.1) b22 4)) z8.1) b25 (ix (gI (pI (pI (pI z10.2 b13 (ix (gI z10.2 b14 4)) z6.1) b17 (ix (gI (pI z10.2 b13 (ix (gI z10.2 b14 4)) z6.1) b18 4)) z7.1) b21 (ix (gI (pI (pI z10.2 b13 (ix (gI z10.2 b14 4)) z6.1) b17 (ix (gI (pI z10.2 b13 (ix (gI z10.2 b14 4)) z6.1) b18 4)) z7.1) b22 4)) z8.1) b26 4)) z9.1) b30 4)) z10.1) b32 4) + 1) hx hb hts in12 tyX12 tyX12_ok nmX12 hown hK hP hD hT hS kb32 (by decide) rfl 4 (by decide) (hG.2.2.1 _ (List.mem_of_getElem? (i := 22) rfl)) rfl rfl (tyX12_ok 4 (by decide)) rfl rfl rfl dX13_readTrial_187 (fun H locs hP hD hT hS => ?_)
                              exact r_vret hx hb hr hlocks hP hK hD hT hG hS (Option.some.inj h) dX13_readTrial_190
      · replace h := ite_t c11 h
        exact r_vret hx hb hr hlocks hP hK hD hT hG hS (Option.some.inj h) dX13_readTrial_94
set_option maxHeartbeats 4000000 in
set_option maxRecDepth 100000 in
theorem c_X13_readLand {l : Launch} {D : va_G} {ad : Nat → Nat} {cy : Nat → ClassId} {A : Nat → Prop} {g : CG} {q : SE} (M : MM) (a0 : Nat) (k0 : ok g a0 13 0) {Z : MM} (h : f_X13_readLand M a0 = some Z) : Met l yX13_readLand wsX13_readLand ({ frames := 8, cells := 0, slots := 0, locals := 173 }) (va_Pc [.ref (ad a0)] (Wd D ad cy A g q M)) (va_Qv (fun u => u = Z) (Wd D ad cy A g q) A) 0 0 A := by
  refine Met.ofW (cc := cX13_readLand) (maxL := 2) (ret := none) (by decide) rfl ?_
  intro p e s m args below meth c s₁ B hml hv
  obtain ⟨rfl, hP, hK, hD, hT, hG⟩ := hv
  have hx := B.exec
  have hb := B.bytes
  have hr := B.returns
  have hts := atoms_spec (ws := wsX13_readLand) B.pre
  have hown : s.vm.findClass RX13 = some m.cls := findClass_of_methodNamed B.named
  have hlocks := B.notSynchronized
  have in12 : ∀ w ∈ u_ws RX12 TX12 48, w ∈ wsX13_readLand := fun w h => List.mem_cons_of_mem _ (List.mem_append_right _ h)
  have in13 : ∀ w ∈ u_ws RX13 TX13 29, w ∈ wsX13_readLand := fun w h => List.mem_cons_of_mem _ (List.mem_append_left _ (List.mem_append_right _ h))
  have hS : va_S A s.heap s.heap [] := va_S.rf
  have hl := lv_entry ([.ref (ad a0)]) (n := 2) (Nat.le_of_ble_eq_true rfl)
  rw [lg_entry_eq]
  generalize (lg_sl ([.ref (ad a0)]) ++ List.replicate (2 - (lg_sl ([.ref (ad a0)])).length) Slot.unset).toArray = ls at hl ⊢
  have hl : lv_has ls 2 [(0, .ref (ad a0))] := hl
  unfold f_X13_readLand at h
  refine lv_aload_n hx hb dX13_readLand_0 rfl (lv_at hl 0 rfl) ?_
  rcases hN1 : gR M a0 4 with _ | b1
  · replace h := oc_n hN1 h
    refine r_get (T := TX13) (v := .null) hx hb hts in13 hown hK hP k0 (by decide) rfl 4 (by decide) (hts (.fieldLink RX13 150 "StoneWalkModel" "read" "LStoneWalkModel$Island;") (List.mem_of_getElem? (i := 1) (by decide +kernel))) rfl (t := 2) rfl (by show va_rf _ = _; rw [hN1]; rfl) dX13_readLand_1 ?_
    exact absurd h (by simp)
  · replace h := oc_s hN1 h
    have kb1 := hT.f k0 (k := 4) (t := 12) (n := 0) rfl hN1
    refine r_get (T := TX13) (v := .ref (ad b1)) hx hb hts in13 hown hK hP k0 (by decide) rfl 4 (by decide) (hts (.fieldLink RX13 150 "StoneWalkModel" "read" "LStoneWalkModel$Island;") (List.mem_of_getElem? (i := 1) (by decide +kernel))) rfl (t := 2) rfl (by show va_rf _ = _; rw [hN1]; rfl) dX13_readLand_1 ?_
    refine r_getN (T := TX12) (v := .int (gI M b1 27)) hx hb hts in12 hown hK hP kb1 (by decide) rfl 27 (by decide) (hG.2.2.1 _ (List.mem_of_getElem? (i := 28) rfl)) rfl (t := 0) rfl rfl dX13_readLand_4 ?_
    refine lv_iconst (v := (-1)) hx hb dX13_readLand_7 rfl ?_
    refine lv_icmp_eq (tgt := 16) hx hb dX13_readLand_8 rfl (fun c2 => ?_) (fun c2 => ?_)
    · replace h := ite_t c2 h
      refine lv_aload_n hx hb dX13_readLand_16 rfl (lv_at hl 0 rfl) ?_
      obtain ⟨z3, h3, h⟩ := ob_some h
      refine k_v (va_runV (As := []) (rest := []) ⟨hx, hb, hml, hown, hts⟩ (c_X13_goesOn (l := l) M a0 k0 h3) (cwV 0 hts gX13_readLand_X13_goesOn rfl rfl rfl hdV_X13_goesOn ⟨Nat.le_of_ble_eq_true rfl, Nat.le_of_ble_eq_true rfl⟩) (pV (T := TX13) hP hK hD hT hG hS k0 (by decide) rfl) rfl rfl hl.1 rfl (lv_room (Nat.le_of_ble_eq_true rfl)) dX13_readLand_17 ⟨Nat.zero_le _, Nat.zero_le _⟩) hS (fun H locs hP hD hT hS => ?_)
      refine lv_aload_n hx hb dX13_readLand_20 rfl (lv_at hl 0 rfl) ?_
      refine r_ldcSw (tx := "trees") (i := 24) hx hb hG hown (by decide +kernel) dX13_readLand_21 ?_
      refine lv_iconst (v := 0) hx hb dX13_readLand_24 rfl ?_
      refine lv_sipush (v := 999) hx hb dX13_readLand_25 rfl ?_
      obtain ⟨z4, h4, h⟩ := ob_some h
      refine k_i (va_runV (As := [.ref (q.2.1 24), .int 0, .int 999]) (rest := []) ⟨hx, hb, hml, hown, hts⟩ (c_X13_readPart (l := l) z3 a0 24 0 999 k0 (by decide) h4) (cwV 3 hts gX13_readLand_X13_readPart rfl rfl rfl hdV_X13_readPart ⟨Nat.le_of_ble_eq_true rfl, Nat.le_of_ble_eq_true rfl⟩) (pV (T := TX13) hP hK hD hT hG hS k0 (by decide) rfl) rfl rfl hl.1 rfl (lv_room (Nat.le_of_ble_eq_true rfl)) dX13_readLand_28 ⟨Nat.zero_le _, Nat.zero_le _⟩) hS (fun H locs hP hD hT hS => ?_)
      refine lv_istore_n (lv' := [(1, .int z4.1), (0, .ref (ad a0))]) hx hb dX13_readLand_31 rfl hl (by decide) rfl (fun ls hl => ?_)
      refine lv_aload_n hx hb dX13_readLand_32 rfl (lv_at hl 1 rfl) ?_
      rcases hN5 : gR z4.2 a0 4 with _ | b5
      · replace h := oc_n hN5 h
        refine r_get (T := TX13) (v := .null) hx hb hts in13 hown hK hP k0 (by decide) rfl 4 (by decide) (hts (.fieldLink RX13 150 "StoneWalkModel" "read" "LStoneWalkModel$Island;") (List.mem_of_getElem? (i := 1) (by decide +kernel))) rfl (t := 2) rfl (by show va_rf _ = _; rw [hN5]; rfl) dX13_readLand_33 ?_
        refine lv_aload_n hx hb dX13_readLand_36 rfl (lv_at hl 1 rfl) ?_
        refine r_ldcSw (tx := "grows") (i := 25) hx hb hG hown (by decide +kernel) dX13_readLand_37 ?_
        refine lv_iconst (v := 0) hx hb dX13_readLand_40 rfl ?_
        refine lv_bipush (v := 50) hx hb dX13_readLand_41 rfl ?_
        obtain ⟨z6, h6, h⟩ := ob_some h
        refine k_i (va_runV (As := [.ref (q.2.1 25), .int 0, .int 50]) (rest := [.null]) ⟨hx, hb, hml, hown, hts⟩ (c_X13_readPart (l := l) z4.2 a0 25 0 50 k0 (by decide) h6) (cwV 3 hts gX13_readLand_X13_readPart rfl rfl rfl hdV_X13_readPart ⟨Nat.le_of_ble_eq_true rfl, Nat.le_of_ble_eq_true rfl⟩) (pV (T := TX13) hP hK hD hT hG hS k0 (by decide) rfl) rfl rfl hl.1 rfl (lv_room (Nat.le_of_ble_eq_true rfl)) dX13_readLand_43 ⟨Nat.zero_le _, Nat.zero_le _⟩) hS (fun H locs hP hD hT hS => ?_)
        exact absurd h (by simp)
      · replace h := oc_s hN5 h
        have kb5 := hT.f k0 (k := 4) (t := 12) (n := 0) rfl hN5
        refine r_get (T := TX13) (v := .ref (ad b5)) hx hb hts in13 hown hK hP k0 (by decide) rfl 4 (by decide) (hts (.fieldLink RX13 150 "StoneWalkModel" "read" "LStoneWalkModel$Island;") (List.mem_of_getElem? (i := 1) (by decide +kernel))) rfl (t := 2) rfl (by show va_rf _ = _; rw [hN5]; rfl) dX13_readLand_33 ?_
        refine lv_aload_n hx hb dX13_readLand_36 rfl (lv_at hl 1 rfl) ?_
        refine r_ldcSw (tx := "grows") (i := 25) hx hb hG hown (by decide +kernel) dX13_readLand_37 ?_
        refine lv_iconst (v := 0) hx hb dX13_readLand_40 rfl ?_
        refine lv_bipush (v := 50) hx hb dX13_readLand_41 rfl ?_
        obtain ⟨z7, h7, h⟩ := ob_some h
        refine k_i (va_runV (As := [.ref (q.2.1 25), .int 0, .int 50]) (rest := [.ref (ad b5)]) ⟨hx, hb, hml, hown, hts⟩ (c_X13_readPart (l := l) z4.2 a0 25 0 50 k0 (by decide) h7) (cwV 3 hts gX13_readLand_X13_readPart rfl rfl rfl hdV_X13_readPart ⟨Nat.le_of_ble_eq_true rfl, Nat.le_of_ble_eq_true rfl⟩) (pV (T := TX13) hP hK hD hT hG hS k0 (by decide) rfl) rfl rfl hl.1 rfl (lv_room (Nat.le_of_ble_eq_true rfl)) dX13_readLand_43 ⟨Nat.zero_le _, Nat.zero_le _⟩) hS (fun H locs hP hD hT hS => ?_)
        refine r_putIN (T := TX12) (ty := .int) (v := z7.1) hx hb hts in12 tyX12 tyX12_ok nmX12 hown hK hP hD hT hS kb5 (by decide) rfl 28 (by decide) (hG.2.2.1 _ (List.mem_of_getElem? (i := 29) rfl)) rfl rfl (tyX12_ok 28 (by decide)) rfl rfl rfl dX13_readLand_46 (fun H locs hP hD hT hS => ?_)
        refine lv_aload_n hx hb dX13_readLand_49 rfl (lv_at hl 1 rfl) ?_
        rcases hN8 : gR (pI z7.2 b5 28 z7.1) a0 4 with _ | b8
        · replace h := oc_n hN8 h
          refine r_get (T := TX13) (v := .null) hx hb hts in13 hown hK hP k0 (by decide) rfl 4 (by decide) (hts (.fieldLink RX13 150 "StoneWalkModel" "read" "LStoneWalkModel$Island;") (List.mem_of_getElem? (i := 1) (by decide +kernel))) rfl (t := 2) rfl (by show va_rf _ = _; rw [hN8]; rfl) dX13_readLand_50 ?_
          refine lv_aload_n hx hb dX13_readLand_53 rfl (lv_at hl 1 rfl) ?_
          refine r_ldcSw (tx := "people") (i := 16) hx hb hG hown (by decide +kernel) dX13_readLand_54 ?_
          refine lv_iconst (v := 0) hx hb dX13_readLand_57 rfl ?_
          refine lv_sipush (v := 999) hx hb dX13_readLand_58 rfl ?_
          obtain ⟨z9, h9, h⟩ := ob_some h
          refine k_i (va_runV (As := [.ref (q.2.1 16), .int 0, .int 999]) (rest := [.null]) ⟨hx, hb, hml, hown, hts⟩ (c_X13_readPart (l := l) (pI z7.2 b5 28 z7.1) a0 16 0 999 k0 (by decide) h9) (cwV 3 hts gX13_readLand_X13_readPart rfl rfl rfl hdV_X13_readPart ⟨Nat.le_of_ble_eq_true rfl, Nat.le_of_ble_eq_true rfl⟩) (pV (T := TX13) hP hK hD hT hG hS k0 (by decide) rfl) rfl rfl hl.1 rfl (lv_room (Nat.le_of_ble_eq_true rfl)) dX13_readLand_61 ⟨Nat.zero_le _, Nat.zero_le _⟩) hS (fun H locs hP hD hT hS => ?_)
          exact absurd h (by simp)
        · replace h := oc_s hN8 h
          have kb8 := hT.f k0 (k := 4) (t := 12) (n := 0) rfl hN8
          refine r_get (T := TX13) (v := .ref (ad b8)) hx hb hts in13 hown hK hP k0 (by decide) rfl 4 (by decide) (hts (.fieldLink RX13 150 "StoneWalkModel" "read" "LStoneWalkModel$Island;") (List.mem_of_getElem? (i := 1) (by decide +kernel))) rfl (t := 2) rfl (by show va_rf _ = _; rw [hN8]; rfl) dX13_readLand_50 ?_
          refine lv_aload_n hx hb dX13_readLand_53 rfl (lv_at hl 1 rfl) ?_
          refine r_ldcSw (tx := "people") (i := 16) hx hb hG hown (by decide +kernel) dX13_readLand_54 ?_
          refine lv_iconst (v := 0) hx hb dX13_readLand_57 rfl ?_
          refine lv_sipush (v := 999) hx hb dX13_readLand_58 rfl ?_
          obtain ⟨z10, h10, h⟩ := ob_some h
          refine k_i (va_runV (As := [.ref (q.2.1 16), .int 0, .int 999]) (rest := [.ref (ad b8)]) ⟨hx, hb, hml, hown, hts⟩ (c_X13_readPart (l := l) (pI z7.2 b5 28 z7.1) a0 16 0 999 k0 (by decide) h10) (cwV 3 hts gX13_readLand_X13_readPart rfl rfl rfl hdV_X13_readPart ⟨Nat.le_of_ble_eq_true rfl, Nat.le_of_ble_eq_true rfl⟩) (pV (T := TX13) hP hK hD hT hG hS k0 (by decide) rfl) rfl rfl hl.1 rfl (lv_room (Nat.le_of_ble_eq_true rfl)) dX13_readLand_61 ⟨Nat.zero_le _, Nat.zero_le _⟩) hS (fun H locs hP hD hT hS => ?_)
          refine r_putIN (T := TX12) (ty := .int) (v := z10.1) hx hb hts in12 tyX12 tyX12_ok nmX12 hown hK hP hD hT hS kb8 (by decide) rfl 29 (by decide) (hG.2.2.1 _ (List.mem_of_getElem? (i := 30) rfl)) rfl rfl (tyX12_ok 29 (by decide)) rfl rfl rfl dX13_readLand_64 (fun H locs hP hD hT hS => ?_)
          refine lv_aload_n hx hb dX13_readLand_67 rfl (lv_at hl 1 rfl) ?_
          refine r_get (T := TX13) (v := .int (gI (pI z10.2 b8 29 z10.1) a0 9)) hx hb hts in13 hown hK hP k0 (by decide) rfl 9 (by decide) (hts (.fieldLink RX13 58 "StoneWalkModel" "sort" "I") (List.mem_of_getElem? (i := 2) (by decide +kernel))) rfl (t := 0) rfl rfl dX13_readLand_68 ?_
          refine lv_iconst (v := 5) hx hb dX13_readLand_71 rfl ?_
          refine lv_icmp_eq (tgt := 83) hx hb dX13_readLand_72 rfl (fun c11 => ?_) (fun c11 => ?_)
          · replace h := ite_t c11 h
            exact r_vret hx hb hr hlocks hP hK hD hT hG hS (Option.some.inj h) dX13_readLand_83
          · replace h := ite_f c11 h
            refine lv_aload_n hx hb dX13_readLand_75 rfl (lv_at hl 1 rfl) ?_
            rcases hN12 : gR (pI z10.2 b8 29 z10.1) a0 4 with _ | b12
            · replace h := oc_n hN12 h
              refine r_get (T := TX13) (v := .null) hx hb hts in13 hown hK hP k0 (by decide) rfl 4 (by decide) (hts (.fieldLink RX13 150 "StoneWalkModel" "read" "LStoneWalkModel$Island;") (List.mem_of_getElem? (i := 1) (by decide +kernel))) rfl (t := 2) rfl (by show va_rf _ = _; rw [hN12]; rfl) dX13_readLand_76 ?_
              refine lv_iload_n hx hb dX13_readLand_79 rfl (lv_at hl 0 rfl) ?_
              exact absurd h (by simp)
            · replace h := oc_s hN12 h
              have kb12 := hT.f k0 (k := 4) (t := 12) (n := 0) rfl hN12
              refine r_get (T := TX13) (v := .ref (ad b12)) hx hb hts in13 hown hK hP k0 (by decide) rfl 4 (by decide) (hts (.fieldLink RX13 150 "StoneWalkModel" "read" "LStoneWalkModel$Island;") (List.mem_of_getElem? (i := 1) (by decide +kernel))) rfl (t := 2) rfl (by show va_rf _ = _; rw [hN12]; rfl) dX13_readLand_76 ?_
              refine lv_iload_n hx hb dX13_readLand_79 rfl (lv_at hl 0 rfl) ?_
              refine r_putIN (T := TX12) (ty := .int) (v := z4.1) hx hb hts in12 tyX12 tyX12_ok nmX12 hown hK hP hD hT hS kb12 (by decide) rfl 27 (by decide) (hG.2.2.1 _ (List.mem_of_getElem? (i := 28) rfl)) rfl rfl (tyX12_ok 27 (by decide)) rfl rfl rfl dX13_readLand_80 (fun H locs hP hD hT hS => ?_)
              exact r_vret hx hb hr hlocks hP hK hD hT hG hS (Option.some.inj h) dX13_readLand_83
    · replace h := ite_f c2 h
      refine lv_aload_n hx hb dX13_readLand_11 rfl (lv_at hl 0 rfl) ?_
      refine lv_iconst (v := 3) hx hb dX13_readLand_12 rfl ?_
      obtain ⟨z13, h13, h⟩ := ob_some h
      refine k_v (va_runV (As := [.int 3]) (rest := []) ⟨hx, hb, hml, hown, hts⟩ (c_X13_wrong (l := l) M a0 3 k0 h13) (cwV 1 hts gX13_readLand_X13_wrong rfl rfl rfl hdV_X13_wrong ⟨Nat.le_of_ble_eq_true rfl, Nat.le_of_ble_eq_true rfl⟩) (pV (T := TX13) hP hK hD hT hG hS k0 (by decide) rfl) rfl rfl hl.1 rfl (lv_room (Nat.le_of_ble_eq_true rfl)) dX13_readLand_13 ⟨Nat.zero_le _, Nat.zero_le _⟩) hS (fun H locs hP hD hT hS => ?_)
      refine lv_aload_n hx hb dX13_readLand_16 rfl (lv_at hl 0 rfl) ?_
      obtain ⟨z14, h14, h⟩ := ob_some h
      refine k_v (va_runV (As := []) (rest := []) ⟨hx, hb, hml, hown, hts⟩ (c_X13_goesOn (l := l) z13 a0 k0 h14) (cwV 0 hts gX13_readLand_X13_goesOn rfl rfl rfl hdV_X13_goesOn ⟨Nat.le_of_ble_eq_true rfl, Nat.le_of_ble_eq_true rfl⟩) (pV (T := TX13) hP hK hD hT hG hS k0 (by decide) rfl) rfl rfl hl.1 rfl (lv_room (Nat.le_of_ble_eq_true rfl)) dX13_readLand_17 ⟨Nat.zero_le _, Nat.zero_le _⟩) hS (fun H locs hP hD hT hS => ?_)
      refine lv_aload_n hx hb dX13_readLand_20 rfl (lv_at hl 0 rfl) ?_
      refine r_ldcSw (tx := "trees") (i := 24) hx hb hG hown (by decide +kernel) dX13_readLand_21 ?_
      refine lv_iconst (v := 0) hx hb dX13_readLand_24 rfl ?_
      refine lv_sipush (v := 999) hx hb dX13_readLand_25 rfl ?_
      obtain ⟨z15, h15, h⟩ := ob_some h
      refine k_i (va_runV (As := [.ref (q.2.1 24), .int 0, .int 999]) (rest := []) ⟨hx, hb, hml, hown, hts⟩ (c_X13_readPart (l := l) z14 a0 24 0 999 k0 (by decide) h15) (cwV 3 hts gX13_readLand_X13_readPart rfl rfl rfl hdV_X13_readPart ⟨Nat.le_of_ble_eq_true rfl, Nat.le_of_ble_eq_true rfl⟩) (pV (T := TX13) hP hK hD hT hG hS k0 (by decide) rfl) rfl rfl hl.1 rfl (lv_room (Nat.le_of_ble_eq_true rfl)) dX13_readLand_28 ⟨Nat.zero_le _, Nat.zero_le _⟩) hS (fun H locs hP hD hT hS => ?_)
      refine lv_istore_n (lv' := [(1, .int z15.1), (0, .ref (ad a0))]) hx hb dX13_readLand_31 rfl hl (by decide) rfl (fun ls hl => ?_)
      refine lv_aload_n hx hb dX13_readLand_32 rfl (lv_at hl 1 rfl) ?_
      rcases hN16 : gR z15.2 a0 4 with _ | b16
      · replace h := oc_n hN16 h
        refine r_get (T := TX13) (v := .null) hx hb hts in13 hown hK hP k0 (by decide) rfl 4 (by decide) (hts (.fieldLink RX13 150 "StoneWalkModel" "read" "LStoneWalkModel$Island;") (List.mem_of_getElem? (i := 1) (by decide +kernel))) rfl (t := 2) rfl (by show va_rf _ = _; rw [hN16]; rfl) dX13_readLand_33 ?_
        refine lv_aload_n hx hb dX13_readLand_36 rfl (lv_at hl 1 rfl) ?_
        refine r_ldcSw (tx := "grows") (i := 25) hx hb hG hown (by decide +kernel) dX13_readLand_37 ?_
        refine lv_iconst (v := 0) hx hb dX13_readLand_40 rfl ?_
        refine lv_bipush (v := 50) hx hb dX13_readLand_41 rfl ?_
        obtain ⟨z17, h17, h⟩ := ob_some h
        refine k_i (va_runV (As := [.ref (q.2.1 25), .int 0, .int 50]) (rest := [.null]) ⟨hx, hb, hml, hown, hts⟩ (c_X13_readPart (l := l) z15.2 a0 25 0 50 k0 (by decide) h17) (cwV 3 hts gX13_readLand_X13_readPart rfl rfl rfl hdV_X13_readPart ⟨Nat.le_of_ble_eq_true rfl, Nat.le_of_ble_eq_true rfl⟩) (pV (T := TX13) hP hK hD hT hG hS k0 (by decide) rfl) rfl rfl hl.1 rfl (lv_room (Nat.le_of_ble_eq_true rfl)) dX13_readLand_43 ⟨Nat.zero_le _, Nat.zero_le _⟩) hS (fun H locs hP hD hT hS => ?_)
        exact absurd h (by simp)
      · replace h := oc_s hN16 h
        have kb16 := hT.f k0 (k := 4) (t := 12) (n := 0) rfl hN16
        refine r_get (T := TX13) (v := .ref (ad b16)) hx hb hts in13 hown hK hP k0 (by decide) rfl 4 (by decide) (hts (.fieldLink RX13 150 "StoneWalkModel" "read" "LStoneWalkModel$Island;") (List.mem_of_getElem? (i := 1) (by decide +kernel))) rfl (t := 2) rfl (by show va_rf _ = _; rw [hN16]; rfl) dX13_readLand_33 ?_
        refine lv_aload_n hx hb dX13_readLand_36 rfl (lv_at hl 1 rfl) ?_
        refine r_ldcSw (tx := "grows") (i := 25) hx hb hG hown (by decide +kernel) dX13_readLand_37 ?_
        refine lv_iconst (v := 0) hx hb dX13_readLand_40 rfl ?_
        refine lv_bipush (v := 50) hx hb dX13_readLand_41 rfl ?_
        obtain ⟨z18, h18, h⟩ := ob_some h
        refine k_i (va_runV (As := [.ref (q.2.1 25), .int 0, .int 50]) (rest := [.ref (ad b16)]) ⟨hx, hb, hml, hown, hts⟩ (c_X13_readPart (l := l) z15.2 a0 25 0 50 k0 (by decide) h18) (cwV 3 hts gX13_readLand_X13_readPart rfl rfl rfl hdV_X13_readPart ⟨Nat.le_of_ble_eq_true rfl, Nat.le_of_ble_eq_true rfl⟩) (pV (T := TX13) hP hK hD hT hG hS k0 (by decide) rfl) rfl rfl hl.1 rfl (lv_room (Nat.le_of_ble_eq_true rfl)) dX13_readLand_43 ⟨Nat.zero_le _, Nat.zero_le _⟩) hS (fun H locs hP hD hT hS => ?_)
        refine r_putIN (T := TX12) (ty := .int) (v := z18.1) hx hb hts in12 tyX12 tyX12_ok nmX12 hown hK hP hD hT hS kb16 (by decide) rfl 28 (by decide) (hG.2.2.1 _ (List.mem_of_getElem? (i := 29) rfl)) rfl rfl (tyX12_ok 28 (by decide)) rfl rfl rfl dX13_readLand_46 (fun H locs hP hD hT hS => ?_)
        refine lv_aload_n hx hb dX13_readLand_49 rfl (lv_at hl 1 rfl) ?_
        rcases hN19 : gR (pI z18.2 b16 28 z18.1) a0 4 with _ | b19
        · replace h := oc_n hN19 h
          refine r_get (T := TX13) (v := .null) hx hb hts in13 hown hK hP k0 (by decide) rfl 4 (by decide) (hts (.fieldLink RX13 150 "StoneWalkModel" "read" "LStoneWalkModel$Island;") (List.mem_of_getElem? (i := 1) (by decide +kernel))) rfl (t := 2) rfl (by show va_rf _ = _; rw [hN19]; rfl) dX13_readLand_50 ?_
          refine lv_aload_n hx hb dX13_readLand_53 rfl (lv_at hl 1 rfl) ?_
          refine r_ldcSw (tx := "people") (i := 16) hx hb hG hown (by decide +kernel) dX13_readLand_54 ?_
          refine lv_iconst (v := 0) hx hb dX13_readLand_57 rfl ?_
          refine lv_sipush (v := 999) hx hb dX13_readLand_58 rfl ?_
          obtain ⟨z20, h20, h⟩ := ob_some h
          refine k_i (va_runV (As := [.ref (q.2.1 16), .int 0, .int 999]) (rest := [.null]) ⟨hx, hb, hml, hown, hts⟩ (c_X13_readPart (l := l) (pI z18.2 b16 28 z18.1) a0 16 0 999 k0 (by decide) h20) (cwV 3 hts gX13_readLand_X13_readPart rfl rfl rfl hdV_X13_readPart ⟨Nat.le_of_ble_eq_true rfl, Nat.le_of_ble_eq_true rfl⟩) (pV (T := TX13) hP hK hD hT hG hS k0 (by decide) rfl) rfl rfl hl.1 rfl (lv_room (Nat.le_of_ble_eq_true rfl)) dX13_readLand_61 ⟨Nat.zero_le _, Nat.zero_le _⟩) hS (fun H locs hP hD hT hS => ?_)
          exact absurd h (by simp)
        · replace h := oc_s hN19 h
          have kb19 := hT.f k0 (k := 4) (t := 12) (n := 0) rfl hN19
          refine r_get (T := TX13) (v := .ref (ad b19)) hx hb hts in13 hown hK hP k0 (by decide) rfl 4 (by decide) (hts (.fieldLink RX13 150 "StoneWalkModel" "read" "LStoneWalkModel$Island;") (List.mem_of_getElem? (i := 1) (by decide +kernel))) rfl (t := 2) rfl (by show va_rf _ = _; rw [hN19]; rfl) dX13_readLand_50 ?_
          refine lv_aload_n hx hb dX13_readLand_53 rfl (lv_at hl 1 rfl) ?_
          refine r_ldcSw (tx := "people") (i := 16) hx hb hG hown (by decide +kernel) dX13_readLand_54 ?_
          refine lv_iconst (v := 0) hx hb dX13_readLand_57 rfl ?_
          refine lv_sipush (v := 999) hx hb dX13_readLand_58 rfl ?_
          obtain ⟨z21, h21, h⟩ := ob_some h
          refine k_i (va_runV (As := [.ref (q.2.1 16), .int 0, .int 999]) (rest := [.ref (ad b19)]) ⟨hx, hb, hml, hown, hts⟩ (c_X13_readPart (l := l) (pI z18.2 b16 28 z18.1) a0 16 0 999 k0 (by decide) h21) (cwV 3 hts gX13_readLand_X13_readPart rfl rfl rfl hdV_X13_readPart ⟨Nat.le_of_ble_eq_true rfl, Nat.le_of_ble_eq_true rfl⟩) (pV (T := TX13) hP hK hD hT hG hS k0 (by decide) rfl) rfl rfl hl.1 rfl (lv_room (Nat.le_of_ble_eq_true rfl)) dX13_readLand_61 ⟨Nat.zero_le _, Nat.zero_le _⟩) hS (fun H locs hP hD hT hS => ?_)
          refine r_putIN (T := TX12) (ty := .int) (v := z21.1) hx hb hts in12 tyX12 tyX12_ok nmX12 hown hK hP hD hT hS kb19 (by decide) rfl 29 (by decide) (hG.2.2.1 _ (List.mem_of_getElem? (i := 30) rfl)) rfl rfl (tyX12_ok 29 (by decide)) rfl rfl rfl dX13_readLand_64 (fun H locs hP hD hT hS => ?_)
          refine lv_aload_n hx hb dX13_readLand_67 rfl (lv_at hl 1 rfl) ?_
          refine r_get (T := TX13) (v := .int (gI (pI z21.2 b19 29 z21.1) a0 9)) hx hb hts in13 hown hK hP k0 (by decide) rfl 9 (by decide) (hts (.fieldLink RX13 58 "StoneWalkModel" "sort" "I") (List.mem_of_getElem? (i := 2) (by decide +kernel))) rfl (t := 0) rfl rfl dX13_readLand_68 ?_
          refine lv_iconst (v := 5) hx hb dX13_readLand_71 rfl ?_
          refine lv_icmp_eq (tgt := 83) hx hb dX13_readLand_72 rfl (fun c22 => ?_) (fun c22 => ?_)
          · replace h := ite_t c22 h
            exact r_vret hx hb hr hlocks hP hK hD hT hG hS (Option.some.inj h) dX13_readLand_83
          · replace h := ite_f c22 h
            refine lv_aload_n hx hb dX13_readLand_75 rfl (lv_at hl 1 rfl) ?_
            rcases hN23 : gR (pI z21.2 b19 29 z21.1) a0 4 with _ | b23
            · replace h := oc_n hN23 h
              refine r_get (T := TX13) (v := .null) hx hb hts in13 hown hK hP k0 (by decide) rfl 4 (by decide) (hts (.fieldLink RX13 150 "StoneWalkModel" "read" "LStoneWalkModel$Island;") (List.mem_of_getElem? (i := 1) (by decide +kernel))) rfl (t := 2) rfl (by show va_rf _ = _; rw [hN23]; rfl) dX13_readLand_76 ?_
              refine lv_iload_n hx hb dX13_readLand_79 rfl (lv_at hl 0 rfl) ?_
              exact absurd h (by simp)
            · replace h := oc_s hN23 h
              have kb23 := hT.f k0 (k := 4) (t := 12) (n := 0) rfl hN23
              refine r_get (T := TX13) (v := .ref (ad b23)) hx hb hts in13 hown hK hP k0 (by decide) rfl 4 (by decide) (hts (.fieldLink RX13 150 "StoneWalkModel" "read" "LStoneWalkModel$Island;") (List.mem_of_getElem? (i := 1) (by decide +kernel))) rfl (t := 2) rfl (by show va_rf _ = _; rw [hN23]; rfl) dX13_readLand_76 ?_
              refine lv_iload_n hx hb dX13_readLand_79 rfl (lv_at hl 0 rfl) ?_
              refine r_putIN (T := TX12) (ty := .int) (v := z15.1) hx hb hts in12 tyX12 tyX12_ok nmX12 hown hK hP hD hT hS kb23 (by decide) rfl 27 (by decide) (hG.2.2.1 _ (List.mem_of_getElem? (i := 28) rfl)) rfl rfl (tyX12_ok 27 (by decide)) rfl rfl rfl dX13_readLand_80 (fun H locs hP hD hT hS => ?_)
              exact r_vret hx hb hr hlocks hP hK hD hT hG hS (Option.some.inj h) dX13_readLand_83
set_option maxHeartbeats 4000000 in
set_option maxRecDepth 100000 in
theorem c_X13_readFields {l : Launch} {D : va_G} {ad : Nat → Nat} {cy : Nat → ClassId} {A : Nat → Prop} {g : CG} {q : SE} (M : MM) (a0 : Nat) (k0 : ok g a0 13 0) {Z : MM} (h : f_X13_readFields M a0 = some Z) : Met l yX13_readFields wsX13_readFields ({ frames := 8, cells := 0, slots := 0, locals := 173 }) (va_Pc [.ref (ad a0)] (Wd D ad cy A g q M)) (va_Qv (fun u => u = Z) (Wd D ad cy A g q) A) 0 0 A := by
  refine Met.ofW (cc := cX13_readFields) (maxL := 2) (ret := none) (by decide) rfl ?_
  intro p e s m args below meth c s₁ B hml hv
  obtain ⟨rfl, hP, hK, hD, hT, hG⟩ := hv
  have hx := B.exec
  have hb := B.bytes
  have hr := B.returns
  have hts := atoms_spec (ws := wsX13_readFields) B.pre
  have hown : s.vm.findClass RX13 = some m.cls := findClass_of_methodNamed B.named
  have hlocks := B.notSynchronized
  have in12 : ∀ w ∈ u_ws RX12 TX12 48, w ∈ wsX13_readFields := fun w h => List.mem_cons_of_mem _ (List.mem_append_right _ h)
  have in13 : ∀ w ∈ u_ws RX13 TX13 29, w ∈ wsX13_readFields := fun w h => List.mem_cons_of_mem _ (List.mem_append_left _ (List.mem_append_right _ h))
  have hS : va_S A s.heap s.heap [] := va_S.rf
  have hl := lv_entry ([.ref (ad a0)]) (n := 2) (Nat.le_of_ble_eq_true rfl)
  rw [lg_entry_eq]
  generalize (lg_sl ([.ref (ad a0)]) ++ List.replicate (2 - (lg_sl ([.ref (ad a0)])).length) Slot.unset).toArray = ls at hl ⊢
  have hl : lv_has ls 2 [(0, .ref (ad a0))] := hl
  unfold f_X13_readFields at h
  refine lv_aload_n hx hb dX13_readFields_0 rfl (lv_at hl 0 rfl) ?_
  rcases hN1 : gR M a0 4 with _ | b1
  · replace h := oc_n hN1 h
    refine r_get (T := TX13) (v := .null) hx hb hts in13 hown hK hP k0 (by decide) rfl 4 (by decide) (hts (.fieldLink RX13 150 "StoneWalkModel" "read" "LStoneWalkModel$Island;") (List.mem_of_getElem? (i := 1) (by decide +kernel))) rfl (t := 2) rfl (by show va_rf _ = _; rw [hN1]; rfl) dX13_readFields_1 ?_
    exact absurd h (by simp)
  · replace h := oc_s hN1 h
    have kb1 := hT.f k0 (k := 4) (t := 12) (n := 0) rfl hN1
    refine r_get (T := TX13) (v := .ref (ad b1)) hx hb hts in13 hown hK hP k0 (by decide) rfl 4 (by decide) (hts (.fieldLink RX13 150 "StoneWalkModel" "read" "LStoneWalkModel$Island;") (List.mem_of_getElem? (i := 1) (by decide +kernel))) rfl (t := 2) rfl (by show va_rf _ = _; rw [hN1]; rfl) dX13_readFields_1 ?_
    refine r_getN (T := TX12) (v := .int (gI M b1 30)) hx hb hts in12 hown hK hP kb1 (by decide) rfl 30 (by decide) (hG.2.2.1 _ (List.mem_of_getElem? (i := 31) rfl)) rfl (t := 0) rfl rfl dX13_readFields_4 ?_
    refine lv_iconst (v := (-1)) hx hb dX13_readFields_7 rfl ?_
    refine lv_icmp_eq (tgt := 16) hx hb dX13_readFields_8 rfl (fun c2 => ?_) (fun c2 => ?_)
    · replace h := ite_t c2 h
      refine lv_aload_n hx hb dX13_readFields_16 rfl (lv_at hl 0 rfl) ?_
      obtain ⟨z3, h3, h⟩ := ob_some h
      refine k_v (va_runV (As := []) (rest := []) ⟨hx, hb, hml, hown, hts⟩ (c_X13_goesOn (l := l) M a0 k0 h3) (cwV 0 hts gX13_readFields_X13_goesOn rfl rfl rfl hdV_X13_goesOn ⟨Nat.le_of_ble_eq_true rfl, Nat.le_of_ble_eq_true rfl⟩) (pV (T := TX13) hP hK hD hT hG hS k0 (by decide) rfl) rfl rfl hl.1 rfl (lv_room (Nat.le_of_ble_eq_true rfl)) dX13_readFields_17 ⟨Nat.zero_le _, Nat.zero_le _⟩) hS (fun H locs hP hD hT hS => ?_)
      refine lv_aload_n hx hb dX13_readFields_20 rfl (lv_at hl 0 rfl) ?_
      refine lv_iconst (v := 0) hx hb dX13_readFields_21 rfl ?_
      refine lv_sipush (v := 999) hx hb dX13_readFields_22 rfl ?_
      obtain ⟨z4, h4, h⟩ := ob_some h
      refine k_i (va_runV (As := [.int 0, .int 999]) (rest := []) ⟨hx, hb, hml, hown, hts⟩ (c_X13_readWhole (l := l) z3 a0 0 999 k0 h4) (cwV 2 hts gX13_readFields_X13_readWhole rfl rfl rfl hdV_X13_readWhole ⟨Nat.le_of_ble_eq_true rfl, Nat.le_of_ble_eq_true rfl⟩) (pV (T := TX13) hP hK hD hT hG hS k0 (by decide) rfl) rfl rfl hl.1 rfl (lv_room (Nat.le_of_ble_eq_true rfl)) dX13_readFields_25 ⟨Nat.zero_le _, Nat.zero_le _⟩) hS (fun H locs hP hD hT hS => ?_)
      refine lv_istore_n (lv' := [(1, .int z4.1), (0, .ref (ad a0))]) hx hb dX13_readFields_28 rfl hl (by decide) rfl (fun ls hl => ?_)
      refine lv_aload_n hx hb dX13_readFields_29 rfl (lv_at hl 1 rfl) ?_
      rcases hN5 : gR z4.2 a0 4 with _ | b5
      · replace h := oc_n hN5 h
        refine r_get (T := TX13) (v := .null) hx hb hts in13 hown hK hP k0 (by decide) rfl 4 (by decide) (hts (.fieldLink RX13 150 "StoneWalkModel" "read" "LStoneWalkModel$Island;") (List.mem_of_getElem? (i := 1) (by decide +kernel))) rfl (t := 2) rfl (by show va_rf _ = _; rw [hN5]; rfl) dX13_readFields_30 ?_
        refine lv_aload_n hx hb dX13_readFields_33 rfl (lv_at hl 1 rfl) ?_
        refine r_ldcSw (tx := "feeds") (i := 26) hx hb hG hown (by decide +kernel) dX13_readFields_34 ?_
        refine lv_iconst (v := 0) hx hb dX13_readFields_37 rfl ?_
        refine lv_bipush (v := 99) hx hb dX13_readFields_38 rfl ?_
        obtain ⟨z6, h6, h⟩ := ob_some h
        refine k_i (va_runV (As := [.ref (q.2.1 26), .int 0, .int 99]) (rest := [.null]) ⟨hx, hb, hml, hown, hts⟩ (c_X13_readPart (l := l) z4.2 a0 26 0 99 k0 (by decide) h6) (cwV 3 hts gX13_readFields_X13_readPart rfl rfl rfl hdV_X13_readPart ⟨Nat.le_of_ble_eq_true rfl, Nat.le_of_ble_eq_true rfl⟩) (pV (T := TX13) hP hK hD hT hG hS k0 (by decide) rfl) rfl rfl hl.1 rfl (lv_room (Nat.le_of_ble_eq_true rfl)) dX13_readFields_40 ⟨Nat.zero_le _, Nat.zero_le _⟩) hS (fun H locs hP hD hT hS => ?_)
        exact absurd h (by simp)
      · replace h := oc_s hN5 h
        have kb5 := hT.f k0 (k := 4) (t := 12) (n := 0) rfl hN5
        refine r_get (T := TX13) (v := .ref (ad b5)) hx hb hts in13 hown hK hP k0 (by decide) rfl 4 (by decide) (hts (.fieldLink RX13 150 "StoneWalkModel" "read" "LStoneWalkModel$Island;") (List.mem_of_getElem? (i := 1) (by decide +kernel))) rfl (t := 2) rfl (by show va_rf _ = _; rw [hN5]; rfl) dX13_readFields_30 ?_
        refine lv_aload_n hx hb dX13_readFields_33 rfl (lv_at hl 1 rfl) ?_
        refine r_ldcSw (tx := "feeds") (i := 26) hx hb hG hown (by decide +kernel) dX13_readFields_34 ?_
        refine lv_iconst (v := 0) hx hb dX13_readFields_37 rfl ?_
        refine lv_bipush (v := 99) hx hb dX13_readFields_38 rfl ?_
        obtain ⟨z7, h7, h⟩ := ob_some h
        refine k_i (va_runV (As := [.ref (q.2.1 26), .int 0, .int 99]) (rest := [.ref (ad b5)]) ⟨hx, hb, hml, hown, hts⟩ (c_X13_readPart (l := l) z4.2 a0 26 0 99 k0 (by decide) h7) (cwV 3 hts gX13_readFields_X13_readPart rfl rfl rfl hdV_X13_readPart ⟨Nat.le_of_ble_eq_true rfl, Nat.le_of_ble_eq_true rfl⟩) (pV (T := TX13) hP hK hD hT hG hS k0 (by decide) rfl) rfl rfl hl.1 rfl (lv_room (Nat.le_of_ble_eq_true rfl)) dX13_readFields_40 ⟨Nat.zero_le _, Nat.zero_le _⟩) hS (fun H locs hP hD hT hS => ?_)
        refine r_putIN (T := TX12) (ty := .int) (v := z7.1) hx hb hts in12 tyX12 tyX12_ok nmX12 hown hK hP hD hT hS kb5 (by decide) rfl 31 (by decide) (hG.2.2.1 _ (List.mem_of_getElem? (i := 32) rfl)) rfl rfl (tyX12_ok 31 (by decide)) rfl rfl rfl dX13_readFields_43 (fun H locs hP hD hT hS => ?_)
        refine lv_aload_n hx hb dX13_readFields_46 rfl (lv_at hl 1 rfl) ?_
        refine r_get (T := TX13) (v := .int (gI (pI z7.2 b5 31 z7.1) a0 9)) hx hb hts in13 hown hK hP k0 (by decide) rfl 9 (by decide) (hts (.fieldLink RX13 58 "StoneWalkModel" "sort" "I") (List.mem_of_getElem? (i := 2) (by decide +kernel))) rfl (t := 0) rfl rfl dX13_readFields_47 ?_
        refine lv_iconst (v := 5) hx hb dX13_readFields_50 rfl ?_
        refine lv_icmp_eq (tgt := 62) hx hb dX13_readFields_51 rfl (fun c8 => ?_) (fun c8 => ?_)
        · replace h := ite_t c8 h
          exact r_vret hx hb hr hlocks hP hK hD hT hG hS (Option.some.inj h) dX13_readFields_62
        · replace h := ite_f c8 h
          refine lv_aload_n hx hb dX13_readFields_54 rfl (lv_at hl 1 rfl) ?_
          rcases hN9 : gR (pI z7.2 b5 31 z7.1) a0 4 with _ | b9
          · replace h := oc_n hN9 h
            refine r_get (T := TX13) (v := .null) hx hb hts in13 hown hK hP k0 (by decide) rfl 4 (by decide) (hts (.fieldLink RX13 150 "StoneWalkModel" "read" "LStoneWalkModel$Island;") (List.mem_of_getElem? (i := 1) (by decide +kernel))) rfl (t := 2) rfl (by show va_rf _ = _; rw [hN9]; rfl) dX13_readFields_55 ?_
            refine lv_iload_n hx hb dX13_readFields_58 rfl (lv_at hl 0 rfl) ?_
            exact absurd h (by simp)
          · replace h := oc_s hN9 h
            have kb9 := hT.f k0 (k := 4) (t := 12) (n := 0) rfl hN9
            refine r_get (T := TX13) (v := .ref (ad b9)) hx hb hts in13 hown hK hP k0 (by decide) rfl 4 (by decide) (hts (.fieldLink RX13 150 "StoneWalkModel" "read" "LStoneWalkModel$Island;") (List.mem_of_getElem? (i := 1) (by decide +kernel))) rfl (t := 2) rfl (by show va_rf _ = _; rw [hN9]; rfl) dX13_readFields_55 ?_
            refine lv_iload_n hx hb dX13_readFields_58 rfl (lv_at hl 0 rfl) ?_
            refine r_putIN (T := TX12) (ty := .int) (v := z4.1) hx hb hts in12 tyX12 tyX12_ok nmX12 hown hK hP hD hT hS kb9 (by decide) rfl 30 (by decide) (hG.2.2.1 _ (List.mem_of_getElem? (i := 31) rfl)) rfl rfl (tyX12_ok 30 (by decide)) rfl rfl rfl dX13_readFields_59 (fun H locs hP hD hT hS => ?_)
            exact r_vret hx hb hr hlocks hP hK hD hT hG hS (Option.some.inj h) dX13_readFields_62
    · replace h := ite_f c2 h
      refine lv_aload_n hx hb dX13_readFields_11 rfl (lv_at hl 0 rfl) ?_
      refine lv_iconst (v := 3) hx hb dX13_readFields_12 rfl ?_
      obtain ⟨z10, h10, h⟩ := ob_some h
      refine k_v (va_runV (As := [.int 3]) (rest := []) ⟨hx, hb, hml, hown, hts⟩ (c_X13_wrong (l := l) M a0 3 k0 h10) (cwV 1 hts gX13_readFields_X13_wrong rfl rfl rfl hdV_X13_wrong ⟨Nat.le_of_ble_eq_true rfl, Nat.le_of_ble_eq_true rfl⟩) (pV (T := TX13) hP hK hD hT hG hS k0 (by decide) rfl) rfl rfl hl.1 rfl (lv_room (Nat.le_of_ble_eq_true rfl)) dX13_readFields_13 ⟨Nat.zero_le _, Nat.zero_le _⟩) hS (fun H locs hP hD hT hS => ?_)
      refine lv_aload_n hx hb dX13_readFields_16 rfl (lv_at hl 0 rfl) ?_
      obtain ⟨z11, h11, h⟩ := ob_some h
      refine k_v (va_runV (As := []) (rest := []) ⟨hx, hb, hml, hown, hts⟩ (c_X13_goesOn (l := l) z10 a0 k0 h11) (cwV 0 hts gX13_readFields_X13_goesOn rfl rfl rfl hdV_X13_goesOn ⟨Nat.le_of_ble_eq_true rfl, Nat.le_of_ble_eq_true rfl⟩) (pV (T := TX13) hP hK hD hT hG hS k0 (by decide) rfl) rfl rfl hl.1 rfl (lv_room (Nat.le_of_ble_eq_true rfl)) dX13_readFields_17 ⟨Nat.zero_le _, Nat.zero_le _⟩) hS (fun H locs hP hD hT hS => ?_)
      refine lv_aload_n hx hb dX13_readFields_20 rfl (lv_at hl 0 rfl) ?_
      refine lv_iconst (v := 0) hx hb dX13_readFields_21 rfl ?_
      refine lv_sipush (v := 999) hx hb dX13_readFields_22 rfl ?_
      obtain ⟨z12, h12, h⟩ := ob_some h
      refine k_i (va_runV (As := [.int 0, .int 999]) (rest := []) ⟨hx, hb, hml, hown, hts⟩ (c_X13_readWhole (l := l) z11 a0 0 999 k0 h12) (cwV 2 hts gX13_readFields_X13_readWhole rfl rfl rfl hdV_X13_readWhole ⟨Nat.le_of_ble_eq_true rfl, Nat.le_of_ble_eq_true rfl⟩) (pV (T := TX13) hP hK hD hT hG hS k0 (by decide) rfl) rfl rfl hl.1 rfl (lv_room (Nat.le_of_ble_eq_true rfl)) dX13_readFields_25 ⟨Nat.zero_le _, Nat.zero_le _⟩) hS (fun H locs hP hD hT hS => ?_)
      refine lv_istore_n (lv' := [(1, .int z12.1), (0, .ref (ad a0))]) hx hb dX13_readFields_28 rfl hl (by decide) rfl (fun ls hl => ?_)
      refine lv_aload_n hx hb dX13_readFields_29 rfl (lv_at hl 1 rfl) ?_
      rcases hN13 : gR z12.2 a0 4 with _ | b13
      · replace h := oc_n hN13 h
        refine r_get (T := TX13) (v := .null) hx hb hts in13 hown hK hP k0 (by decide) rfl 4 (by decide) (hts (.fieldLink RX13 150 "StoneWalkModel" "read" "LStoneWalkModel$Island;") (List.mem_of_getElem? (i := 1) (by decide +kernel))) rfl (t := 2) rfl (by show va_rf _ = _; rw [hN13]; rfl) dX13_readFields_30 ?_
        refine lv_aload_n hx hb dX13_readFields_33 rfl (lv_at hl 1 rfl) ?_
        refine r_ldcSw (tx := "feeds") (i := 26) hx hb hG hown (by decide +kernel) dX13_readFields_34 ?_
        refine lv_iconst (v := 0) hx hb dX13_readFields_37 rfl ?_
        refine lv_bipush (v := 99) hx hb dX13_readFields_38 rfl ?_
        obtain ⟨z14, h14, h⟩ := ob_some h
        refine k_i (va_runV (As := [.ref (q.2.1 26), .int 0, .int 99]) (rest := [.null]) ⟨hx, hb, hml, hown, hts⟩ (c_X13_readPart (l := l) z12.2 a0 26 0 99 k0 (by decide) h14) (cwV 3 hts gX13_readFields_X13_readPart rfl rfl rfl hdV_X13_readPart ⟨Nat.le_of_ble_eq_true rfl, Nat.le_of_ble_eq_true rfl⟩) (pV (T := TX13) hP hK hD hT hG hS k0 (by decide) rfl) rfl rfl hl.1 rfl (lv_room (Nat.le_of_ble_eq_true rfl)) dX13_readFields_40 ⟨Nat.zero_le _, Nat.zero_le _⟩) hS (fun H locs hP hD hT hS => ?_)
        exact absurd h (by simp)
      · replace h := oc_s hN13 h
        have kb13 := hT.f k0 (k := 4) (t := 12) (n := 0) rfl hN13
        refine r_get (T := TX13) (v := .ref (ad b13)) hx hb hts in13 hown hK hP k0 (by decide) rfl 4 (by decide) (hts (.fieldLink RX13 150 "StoneWalkModel" "read" "LStoneWalkModel$Island;") (List.mem_of_getElem? (i := 1) (by decide +kernel))) rfl (t := 2) rfl (by show va_rf _ = _; rw [hN13]; rfl) dX13_readFields_30 ?_
        refine lv_aload_n hx hb dX13_readFields_33 rfl (lv_at hl 1 rfl) ?_
        refine r_ldcSw (tx := "feeds") (i := 26) hx hb hG hown (by decide +kernel) dX13_readFields_34 ?_
        refine lv_iconst (v := 0) hx hb dX13_readFields_37 rfl ?_
        refine lv_bipush (v := 99) hx hb dX13_readFields_38 rfl ?_
        obtain ⟨z15, h15, h⟩ := ob_some h
        refine k_i (va_runV (As := [.ref (q.2.1 26), .int 0, .int 99]) (rest := [.ref (ad b13)]) ⟨hx, hb, hml, hown, hts⟩ (c_X13_readPart (l := l) z12.2 a0 26 0 99 k0 (by decide) h15) (cwV 3 hts gX13_readFields_X13_readPart rfl rfl rfl hdV_X13_readPart ⟨Nat.le_of_ble_eq_true rfl, Nat.le_of_ble_eq_true rfl⟩) (pV (T := TX13) hP hK hD hT hG hS k0 (by decide) rfl) rfl rfl hl.1 rfl (lv_room (Nat.le_of_ble_eq_true rfl)) dX13_readFields_40 ⟨Nat.zero_le _, Nat.zero_le _⟩) hS (fun H locs hP hD hT hS => ?_)
        refine r_putIN (T := TX12) (ty := .int) (v := z15.1) hx hb hts in12 tyX12 tyX12_ok nmX12 hown hK hP hD hT hS kb13 (by decide) rfl 31 (by decide) (hG.2.2.1 _ (List.mem_of_getElem? (i := 32) rfl)) rfl rfl (tyX12_ok 31 (by decide)) rfl rfl rfl dX13_readFields_43 (fun H locs hP hD hT hS => ?_)
        refine lv_aload_n hx hb dX13_readFields_46 rfl (lv_at hl 1 rfl) ?_
        refine r_get (T := TX13) (v := .int (gI (pI z15.2 b13 31 z15.1) a0 9)) hx hb hts in13 hown hK hP k0 (by decide) rfl 9 (by decide) (hts (.fieldLink RX13 58 "StoneWalkModel" "sort" "I") (List.mem_of_getElem? (i := 2) (by decide +kernel))) rfl (t := 0) rfl rfl dX13_readFields_47 ?_
        refine lv_iconst (v := 5) hx hb dX13_readFields_50 rfl ?_
        refine lv_icmp_eq (tgt := 62) hx hb dX13_readFields_51 rfl (fun c16 => ?_) (fun c16 => ?_)
        · replace h := ite_t c16 h
          exact r_vret hx hb hr hlocks hP hK hD hT hG hS (Option.some.inj h) dX13_readFields_62
        · replace h := ite_f c16 h
          refine lv_aload_n hx hb dX13_readFields_54 rfl (lv_at hl 1 rfl) ?_
          rcases hN17 : gR (pI z15.2 b13 31 z15.1) a0 4 with _ | b17
          · replace h := oc_n hN17 h
            refine r_get (T := TX13) (v := .null) hx hb hts in13 hown hK hP k0 (by decide) rfl 4 (by decide) (hts (.fieldLink RX13 150 "StoneWalkModel" "read" "LStoneWalkModel$Island;") (List.mem_of_getElem? (i := 1) (by decide +kernel))) rfl (t := 2) rfl (by show va_rf _ = _; rw [hN17]; rfl) dX13_readFields_55 ?_
            refine lv_iload_n hx hb dX13_readFields_58 rfl (lv_at hl 0 rfl) ?_
            exact absurd h (by simp)
          · replace h := oc_s hN17 h
            have kb17 := hT.f k0 (k := 4) (t := 12) (n := 0) rfl hN17
            refine r_get (T := TX13) (v := .ref (ad b17)) hx hb hts in13 hown hK hP k0 (by decide) rfl 4 (by decide) (hts (.fieldLink RX13 150 "StoneWalkModel" "read" "LStoneWalkModel$Island;") (List.mem_of_getElem? (i := 1) (by decide +kernel))) rfl (t := 2) rfl (by show va_rf _ = _; rw [hN17]; rfl) dX13_readFields_55 ?_
            refine lv_iload_n hx hb dX13_readFields_58 rfl (lv_at hl 0 rfl) ?_
            refine r_putIN (T := TX12) (ty := .int) (v := z12.1) hx hb hts in12 tyX12 tyX12_ok nmX12 hown hK hP hD hT hS kb17 (by decide) rfl 30 (by decide) (hG.2.2.1 _ (List.mem_of_getElem? (i := 31) rfl)) rfl rfl (tyX12_ok 30 (by decide)) rfl rfl rfl dX13_readFields_59 (fun H locs hP hD hT hS => ?_)
            exact r_vret hx hb hr hlocks hP hK hD hT hG hS (Option.some.inj h) dX13_readFields_62
set_option maxHeartbeats 4000000 in
set_option maxRecDepth 100000 in
theorem c_X13_readHouses {l : Launch} {D : va_G} {ad : Nat → Nat} {cy : Nat → ClassId} {A : Nat → Prop} {g : CG} {q : SE} (M : MM) (a0 : Nat) (k0 : ok g a0 13 0) {Z : MM} (h : f_X13_readHouses M a0 = some Z) : Met l yX13_readHouses wsX13_readHouses ({ frames := 8, cells := 0, slots := 0, locals := 173 }) (va_Pc [.ref (ad a0)] (Wd D ad cy A g q M)) (va_Qv (fun u => u = Z) (Wd D ad cy A g q) A) 0 0 A := by
  refine Met.ofW (cc := cX13_readHouses) (maxL := 2) (ret := none) (by decide) rfl ?_
  intro p e s m args below meth c s₁ B hml hv
  obtain ⟨rfl, hP, hK, hD, hT, hG⟩ := hv
  have hx := B.exec
  have hb := B.bytes
  have hr := B.returns
  have hts := atoms_spec (ws := wsX13_readHouses) B.pre
  have hown : s.vm.findClass RX13 = some m.cls := findClass_of_methodNamed B.named
  have hlocks := B.notSynchronized
  have in12 : ∀ w ∈ u_ws RX12 TX12 48, w ∈ wsX13_readHouses := fun w h => List.mem_cons_of_mem _ (List.mem_append_right _ h)
  have in13 : ∀ w ∈ u_ws RX13 TX13 29, w ∈ wsX13_readHouses := fun w h => List.mem_cons_of_mem _ (List.mem_append_left _ (List.mem_append_right _ h))
  have hS : va_S A s.heap s.heap [] := va_S.rf
  have hl := lv_entry ([.ref (ad a0)]) (n := 2) (Nat.le_of_ble_eq_true rfl)
  rw [lg_entry_eq]
  generalize (lg_sl ([.ref (ad a0)]) ++ List.replicate (2 - (lg_sl ([.ref (ad a0)])).length) Slot.unset).toArray = ls at hl ⊢
  have hl : lv_has ls 2 [(0, .ref (ad a0))] := hl
  unfold f_X13_readHouses at h
  refine lv_aload_n hx hb dX13_readHouses_0 rfl (lv_at hl 0 rfl) ?_
  rcases hN1 : gR M a0 4 with _ | b1
  · replace h := oc_n hN1 h
    refine r_get (T := TX13) (v := .null) hx hb hts in13 hown hK hP k0 (by decide) rfl 4 (by decide) (hts (.fieldLink RX13 150 "StoneWalkModel" "read" "LStoneWalkModel$Island;") (List.mem_of_getElem? (i := 1) (by decide +kernel))) rfl (t := 2) rfl (by show va_rf _ = _; rw [hN1]; rfl) dX13_readHouses_1 ?_
    exact absurd h (by simp)
  · replace h := oc_s hN1 h
    have kb1 := hT.f k0 (k := 4) (t := 12) (n := 0) rfl hN1
    refine r_get (T := TX13) (v := .ref (ad b1)) hx hb hts in13 hown hK hP k0 (by decide) rfl 4 (by decide) (hts (.fieldLink RX13 150 "StoneWalkModel" "read" "LStoneWalkModel$Island;") (List.mem_of_getElem? (i := 1) (by decide +kernel))) rfl (t := 2) rfl (by show va_rf _ = _; rw [hN1]; rfl) dX13_readHouses_1 ?_
    refine r_getN (T := TX12) (v := .int (gI M b1 32)) hx hb hts in12 hown hK hP kb1 (by decide) rfl 32 (by decide) (hG.2.2.1 _ (List.mem_of_getElem? (i := 33) rfl)) rfl (t := 0) rfl rfl dX13_readHouses_4 ?_
    refine lv_iconst (v := (-1)) hx hb dX13_readHouses_7 rfl ?_
    refine lv_icmp_eq (tgt := 16) hx hb dX13_readHouses_8 rfl (fun c2 => ?_) (fun c2 => ?_)
    · replace h := ite_t c2 h
      refine lv_aload_n hx hb dX13_readHouses_16 rfl (lv_at hl 0 rfl) ?_
      obtain ⟨z3, h3, h⟩ := ob_some h
      refine k_v (va_runV (As := []) (rest := []) ⟨hx, hb, hml, hown, hts⟩ (c_X13_goesOn (l := l) M a0 k0 h3) (cwV 0 hts gX13_readHouses_X13_goesOn rfl rfl rfl hdV_X13_goesOn ⟨Nat.le_of_ble_eq_true rfl, Nat.le_of_ble_eq_true rfl⟩) (pV (T := TX13) hP hK hD hT hG hS k0 (by decide) rfl) rfl rfl hl.1 rfl (lv_room (Nat.le_of_ble_eq_true rfl)) dX13_readHouses_17 ⟨Nat.zero_le _, Nat.zero_le _⟩) hS (fun H locs hP hD hT hS => ?_)
      refine lv_aload_n hx hb dX13_readHouses_20 rfl (lv_at hl 0 rfl) ?_
      refine lv_iconst (v := 0) hx hb dX13_readHouses_21 rfl ?_
      refine lv_sipush (v := 999) hx hb dX13_readHouses_22 rfl ?_
      obtain ⟨z4, h4, h⟩ := ob_some h
      refine k_i (va_runV (As := [.int 0, .int 999]) (rest := []) ⟨hx, hb, hml, hown, hts⟩ (c_X13_readWhole (l := l) z3 a0 0 999 k0 h4) (cwV 2 hts gX13_readHouses_X13_readWhole rfl rfl rfl hdV_X13_readWhole ⟨Nat.le_of_ble_eq_true rfl, Nat.le_of_ble_eq_true rfl⟩) (pV (T := TX13) hP hK hD hT hG hS k0 (by decide) rfl) rfl rfl hl.1 rfl (lv_room (Nat.le_of_ble_eq_true rfl)) dX13_readHouses_25 ⟨Nat.zero_le _, Nat.zero_le _⟩) hS (fun H locs hP hD hT hS => ?_)
      refine lv_istore_n (lv' := [(1, .int z4.1), (0, .ref (ad a0))]) hx hb dX13_readHouses_28 rfl hl (by decide) rfl (fun ls hl => ?_)
      refine lv_aload_n hx hb dX13_readHouses_29 rfl (lv_at hl 1 rfl) ?_
      rcases hN5 : gR z4.2 a0 4 with _ | b5
      · replace h := oc_n hN5 h
        refine r_get (T := TX13) (v := .null) hx hb hts in13 hown hK hP k0 (by decide) rfl 4 (by decide) (hts (.fieldLink RX13 150 "StoneWalkModel" "read" "LStoneWalkModel$Island;") (List.mem_of_getElem? (i := 1) (by decide +kernel))) rfl (t := 2) rfl (by show va_rf _ = _; rw [hN5]; rfl) dX13_readHouses_30 ?_
        refine lv_aload_n hx hb dX13_readHouses_33 rfl (lv_at hl 1 rfl) ?_
        refine r_ldcSw (tx := "holds") (i := 27) hx hb hG hown (by decide +kernel) dX13_readHouses_34 ?_
        refine lv_iconst (v := 0) hx hb dX13_readHouses_37 rfl ?_
        refine lv_bipush (v := 20) hx hb dX13_readHouses_38 rfl ?_
        obtain ⟨z6, h6, h⟩ := ob_some h
        refine k_i (va_runV (As := [.ref (q.2.1 27), .int 0, .int 20]) (rest := [.null]) ⟨hx, hb, hml, hown, hts⟩ (c_X13_readPart (l := l) z4.2 a0 27 0 20 k0 (by decide) h6) (cwV 3 hts gX13_readHouses_X13_readPart rfl rfl rfl hdV_X13_readPart ⟨Nat.le_of_ble_eq_true rfl, Nat.le_of_ble_eq_true rfl⟩) (pV (T := TX13) hP hK hD hT hG hS k0 (by decide) rfl) rfl rfl hl.1 rfl (lv_room (Nat.le_of_ble_eq_true rfl)) dX13_readHouses_40 ⟨Nat.zero_le _, Nat.zero_le _⟩) hS (fun H locs hP hD hT hS => ?_)
        exact absurd h (by simp)
      · replace h := oc_s hN5 h
        have kb5 := hT.f k0 (k := 4) (t := 12) (n := 0) rfl hN5
        refine r_get (T := TX13) (v := .ref (ad b5)) hx hb hts in13 hown hK hP k0 (by decide) rfl 4 (by decide) (hts (.fieldLink RX13 150 "StoneWalkModel" "read" "LStoneWalkModel$Island;") (List.mem_of_getElem? (i := 1) (by decide +kernel))) rfl (t := 2) rfl (by show va_rf _ = _; rw [hN5]; rfl) dX13_readHouses_30 ?_
        refine lv_aload_n hx hb dX13_readHouses_33 rfl (lv_at hl 1 rfl) ?_
        refine r_ldcSw (tx := "holds") (i := 27) hx hb hG hown (by decide +kernel) dX13_readHouses_34 ?_
        refine lv_iconst (v := 0) hx hb dX13_readHouses_37 rfl ?_
        refine lv_bipush (v := 20) hx hb dX13_readHouses_38 rfl ?_
        obtain ⟨z7, h7, h⟩ := ob_some h
        refine k_i (va_runV (As := [.ref (q.2.1 27), .int 0, .int 20]) (rest := [.ref (ad b5)]) ⟨hx, hb, hml, hown, hts⟩ (c_X13_readPart (l := l) z4.2 a0 27 0 20 k0 (by decide) h7) (cwV 3 hts gX13_readHouses_X13_readPart rfl rfl rfl hdV_X13_readPart ⟨Nat.le_of_ble_eq_true rfl, Nat.le_of_ble_eq_true rfl⟩) (pV (T := TX13) hP hK hD hT hG hS k0 (by decide) rfl) rfl rfl hl.1 rfl (lv_room (Nat.le_of_ble_eq_true rfl)) dX13_readHouses_40 ⟨Nat.zero_le _, Nat.zero_le _⟩) hS (fun H locs hP hD hT hS => ?_)
        refine r_putIN (T := TX12) (ty := .int) (v := z7.1) hx hb hts in12 tyX12 tyX12_ok nmX12 hown hK hP hD hT hS kb5 (by decide) rfl 33 (by decide) (hG.2.2.1 _ (List.mem_of_getElem? (i := 34) rfl)) rfl rfl (tyX12_ok 33 (by decide)) rfl rfl rfl dX13_readHouses_43 (fun H locs hP hD hT hS => ?_)
        refine lv_aload_n hx hb dX13_readHouses_46 rfl (lv_at hl 1 rfl) ?_
        rcases hN8 : gR (pI z7.2 b5 33 z7.1) a0 4 with _ | b8
        · replace h := oc_n hN8 h
          refine r_get (T := TX13) (v := .null) hx hb hts in13 hown hK hP k0 (by decide) rfl 4 (by decide) (hts (.fieldLink RX13 150 "StoneWalkModel" "read" "LStoneWalkModel$Island;") (List.mem_of_getElem? (i := 1) (by decide +kernel))) rfl (t := 2) rfl (by show va_rf _ = _; rw [hN8]; rfl) dX13_readHouses_47 ?_
          refine lv_aload_n hx hb dX13_readHouses_50 rfl (lv_at hl 1 rfl) ?_
          refine r_ldcSw (tx := "to") (i := 28) hx hb hG hown (by decide +kernel) dX13_readHouses_51 ?_
          refine lv_aload_n hx hb dX13_readHouses_54 rfl (lv_at hl 1 rfl) ?_
          rcases hN9 : gR (pI z7.2 b5 33 z7.1) a0 4 with _ | b9
          · replace h := oc_n hN9 h
            refine r_get (T := TX13) (v := .null) hx hb hts in13 hown hK hP k0 (by decide) rfl 4 (by decide) (hts (.fieldLink RX13 150 "StoneWalkModel" "read" "LStoneWalkModel$Island;") (List.mem_of_getElem? (i := 1) (by decide +kernel))) rfl (t := 2) rfl (by show va_rf _ = _; rw [hN9]; rfl) dX13_readHouses_55 ?_
            exact absurd h (by simp)
          · replace h := oc_s hN9 h
            have kb9 := hT.f k0 (k := 4) (t := 12) (n := 0) rfl hN9
            refine r_get (T := TX13) (v := .ref (ad b9)) hx hb hts in13 hown hK hP k0 (by decide) rfl 4 (by decide) (hts (.fieldLink RX13 150 "StoneWalkModel" "read" "LStoneWalkModel$Island;") (List.mem_of_getElem? (i := 1) (by decide +kernel))) rfl (t := 2) rfl (by show va_rf _ = _; rw [hN9]; rfl) dX13_readHouses_55 ?_
            refine r_getN (T := TX12) (v := .int (gI (pI z7.2 b5 33 z7.1) b9 33)) hx hb hts in12 hown hK hP kb9 (by decide) rfl 33 (by decide) (hG.2.2.1 _ (List.mem_of_getElem? (i := 34) rfl)) rfl (t := 0) rfl rfl dX13_readHouses_58 ?_
            refine lv_bipush (v := 40) hx hb dX13_readHouses_61 rfl ?_
            obtain ⟨z10, h10, h⟩ := ob_some h
            refine k_i (va_runV (As := [.ref (q.2.1 28), .int (gI (pI z7.2 b5 33 z7.1) b9 33), .int 40]) (rest := [.null]) ⟨hx, hb, hml, hown, hts⟩ (c_X13_readPart (l := l) (pI z7.2 b5 33 z7.1) a0 28 (gI (pI z7.2 b5 33 z7.1) b9 33) 40 k0 (by decide) h10) (cwV 3 hts gX13_readHouses_X13_readPart rfl rfl rfl hdV_X13_readPart ⟨Nat.le_of_ble_eq_true rfl, Nat.le_of_ble_eq_true rfl⟩) (pV (T := TX13) hP hK hD hT hG hS k0 (by decide) rfl) rfl rfl hl.1 rfl (lv_room (Nat.le_of_ble_eq_true rfl)) dX13_readHouses_63 ⟨Nat.zero_le _, Nat.zero_le _⟩) hS (fun H locs hP hD hT hS => ?_)
            exact absurd h (by simp)
        · replace h := oc_s hN8 h
          have kb8 := hT.f k0 (k := 4) (t := 12) (n := 0) rfl hN8
          refine r_get (T := TX13) (v := .ref (ad b8)) hx hb hts in13 hown hK hP k0 (by decide) rfl 4 (by decide) (hts (.fieldLink RX13 150 "StoneWalkModel" "read" "LStoneWalkModel$Island;") (List.mem_of_getElem? (i := 1) (by decide +kernel))) rfl (t := 2) rfl (by show va_rf _ = _; rw [hN8]; rfl) dX13_readHouses_47 ?_
          refine lv_aload_n hx hb dX13_readHouses_50 rfl (lv_at hl 1 rfl) ?_
          refine r_ldcSw (tx := "to") (i := 28) hx hb hG hown (by decide +kernel) dX13_readHouses_51 ?_
          refine lv_aload_n hx hb dX13_readHouses_54 rfl (lv_at hl 1 rfl) ?_
          rcases hN11 : gR (pI z7.2 b5 33 z7.1) a0 4 with _ | b11
          · replace h := oc_n hN11 h
            refine r_get (T := TX13) (v := .null) hx hb hts in13 hown hK hP k0 (by decide) rfl 4 (by decide) (hts (.fieldLink RX13 150 "StoneWalkModel" "read" "LStoneWalkModel$Island;") (List.mem_of_getElem? (i := 1) (by decide +kernel))) rfl (t := 2) rfl (by show va_rf _ = _; rw [hN11]; rfl) dX13_readHouses_55 ?_
            exact absurd h (by simp)
          · replace h := oc_s hN11 h
            have kb11 := hT.f k0 (k := 4) (t := 12) (n := 0) rfl hN11
            refine r_get (T := TX13) (v := .ref (ad b11)) hx hb hts in13 hown hK hP k0 (by decide) rfl 4 (by decide) (hts (.fieldLink RX13 150 "StoneWalkModel" "read" "LStoneWalkModel$Island;") (List.mem_of_getElem? (i := 1) (by decide +kernel))) rfl (t := 2) rfl (by show va_rf _ = _; rw [hN11]; rfl) dX13_readHouses_55 ?_
            refine r_getN (T := TX12) (v := .int (gI (pI z7.2 b5 33 z7.1) b11 33)) hx hb hts in12 hown hK hP kb11 (by decide) rfl 33 (by decide) (hG.2.2.1 _ (List.mem_of_getElem? (i := 34) rfl)) rfl (t := 0) rfl rfl dX13_readHouses_58 ?_
            refine lv_bipush (v := 40) hx hb dX13_readHouses_61 rfl ?_
            obtain ⟨z12, h12, h⟩ := ob_some h
            refine k_i (va_runV (As := [.ref (q.2.1 28), .int (gI (pI z7.2 b5 33 z7.1) b11 33), .int 40]) (rest := [.ref (ad b8)]) ⟨hx, hb, hml, hown, hts⟩ (c_X13_readPart (l := l) (pI z7.2 b5 33 z7.1) a0 28 (gI (pI z7.2 b5 33 z7.1) b11 33) 40 k0 (by decide) h12) (cwV 3 hts gX13_readHouses_X13_readPart rfl rfl rfl hdV_X13_readPart ⟨Nat.le_of_ble_eq_true rfl, Nat.le_of_ble_eq_true rfl⟩) (pV (T := TX13) hP hK hD hT hG hS k0 (by decide) rfl) rfl rfl hl.1 rfl (lv_room (Nat.le_of_ble_eq_true rfl)) dX13_readHouses_63 ⟨Nat.zero_le _, Nat.zero_le _⟩) hS (fun H locs hP hD hT hS => ?_)
            refine r_putIN (T := TX12) (ty := .int) (v := z12.1) hx hb hts in12 tyX12 tyX12_ok nmX12 hown hK hP hD hT hS kb8 (by decide) rfl 34 (by decide) (hG.2.2.1 _ (List.mem_of_getElem? (i := 35) rfl)) rfl rfl (tyX12_ok 34 (by decide)) rfl rfl rfl dX13_readHouses_66 (fun H locs hP hD hT hS => ?_)
            refine lv_aload_n hx hb dX13_readHouses_69 rfl (lv_at hl 1 rfl) ?_
            refine r_get (T := TX13) (v := .int (gI (pI z12.2 b8 34 z12.1) a0 9)) hx hb hts in13 hown hK hP k0 (by decide) rfl 9 (by decide) (hts (.fieldLink RX13 58 "StoneWalkModel" "sort" "I") (List.mem_of_getElem? (i := 2) (by decide +kernel))) rfl (t := 0) rfl rfl dX13_readHouses_70 ?_
            refine lv_iconst (v := 5) hx hb dX13_readHouses_73 rfl ?_
            refine lv_icmp_eq (tgt := 85) hx hb dX13_readHouses_74 rfl (fun c13 => ?_) (fun c13 => ?_)
            · replace h := ite_t c13 h
              exact r_vret hx hb hr hlocks hP hK hD hT hG hS (Option.some.inj h) dX13_readHouses_85
            · replace h := ite_f c13 h
              refine lv_aload_n hx hb dX13_readHouses_77 rfl (lv_at hl 1 rfl) ?_
              rcases hN14 : gR (pI z12.2 b8 34 z12.1) a0 4 with _ | b14
              · replace h := oc_n hN14 h
                refine r_get (T := TX13) (v := .null) hx hb hts in13 hown hK hP k0 (by decide) rfl 4 (by decide) (hts (.fieldLink RX13 150 "StoneWalkModel" "read" "LStoneWalkModel$Island;") (List.mem_of_getElem? (i := 1) (by decide +kernel))) rfl (t := 2) rfl (by show va_rf _ = _; rw [hN14]; rfl) dX13_readHouses_78 ?_
                refine lv_iload_n hx hb dX13_readHouses_81 rfl (lv_at hl 0 rfl) ?_
                exact absurd h (by simp)
              · replace h := oc_s hN14 h
                have kb14 := hT.f k0 (k := 4) (t := 12) (n := 0) rfl hN14
                refine r_get (T := TX13) (v := .ref (ad b14)) hx hb hts in13 hown hK hP k0 (by decide) rfl 4 (by decide) (hts (.fieldLink RX13 150 "StoneWalkModel" "read" "LStoneWalkModel$Island;") (List.mem_of_getElem? (i := 1) (by decide +kernel))) rfl (t := 2) rfl (by show va_rf _ = _; rw [hN14]; rfl) dX13_readHouses_78 ?_
                refine lv_iload_n hx hb dX13_readHouses_81 rfl (lv_at hl 0 rfl) ?_
                refine r_putIN (T := TX12) (ty := .int) (v := z4.1) hx hb hts in12 tyX12 tyX12_ok nmX12 hown hK hP hD hT hS kb14 (by decide) rfl 32 (by decide) (hG.2.2.1 _ (List.mem_of_getElem? (i := 33) rfl)) rfl rfl (tyX12_ok 32 (by decide)) rfl rfl rfl dX13_readHouses_82 (fun H locs hP hD hT hS => ?_)
                exact r_vret hx hb hr hlocks hP hK hD hT hG hS (Option.some.inj h) dX13_readHouses_85
    · replace h := ite_f c2 h
      refine lv_aload_n hx hb dX13_readHouses_11 rfl (lv_at hl 0 rfl) ?_
      refine lv_iconst (v := 3) hx hb dX13_readHouses_12 rfl ?_
      obtain ⟨z15, h15, h⟩ := ob_some h
      refine k_v (va_runV (As := [.int 3]) (rest := []) ⟨hx, hb, hml, hown, hts⟩ (c_X13_wrong (l := l) M a0 3 k0 h15) (cwV 1 hts gX13_readHouses_X13_wrong rfl rfl rfl hdV_X13_wrong ⟨Nat.le_of_ble_eq_true rfl, Nat.le_of_ble_eq_true rfl⟩) (pV (T := TX13) hP hK hD hT hG hS k0 (by decide) rfl) rfl rfl hl.1 rfl (lv_room (Nat.le_of_ble_eq_true rfl)) dX13_readHouses_13 ⟨Nat.zero_le _, Nat.zero_le _⟩) hS (fun H locs hP hD hT hS => ?_)
      refine lv_aload_n hx hb dX13_readHouses_16 rfl (lv_at hl 0 rfl) ?_
      obtain ⟨z16, h16, h⟩ := ob_some h
      refine k_v (va_runV (As := []) (rest := []) ⟨hx, hb, hml, hown, hts⟩ (c_X13_goesOn (l := l) z15 a0 k0 h16) (cwV 0 hts gX13_readHouses_X13_goesOn rfl rfl rfl hdV_X13_goesOn ⟨Nat.le_of_ble_eq_true rfl, Nat.le_of_ble_eq_true rfl⟩) (pV (T := TX13) hP hK hD hT hG hS k0 (by decide) rfl) rfl rfl hl.1 rfl (lv_room (Nat.le_of_ble_eq_true rfl)) dX13_readHouses_17 ⟨Nat.zero_le _, Nat.zero_le _⟩) hS (fun H locs hP hD hT hS => ?_)
      refine lv_aload_n hx hb dX13_readHouses_20 rfl (lv_at hl 0 rfl) ?_
      refine lv_iconst (v := 0) hx hb dX13_readHouses_21 rfl ?_
      refine lv_sipush (v := 999) hx hb dX13_readHouses_22 rfl ?_
      obtain ⟨z17, h17, h⟩ := ob_some h
      refine k_i (va_runV (As := [.int 0, .int 999]) (rest := []) ⟨hx, hb, hml, hown, hts⟩ (c_X13_readWhole (l := l) z16 a0 0 999 k0 h17) (cwV 2 hts gX13_readHouses_X13_readWhole rfl rfl rfl hdV_X13_readWhole ⟨Nat.le_of_ble_eq_true rfl, Nat.le_of_ble_eq_true rfl⟩) (pV (T := TX13) hP hK hD hT hG hS k0 (by decide) rfl) rfl rfl hl.1 rfl (lv_room (Nat.le_of_ble_eq_true rfl)) dX13_readHouses_25 ⟨Nat.zero_le _, Nat.zero_le _⟩) hS (fun H locs hP hD hT hS => ?_)
      refine lv_istore_n (lv' := [(1, .int z17.1), (0, .ref (ad a0))]) hx hb dX13_readHouses_28 rfl hl (by decide) rfl (fun ls hl => ?_)
      refine lv_aload_n hx hb dX13_readHouses_29 rfl (lv_at hl 1 rfl) ?_
      rcases hN18 : gR z17.2 a0 4 with _ | b18
      · replace h := oc_n hN18 h
        refine r_get (T := TX13) (v := .null) hx hb hts in13 hown hK hP k0 (by decide) rfl 4 (by decide) (hts (.fieldLink RX13 150 "StoneWalkModel" "read" "LStoneWalkModel$Island;") (List.mem_of_getElem? (i := 1) (by decide +kernel))) rfl (t := 2) rfl (by show va_rf _ = _; rw [hN18]; rfl) dX13_readHouses_30 ?_
        refine lv_aload_n hx hb dX13_readHouses_33 rfl (lv_at hl 1 rfl) ?_
        refine r_ldcSw (tx := "holds") (i := 27) hx hb hG hown (by decide +kernel) dX13_readHouses_34 ?_
        refine lv_iconst (v := 0) hx hb dX13_readHouses_37 rfl ?_
        refine lv_bipush (v := 20) hx hb dX13_readHouses_38 rfl ?_
        obtain ⟨z19, h19, h⟩ := ob_some h
        refine k_i (va_runV (As := [.ref (q.2.1 27), .int 0, .int 20]) (rest := [.null]) ⟨hx, hb, hml, hown, hts⟩ (c_X13_readPart (l := l) z17.2 a0 27 0 20 k0 (by decide) h19) (cwV 3 hts gX13_readHouses_X13_readPart rfl rfl rfl hdV_X13_readPart ⟨Nat.le_of_ble_eq_true rfl, Nat.le_of_ble_eq_true rfl⟩) (pV (T := TX13) hP hK hD hT hG hS k0 (by decide) rfl) rfl rfl hl.1 rfl (lv_room (Nat.le_of_ble_eq_true rfl)) dX13_readHouses_40 ⟨Nat.zero_le _, Nat.zero_le _⟩) hS (fun H locs hP hD hT hS => ?_)
        exact absurd h (by simp)
      · replace h := oc_s hN18 h
        have kb18 := hT.f k0 (k := 4) (t := 12) (n := 0) rfl hN18
        refine r_get (T := TX13) (v := .ref (ad b18)) hx hb hts in13 hown hK hP k0 (by decide) rfl 4 (by decide) (hts (.fieldLink RX13 150 "StoneWalkModel" "read" "LStoneWalkModel$Island;") (List.mem_of_getElem? (i := 1) (by decide +kernel))) rfl (t := 2) rfl (by show va_rf _ = _; rw [hN18]; rfl) dX13_readHouses_30 ?_
        refine lv_aload_n hx hb dX13_readHouses_33 rfl (lv_at hl 1 rfl) ?_
        refine r_ldcSw (tx := "holds") (i := 27) hx hb hG hown (by decide +kernel) dX13_readHouses_34 ?_
        refine lv_iconst (v := 0) hx hb dX13_readHouses_37 rfl ?_
        refine lv_bipush (v := 20) hx hb dX13_readHouses_38 rfl ?_
        obtain ⟨z20, h20, h⟩ := ob_some h
        refine k_i (va_runV (As := [.ref (q.2.1 27), .int 0, .int 20]) (rest := [.ref (ad b18)]) ⟨hx, hb, hml, hown, hts⟩ (c_X13_readPart (l := l) z17.2 a0 27 0 20 k0 (by decide) h20) (cwV 3 hts gX13_readHouses_X13_readPart rfl rfl rfl hdV_X13_readPart ⟨Nat.le_of_ble_eq_true rfl, Nat.le_of_ble_eq_true rfl⟩) (pV (T := TX13) hP hK hD hT hG hS k0 (by decide) rfl) rfl rfl hl.1 rfl (lv_room (Nat.le_of_ble_eq_true rfl)) dX13_readHouses_40 ⟨Nat.zero_le _, Nat.zero_le _⟩) hS (fun H locs hP hD hT hS => ?_)
        refine r_putIN (T := TX12) (ty := .int) (v := z20.1) hx hb hts in12 tyX12 tyX12_ok nmX12 hown hK hP hD hT hS kb18 (by decide) rfl 33 (by decide) (hG.2.2.1 _ (List.mem_of_getElem? (i := 34) rfl)) rfl rfl (tyX12_ok 33 (by decide)) rfl rfl rfl dX13_readHouses_43 (fun H locs hP hD hT hS => ?_)
        refine lv_aload_n hx hb dX13_readHouses_46 rfl (lv_at hl 1 rfl) ?_
        rcases hN21 : gR (pI z20.2 b18 33 z20.1) a0 4 with _ | b21
        · replace h := oc_n hN21 h
          refine r_get (T := TX13) (v := .null) hx hb hts in13 hown hK hP k0 (by decide) rfl 4 (by decide) (hts (.fieldLink RX13 150 "StoneWalkModel" "read" "LStoneWalkModel$Island;") (List.mem_of_getElem? (i := 1) (by decide +kernel))) rfl (t := 2) rfl (by show va_rf _ = _; rw [hN21]; rfl) dX13_readHouses_47 ?_
          refine lv_aload_n hx hb dX13_readHouses_50 rfl (lv_at hl 1 rfl) ?_
          refine r_ldcSw (tx := "to") (i := 28) hx hb hG hown (by decide +kernel) dX13_readHouses_51 ?_
          refine lv_aload_n hx hb dX13_readHouses_54 rfl (lv_at hl 1 rfl) ?_
          rcases hN22 : gR (pI z20.2 b18 33 z20.1) a0 4 with _ | b22
          · replace h := oc_n hN22 h
            refine r_get (T := TX13) (v := .null) hx hb hts in13 hown hK hP k0 (by decide) rfl 4 (by decide) (hts (.fieldLink RX13 150 "StoneWalkModel" "read" "LStoneWalkModel$Island;") (List.mem_of_getElem? (i := 1) (by decide +kernel))) rfl (t := 2) rfl (by show va_rf _ = _; rw [hN22]; rfl) dX13_readHouses_55 ?_
            exact absurd h (by simp)
          · replace h := oc_s hN22 h
            have kb22 := hT.f k0 (k := 4) (t := 12) (n := 0) rfl hN22
            refine r_get (T := TX13) (v := .ref (ad b22)) hx hb hts in13 hown hK hP k0 (by decide) rfl 4 (by decide) (hts (.fieldLink RX13 150 "StoneWalkModel" "read" "LStoneWalkModel$Island;") (List.mem_of_getElem? (i := 1) (by decide +kernel))) rfl (t := 2) rfl (by show va_rf _ = _; rw [hN22]; rfl) dX13_readHouses_55 ?_
            refine r_getN (T := TX12) (v := .int (gI (pI z20.2 b18 33 z20.1) b22 33)) hx hb hts in12 hown hK hP kb22 (by decide) rfl 33 (by decide) (hG.2.2.1 _ (List.mem_of_getElem? (i := 34) rfl)) rfl (t := 0) rfl rfl dX13_readHouses_58 ?_
            refine lv_bipush (v := 40) hx hb dX13_readHouses_61 rfl ?_
            obtain ⟨z23, h23, h⟩ := ob_some h
            refine k_i (va_runV (As := [.ref (q.2.1 28), .int (gI (pI z20.2 b18 33 z20.1) b22 33), .int 40]) (rest := [.null]) ⟨hx, hb, hml, hown, hts⟩ (c_X13_readPart (l := l) (pI z20.2 b18 33 z20.1) a0 28 (gI (pI z20.2 b18 33 z20.1) b22 33) 40 k0 (by decide) h23) (cwV 3 hts gX13_readHouses_X13_readPart rfl rfl rfl hdV_X13_readPart ⟨Nat.le_of_ble_eq_true rfl, Nat.le_of_ble_eq_true rfl⟩) (pV (T := TX13) hP hK hD hT hG hS k0 (by decide) rfl) rfl rfl hl.1 rfl (lv_room (Nat.le_of_ble_eq_true rfl)) dX13_readHouses_63 ⟨Nat.zero_le _, Nat.zero_le _⟩) hS (fun H locs hP hD hT hS => ?_)
            exact absurd h (by simp)
        · replace h := oc_s hN21 h
          have kb21 := hT.f k0 (k := 4) (t := 12) (n := 0) rfl hN21
          refine r_get (T := TX13) (v := .ref (ad b21)) hx hb hts in13 hown hK hP k0 (by decide) rfl 4 (by decide) (hts (.fieldLink RX13 150 "StoneWalkModel" "read" "LStoneWalkModel$Island;") (List.mem_of_getElem? (i := 1) (by decide +kernel))) rfl (t := 2) rfl (by show va_rf _ = _; rw [hN21]; rfl) dX13_readHouses_47 ?_
          refine lv_aload_n hx hb dX13_readHouses_50 rfl (lv_at hl 1 rfl) ?_
          refine r_ldcSw (tx := "to") (i := 28) hx hb hG hown (by decide +kernel) dX13_readHouses_51 ?_
          refine lv_aload_n hx hb dX13_readHouses_54 rfl (lv_at hl 1 rfl) ?_
          rcases hN24 : gR (pI z20.2 b18 33 z20.1) a0 4 with _ | b24
          · replace h := oc_n hN24 h
            refine r_get (T := TX13) (v := .null) hx hb hts in13 hown hK hP k0 (by decide) rfl 4 (by decide) (hts (.fieldLink RX13 150 "StoneWalkModel" "read" "LStoneWalkModel$Island;") (List.mem_of_getElem? (i := 1) (by decide +kernel))) rfl (t := 2) rfl (by show va_rf _ = _; rw [hN24]; rfl) dX13_readHouses_55 ?_
            exact absurd h (by simp)
          · replace h := oc_s hN24 h
            have kb24 := hT.f k0 (k := 4) (t := 12) (n := 0) rfl hN24
            refine r_get (T := TX13) (v := .ref (ad b24)) hx hb hts in13 hown hK hP k0 (by decide) rfl 4 (by decide) (hts (.fieldLink RX13 150 "StoneWalkModel" "read" "LStoneWalkModel$Island;") (List.mem_of_getElem? (i := 1) (by decide +kernel))) rfl (t := 2) rfl (by show va_rf _ = _; rw [hN24]; rfl) dX13_readHouses_55 ?_
            refine r_getN (T := TX12) (v := .int (gI (pI z20.2 b18 33 z20.1) b24 33)) hx hb hts in12 hown hK hP kb24 (by decide) rfl 33 (by decide) (hG.2.2.1 _ (List.mem_of_getElem? (i := 34) rfl)) rfl (t := 0) rfl rfl dX13_readHouses_58 ?_
            refine lv_bipush (v := 40) hx hb dX13_readHouses_61 rfl ?_
            obtain ⟨z25, h25, h⟩ := ob_some h
            refine k_i (va_runV (As := [.ref (q.2.1 28), .int (gI (pI z20.2 b18 33 z20.1) b24 33), .int 40]) (rest := [.ref (ad b21)]) ⟨hx, hb, hml, hown, hts⟩ (c_X13_readPart (l := l) (pI z20.2 b18 33 z20.1) a0 28 (gI (pI z20.2 b18 33 z20.1) b24 33) 40 k0 (by decide) h25) (cwV 3 hts gX13_readHouses_X13_readPart rfl rfl rfl hdV_X13_readPart ⟨Nat.le_of_ble_eq_true rfl, Nat.le_of_ble_eq_true rfl⟩) (pV (T := TX13) hP hK hD hT hG hS k0 (by decide) rfl) rfl rfl hl.1 rfl (lv_room (Nat.le_of_ble_eq_true rfl)) dX13_readHouses_63 ⟨Nat.zero_le _, Nat.zero_le _⟩) hS (fun H locs hP hD hT hS => ?_)
            refine r_putIN (T := TX12) (ty := .int) (v := z25.1) hx hb hts in12 tyX12 tyX12_ok nmX12 hown hK hP hD hT hS kb21 (by decide) rfl 34 (by decide) (hG.2.2.1 _ (List.mem_of_getElem? (i := 35) rfl)) rfl rfl (tyX12_ok 34 (by decide)) rfl rfl rfl dX13_readHouses_66 (fun H locs hP hD hT hS => ?_)
            refine lv_aload_n hx hb dX13_readHouses_69 rfl (lv_at hl 1 rfl) ?_
            refine r_get (T := TX13) (v := .int (gI (pI z25.2 b21 34 z25.1) a0 9)) hx hb hts in13 hown hK hP k0 (by decide) rfl 9 (by decide) (hts (.fieldLink RX13 58 "StoneWalkModel" "sort" "I") (List.mem_of_getElem? (i := 2) (by decide +kernel))) rfl (t := 0) rfl rfl dX13_readHouses_70 ?_
            refine lv_iconst (v := 5) hx hb dX13_readHouses_73 rfl ?_
            refine lv_icmp_eq (tgt := 85) hx hb dX13_readHouses_74 rfl (fun c26 => ?_) (fun c26 => ?_)
            · replace h := ite_t c26 h
              exact r_vret hx hb hr hlocks hP hK hD hT hG hS (Option.some.inj h) dX13_readHouses_85
            · replace h := ite_f c26 h
              refine lv_aload_n hx hb dX13_readHouses_77 rfl (lv_at hl 1 rfl) ?_
              rcases hN27 : gR (pI z25.2 b21 34 z25.1) a0 4 with _ | b27
              · replace h := oc_n hN27 h
                refine r_get (T := TX13) (v := .null) hx hb hts in13 hown hK hP k0 (by decide) rfl 4 (by decide) (hts (.fieldLink RX13 150 "StoneWalkModel" "read" "LStoneWalkModel$Island;") (List.mem_of_getElem? (i := 1) (by decide +kernel))) rfl (t := 2) rfl (by show va_rf _ = _; rw [hN27]; rfl) dX13_readHouses_78 ?_
                refine lv_iload_n hx hb dX13_readHouses_81 rfl (lv_at hl 0 rfl) ?_
                exact absurd h (by simp)
              · replace h := oc_s hN27 h
                have kb27 := hT.f k0 (k := 4) (t := 12) (n := 0) rfl hN27
                refine r_get (T := TX13) (v := .ref (ad b27)) hx hb hts in13 hown hK hP k0 (by decide) rfl 4 (by decide) (hts (.fieldLink RX13 150 "StoneWalkModel" "read" "LStoneWalkModel$Island;") (List.mem_of_getElem? (i := 1) (by decide +kernel))) rfl (t := 2) rfl (by show va_rf _ = _; rw [hN27]; rfl) dX13_readHouses_78 ?_
                refine lv_iload_n hx hb dX13_readHouses_81 rfl (lv_at hl 0 rfl) ?_
                refine r_putIN (T := TX12) (ty := .int) (v := z17.1) hx hb hts in12 tyX12 tyX12_ok nmX12 hown hK hP hD hT hS kb27 (by decide) rfl 32 (by decide) (hG.2.2.1 _ (List.mem_of_getElem? (i := 33) rfl)) rfl rfl (tyX12_ok 32 (by decide)) rfl rfl rfl dX13_readHouses_82 (fun H locs hP hD hT hS => ?_)
                exact r_vret hx hb hr hlocks hP hK hD hT hG hS (Option.some.inj h) dX13_readHouses_85
set_option maxHeartbeats 4000000 in
set_option maxRecDepth 100000 in
theorem c_X13_readStory {l : Launch} {D : va_G} {ad : Nat → Nat} {cy : Nat → ClassId} {A : Nat → Prop} {g : CG} {q : SE} (M : MM) (a0 : Nat) (k0 : ok g a0 13 0) {Z : MM} (h : f_X13_readStory M a0 = some Z) : Met l yX13_readStory wsX13_readStory ({ frames := 8, cells := 0, slots := 0, locals := 173 }) (va_Pc [.ref (ad a0)] (Wd D ad cy A g q M)) (va_Qv (fun u => u = Z) (Wd D ad cy A g q) A) 0 0 A := by
  refine Met.ofW (cc := cX13_readStory) (maxL := 5) (ret := none) (by decide) rfl ?_
  intro p e s m args below meth c s₁ B hml hv
  obtain ⟨rfl, hP, hK, hD, hT, hG⟩ := hv
  have hx := B.exec
  have hb := B.bytes
  have hr := B.returns
  have hts := atoms_spec (ws := wsX13_readStory) B.pre
  have hown : s.vm.findClass RX13 = some m.cls := findClass_of_methodNamed B.named
  have hlocks := B.notSynchronized
  have in12 : ∀ w ∈ u_ws RX12 TX12 48, w ∈ wsX13_readStory := fun w h => List.mem_cons_of_mem _ (List.mem_append_right _ h)
  have in13 : ∀ w ∈ u_ws RX13 TX13 29, w ∈ wsX13_readStory := fun w h => List.mem_cons_of_mem _ (List.mem_append_left _ (List.mem_append_right _ h))
  have hS : va_S A s.heap s.heap [] := va_S.rf
  have hl := lv_entry ([.ref (ad a0)]) (n := 5) (Nat.le_of_ble_eq_true rfl)
  rw [lg_entry_eq]
  generalize (lg_sl ([.ref (ad a0)]) ++ List.replicate (5 - (lg_sl ([.ref (ad a0)])).length) Slot.unset).toArray = ls at hl ⊢
  have hl : lv_has ls 5 [(0, .ref (ad a0))] := hl
  unfold f_X13_readStory at h
  have J1 : ∀ (M1 : MM) (y1_0 : Nat) (y1_1 : Int32) (w1_0 : Int32) (ky1_0 : ok g y1_0 13 0) (H : Heap) (locs : List Loc), f_X13_readStory_J77 M1 y1_0 y1_1 w1_0 = some Z → va_P D vwCl (wd ad cy g M1) H → va_D A (wd ad cy g M1) → WT g M1 → va_S A s.heap H locs → ∀ (ls : Array Slot), lv_has ls 5 [(0, .ref (ad y1_0)), (1, .int y1_1)] → W p l e ((headSpec wsX13_readStory ({ frames := 8, cells := 0, slots := 0, locals := 173 })).room) s m (([.ref (ad a0)] : List Value).toArray) below meth c H locs 0 0 (MQ below (va_Qv (fun u => u = Z) (Wd D ad cy A g q) A) ([.ref (ad a0)]).toArray s 0 0 A) (F0 m 77 ls [.int w1_0]) := by
    intro M1 y1_0 y1_1 w1_0 ky1_0 H locs h hP hD hT hS ls hl
    unfold f_X13_readStory_J77 at h
    have J2 : ∀ (M2 : MM) (y2_0 : Nat) (y2_1 : Int32) (y2_2 : Int32) (ky2_0 : ok g y2_0 13 0) (H : Heap) (locs : List Loc), f_X13_readStory_J88 M2 y2_0 y2_1 y2_2 = some Z → va_P D vwCl (wd ad cy g M2) H → va_D A (wd ad cy g M2) → WT g M2 → va_S A s.heap H locs → ∀ (ls : Array Slot), lv_has ls 5 [(0, .ref (ad y2_0)), (1, .int y2_1), (2, .int y2_2)] → W p l e ((headSpec wsX13_readStory ({ frames := 8, cells := 0, slots := 0, locals := 173 })).room) s m (([.ref (ad a0)] : List Value).toArray) below meth c H locs 0 0 (MQ below (va_Qv (fun u => u = Z) (Wd D ad cy A g q) A) ([.ref (ad a0)]).toArray s 0 0 A) (F0 m 88 ls []) := by
      intro M2 y2_0 y2_1 y2_2 ky2_0 H locs h hP hD hT hS ls hl
      unfold f_X13_readStory_J88 at h
      have J3 : ∀ (M3 : MM) (y3_0 : Nat) (y3_1 : Int32) (y3_2 : Int32) (w3_0 : Int32) (w3_1 : Int32) (w3_2 : Nat) (ky3_0 : ok g y3_0 13 0) (kw3_2 : ok g w3_2 13 0) (H : Heap) (locs : List Loc), f_X13_readStory_J105 M3 y3_0 y3_1 y3_2 w3_0 w3_1 w3_2 = some Z → va_P D vwCl (wd ad cy g M3) H → va_D A (wd ad cy g M3) → WT g M3 → va_S A s.heap H locs → ∀ (ls : Array Slot), lv_has ls 5 [(0, .ref (ad y3_0)), (1, .int y3_1), (2, .int y3_2)] → W p l e ((headSpec wsX13_readStory ({ frames := 8, cells := 0, slots := 0, locals := 173 })).room) s m (([.ref (ad a0)] : List Value).toArray) below meth c H locs 0 0 (MQ below (va_Qv (fun u => u = Z) (Wd D ad cy A g q) A) ([.ref (ad a0)]).toArray s 0 0 A) (F0 m 105 ls [.int w3_0, .int w3_1, .ref (ad w3_2)]) := by
        intro M3 y3_0 y3_1 y3_2 w3_0 w3_1 w3_2 ky3_0 kw3_2 H locs h hP hD hT hS ls hl
        unfold f_X13_readStory_J105 at h
        have J4 : ∀ (M4 : MM) (y4_0 : Nat) (y4_1 : Int32) (y4_2 : Int32) (y4_3 : Int32) (w4_0 : Int32) (ky4_0 : ok g y4_0 13 0) (H : Heap) (locs : List Loc), f_X13_readStory_J128 M4 y4_0 y4_1 y4_2 y4_3 w4_0 = some Z → va_P D vwCl (wd ad cy g M4) H → va_D A (wd ad cy g M4) → WT g M4 → va_S A s.heap H locs → ∀ (ls : Array Slot), lv_has ls 5 [(0, .ref (ad y4_0)), (1, .int y4_1), (2, .int y4_2), (3, .int y4_3)] → W p l e ((headSpec wsX13_readStory ({ frames := 8, cells := 0, slots := 0, locals := 173 })).room) s m (([.ref (ad a0)] : List Value).toArray) below meth c H locs 0 0 (MQ below (va_Qv (fun u => u = Z) (Wd D ad cy A g q) A) ([.ref (ad a0)]).toArray s 0 0 A) (F0 m 128 ls [.int w4_0]) := by
          intro M4 y4_0 y4_1 y4_2 y4_3 w4_0 ky4_0 H locs h hP hD hT hS ls hl
          unfold f_X13_readStory_J128 at h
          refine lv_istore (lv' := [(4, .int w4_0), (0, .ref (ad y4_0)), (1, .int y4_1), (2, .int y4_2), (3, .int y4_3)]) hx hb dX13_readStory_128 hl (by decide) rfl (fun ls hl => ?_)
          refine lv_aload_n hx hb dX13_readStory_130 rfl (lv_at hl 1 rfl) ?_
          refine r_get (T := TX13) (v := .int (gI M4 y4_0 9)) hx hb hts in13 hown hK hP ky4_0 (by decide) rfl 9 (by decide) (hts (.fieldLink RX13 58 "StoneWalkModel" "sort" "I") (List.mem_of_getElem? (i := 2) (by decide +kernel))) rfl (t := 0) rfl rfl dX13_readStory_131 ?_
          refine lv_iconst (v := 5) hx hb dX13_readStory_134 rfl ?_
          refine lv_icmp_ne (tgt := 139) hx hb dX13_readStory_135 rfl (fun c5 => ?_) (fun c5 => ?_)
          · replace h := ite_f c5 h
            refine lv_aload_n hx hb dX13_readStory_139 rfl (lv_at hl 1 rfl) ?_
            rcases hN6 : gR M4 y4_0 4 with _ | b6
            · replace h := oc_n hN6 h
              refine r_get (T := TX13) (v := .null) hx hb hts in13 hown hK hP ky4_0 (by decide) rfl 4 (by decide) (hts (.fieldLink RX13 150 "StoneWalkModel" "read" "LStoneWalkModel$Island;") (List.mem_of_getElem? (i := 1) (by decide +kernel))) rfl (t := 2) rfl (by show va_rf _ = _; rw [hN6]; rfl) dX13_readStory_140 ?_
              exact absurd h (by simp)
            · replace h := oc_s hN6 h
              have kb6 := hT.f ky4_0 (k := 4) (t := 12) (n := 0) rfl hN6
              refine r_get (T := TX13) (v := .ref (ad b6)) hx hb hts in13 hown hK hP ky4_0 (by decide) rfl 4 (by decide) (hts (.fieldLink RX13 150 "StoneWalkModel" "read" "LStoneWalkModel$Island;") (List.mem_of_getElem? (i := 1) (by decide +kernel))) rfl (t := 2) rfl (by show va_rf _ = _; rw [hN6]; rfl) dX13_readStory_140 ?_
              rcases hN7 : gR M4 b6 35 with _ | b7
              · exact absurd (oc_n hN7 h) (by simp)
              replace h := oc_s hN7 h
              have kb7 := hT.f kb6 (k := 35) (t := 15) (n := 5) rfl hN7
              refine r_getN (T := TX12) (v := .ref (ad b7)) hx hb hts in12 hown hK hP kb6 (by decide) rfl 35 (by decide) (hG.2.2.1 _ (List.mem_of_getElem? (i := 37) rfl)) rfl (t := 2) rfl (by show va_rf _ = _; rw [hN7]; rfl) dX13_readStory_143 ?_
              refine lv_aload_n hx hb dX13_readStory_146 rfl (lv_at hl 1 rfl) ?_
              rcases hN8 : gR M4 y4_0 4 with _ | b8
              · replace h := oc_n hN8 h
                refine r_get (T := TX13) (v := .null) hx hb hts in13 hown hK hP ky4_0 (by decide) rfl 4 (by decide) (hts (.fieldLink RX13 150 "StoneWalkModel" "read" "LStoneWalkModel$Island;") (List.mem_of_getElem? (i := 1) (by decide +kernel))) rfl (t := 2) rfl (by show va_rf _ = _; rw [hN8]; rfl) dX13_readStory_147 ?_
                exact absurd h (by simp)
              · replace h := oc_s hN8 h
                have kb8 := hT.f ky4_0 (k := 4) (t := 12) (n := 0) rfl hN8
                refine r_get (T := TX13) (v := .ref (ad b8)) hx hb hts in13 hown hK hP ky4_0 (by decide) rfl 4 (by decide) (hts (.fieldLink RX13 150 "StoneWalkModel" "read" "LStoneWalkModel$Island;") (List.mem_of_getElem? (i := 1) (by decide +kernel))) rfl (t := 2) rfl (by show va_rf _ = _; rw [hN8]; rfl) dX13_readStory_147 ?_
                refine r_getN (T := TX12) (v := .int (gI M4 b8 5)) hx hb hts in12 hown hK hP kb8 (by decide) rfl 5 (by decide) (hG.2.2.1 _ (List.mem_of_getElem? (i := 36) rfl)) rfl (t := 0) rfl rfl dX13_readStory_150 ?_
                refine lv_iload_n hx hb dX13_readStory_153 rfl (lv_at hl 2 rfl) ?_
                obtain ⟨hn9, h⟩ := chk_some h
                refine r_iast hx hb hK hP hD hT hS kb7 hn9 dX13_readStory_154 (fun H locs hP hD hT hS => ?_)
                refine lv_aload_n hx hb dX13_readStory_155 rfl (lv_at hl 1 rfl) ?_
                rcases hN10 : gR (pI M4 b7 (ix (gI M4 b8 5)) y4_1) y4_0 4 with _ | b10
                · replace h := oc_n hN10 h
                  refine r_get (T := TX13) (v := .null) hx hb hts in13 hown hK hP ky4_0 (by decide) rfl 4 (by decide) (hts (.fieldLink RX13 150 "StoneWalkModel" "read" "LStoneWalkModel$Island;") (List.mem_of_getElem? (i := 1) (by decide +kernel))) rfl (t := 2) rfl (by show va_rf _ = _; rw [hN10]; rfl) dX13_readStory_156 ?_
                  exact absurd h (by simp)
                · replace h := oc_s hN10 h
                  have kb10 := hT.f ky4_0 (k := 4) (t := 12) (n := 0) rfl hN10
                  refine r_get (T := TX13) (v := .ref (ad b10)) hx hb hts in13 hown hK hP ky4_0 (by decide) rfl 4 (by decide) (hts (.fieldLink RX13 150 "StoneWalkModel" "read" "LStoneWalkModel$Island;") (List.mem_of_getElem? (i := 1) (by decide +kernel))) rfl (t := 2) rfl (by show va_rf _ = _; rw [hN10]; rfl) dX13_readStory_156 ?_
                  rcases hN11 : gR (pI M4 b7 (ix (gI M4 b8 5)) y4_1) b10 36 with _ | b11
                  · exact absurd (oc_n hN11 h) (by simp)
                  replace h := oc_s hN11 h
                  have kb11 := hT.f kb10 (k := 36) (t := 15) (n := 5) rfl hN11
                  refine r_getN (T := TX12) (v := .ref (ad b11)) hx hb hts in12 hown hK hP kb10 (by decide) rfl 36 (by decide) (hG.2.2.1 _ (List.mem_of_getElem? (i := 38) rfl)) rfl (t := 2) rfl (by show va_rf _ = _; rw [hN11]; rfl) dX13_readStory_159 ?_
                  refine lv_aload_n hx hb dX13_readStory_162 rfl (lv_at hl 1 rfl) ?_
                  rcases hN12 : gR (pI M4 b7 (ix (gI M4 b8 5)) y4_1) y4_0 4 with _ | b12
                  · replace h := oc_n hN12 h
                    refine r_get (T := TX13) (v := .null) hx hb hts in13 hown hK hP ky4_0 (by decide) rfl 4 (by decide) (hts (.fieldLink RX13 150 "StoneWalkModel" "read" "LStoneWalkModel$Island;") (List.mem_of_getElem? (i := 1) (by decide +kernel))) rfl (t := 2) rfl (by show va_rf _ = _; rw [hN12]; rfl) dX13_readStory_163 ?_
                    exact absurd h (by simp)
                  · replace h := oc_s hN12 h
                    have kb12 := hT.f ky4_0 (k := 4) (t := 12) (n := 0) rfl hN12
                    refine r_get (T := TX13) (v := .ref (ad b12)) hx hb hts in13 hown hK hP ky4_0 (by decide) rfl 4 (by decide) (hts (.fieldLink RX13 150 "StoneWalkModel" "read" "LStoneWalkModel$Island;") (List.mem_of_getElem? (i := 1) (by decide +kernel))) rfl (t := 2) rfl (by show va_rf _ = _; rw [hN12]; rfl) dX13_readStory_163 ?_
                    refine r_getN (T := TX12) (v := .int (gI (pI M4 b7 (ix (gI M4 b8 5)) y4_1) b12 5)) hx hb hts in12 hown hK hP kb12 (by decide) rfl 5 (by decide) (hG.2.2.1 _ (List.mem_of_getElem? (i := 36) rfl)) rfl (t := 0) rfl rfl dX13_readStory_166 ?_
                    refine lv_iload_n hx hb dX13_readStory_169 rfl (lv_at hl 3 rfl) ?_
                    obtain ⟨hn13, h⟩ := chk_some h
                    refine r_iast hx hb hK hP hD hT hS kb11 hn13 dX13_readStory_170 (fun H locs hP hD hT hS => ?_)
                    refine lv_aload_n hx hb dX13_readStory_171 rfl (lv_at hl 1 rfl) ?_
                    rcases hN14 : gR (pI (pI M4 b7 (ix (gI M4 b8 5)) y4_1) b11 (ix (gI (pI M4 b7 (ix (gI M4 b8 5)) y4_1) b12 5)) y4_2) y4_0 4 with _ | b14
                    · replace h := oc_n hN14 h
                      refine r_get (T := TX13) (v := .null) hx hb hts in13 hown hK hP ky4_0 (by decide) rfl 4 (by decide) (hts (.fieldLink RX13 150 "StoneWalkModel" "read" "LStoneWalkModel$Island;") (List.mem_of_getElem? (i := 1) (by decide +kernel))) rfl (t := 2) rfl (by show va_rf _ = _; rw [hN14]; rfl) dX13_readStory_172 ?_
                      exact absurd h (by simp)
                    · replace h := oc_s hN14 h
                      have kb14 := hT.f ky4_0 (k := 4) (t := 12) (n := 0) rfl hN14
                      refine r_get (T := TX13) (v := .ref (ad b14)) hx hb hts in13 hown hK hP ky4_0 (by decide) rfl 4 (by decide) (hts (.fieldLink RX13 150 "StoneWalkModel" "read" "LStoneWalkModel$Island;") (List.mem_of_getElem? (i := 1) (by decide +kernel))) rfl (t := 2) rfl (by show va_rf _ = _; rw [hN14]; rfl) dX13_readStory_172 ?_
                      rcases hN15 : gR (pI (pI M4 b7 (ix (gI M4 b8 5)) y4_1) b11 (ix (gI (pI M4 b7 (ix (gI M4 b8 5)) y4_1) b12 5)) y4_2) b14 37 with _ | b15
                      · exact absurd (oc_n hN15 h) (by simp)
                      replace h := oc_s hN15 h
                      have kb15 := hT.f kb14 (k := 37) (t := 15) (n := 5) rfl hN15
                      refine r_getN (T := TX12) (v := .ref (ad b15)) hx hb hts in12 hown hK hP kb14 (by decide) rfl 37 (by decide) (hG.2.2.1 _ (List.mem_of_getElem? (i := 39) rfl)) rfl (t := 2) rfl (by show va_rf _ = _; rw [hN15]; rfl) dX13_readStory_175 ?_
                      refine lv_aload_n hx hb dX13_readStory_178 rfl (lv_at hl 1 rfl) ?_
                      rcases hN16 : gR (pI (pI M4 b7 (ix (gI M4 b8 5)) y4_1) b11 (ix (gI (pI M4 b7 (ix (gI M4 b8 5)) y4_1) b12 5)) y4_2) y4_0 4 with _ | b16
                      · replace h := oc_n hN16 h
                        refine r_get (T := TX13) (v := .null) hx hb hts in13 hown hK hP ky4_0 (by decide) rfl 4 (by decide) (hts (.fieldLink RX13 150 "StoneWalkModel" "read" "LStoneWalkModel$Island;") (List.mem_of_getElem? (i := 1) (by decide +kernel))) rfl (t := 2) rfl (by show va_rf _ = _; rw [hN16]; rfl) dX13_readStory_179 ?_
                        exact absurd h (by simp)
                      · replace h := oc_s hN16 h
                        have kb16 := hT.f ky4_0 (k := 4) (t := 12) (n := 0) rfl hN16
                        refine r_get (T := TX13) (v := .ref (ad b16)) hx hb hts in13 hown hK hP ky4_0 (by decide) rfl 4 (by decide) (hts (.fieldLink RX13 150 "StoneWalkModel" "read" "LStoneWalkModel$Island;") (List.mem_of_getElem? (i := 1) (by decide +kernel))) rfl (t := 2) rfl (by show va_rf _ = _; rw [hN16]; rfl) dX13_readStory_179 ?_
                        refine r_getN (T := TX12) (v := .int (gI (pI (pI M4 b7 (ix (gI M4 b8 5)) y4_1) b11 (ix (gI (pI M4 b7 (ix (gI M4 b8 5)) y4_1) b12 5)) y4_2) b16 5)) hx hb hts in12 hown hK hP kb16 (by decide) rfl 5 (by decide) (hG.2.2.1 _ (List.mem_of_getElem? (i := 36) rfl)) rfl (t := 0) rfl rfl dX13_readStory_182 ?_
                        refine lv_iload_n hx hb dX13_readStory_185 rfl (lv_at hl 4 rfl) ?_
                        obtain ⟨hn17, h⟩ := chk_some h
                        refine r_iast hx hb hK hP hD hT hS kb15 hn17 dX13_readStory_186 (fun H locs hP hD hT hS => ?_)
                        refine lv_aload_n hx hb dX13_readStory_187 rfl (lv_at hl 1 rfl) ?_
                        rcases hN18 : gR (pI (pI (pI M4 b7 (ix (gI M4 b8 5)) y4_1) b11 (ix (gI (pI M4 b7 (ix (gI M4 b8 5)) y4_1) b12 5)) y4_2) b15 (ix (gI (pI (pI M4 b7 (ix (gI M4 b8 5)) y4_1) b11 (ix (gI (pI M4 b7 (ix (gI M4 b8 5)) y4_1) b12 5)) y4_2) b16 5)) y4_3) y4_0 4 with _ | b18
                        · replace h := oc_n hN18 h
                          refine r_get (T := TX13) (v := .null) hx hb hts in13 hown hK hP ky4_0 (by decide) rfl 4 (by decide) (hts (.fieldLink RX13 150 "StoneWalkModel" "read" "LStoneWalkModel$Island;") (List.mem_of_getElem? (i := 1) (by decide +kernel))) rfl (t := 2) rfl (by show va_rf _ = _; rw [hN18]; rfl) dX13_readStory_188 ?_
                          exact absurd h (by simp)
                        · replace h := oc_s hN18 h
                          have kb18 := hT.f ky4_0 (k := 4) (t := 12) (n := 0) rfl hN18
                          refine r_get (T := TX13) (v := .ref (ad b18)) hx hb hts in13 hown hK hP ky4_0 (by decide) rfl 4 (by decide) (hts (.fieldLink RX13 150 "StoneWalkModel" "read" "LStoneWalkModel$Island;") (List.mem_of_getElem? (i := 1) (by decide +kernel))) rfl (t := 2) rfl (by show va_rf _ = _; rw [hN18]; rfl) dX13_readStory_188 ?_
                          rcases hN19 : gR (pI (pI (pI M4 b7 (ix (gI M4 b8 5)) y4_1) b11 (ix (gI (pI M4 b7 (ix (gI M4 b8 5)) y4_1) b12 5)) y4_2) b15 (ix (gI (pI (pI M4 b7 (ix (gI M4 b8 5)) y4_1) b11 (ix (gI (pI M4 b7 (ix (gI M4 b8 5)) y4_1) b12 5)) y4_2) b16 5)) y4_3) b18 38 with _ | b19
                          · exact absurd (oc_n hN19 h) (by simp)
                          replace h := oc_s hN19 h
                          have kb19 := hT.f kb18 (k := 38) (t := 15) (n := 5) rfl hN19
                          refine r_getN (T := TX12) (v := .ref (ad b19)) hx hb hts in12 hown hK hP kb18 (by decide) rfl 38 (by decide) (hG.2.2.1 _ (List.mem_of_getElem? (i := 40) rfl)) rfl (t := 2) rfl (by show va_rf _ = _; rw [hN19]; rfl) dX13_readStory_191 ?_
                          refine lv_aload_n hx hb dX13_readStory_194 rfl (lv_at hl 1 rfl) ?_
                          rcases hN20 : gR (pI (pI (pI M4 b7 (ix (gI M4 b8 5)) y4_1) b11 (ix (gI (pI M4 b7 (ix (gI M4 b8 5)) y4_1) b12 5)) y4_2) b15 (ix (gI (pI (pI M4 b7 (ix (gI M4 b8 5)) y4_1) b11 (ix (gI (pI M4 b7 (ix (gI M4 b8 5)) y4_1) b12 5)) y4_2) b16 5)) y4_3) y4_0 4 with _ | b20
                          · replace h := oc_n hN20 h
                            refine r_get (T := TX13) (v := .null) hx hb hts in13 hown hK hP ky4_0 (by decide) rfl 4 (by decide) (hts (.fieldLink RX13 150 "StoneWalkModel" "read" "LStoneWalkModel$Island;") (List.mem_of_getElem? (i := 1) (by decide +kernel))) rfl (t := 2) rfl (by show va_rf _ = _; rw [hN20]; rfl) dX13_readStory_195 ?_
                            exact absurd h (by simp)
                          · replace h := oc_s hN20 h
                            have kb20 := hT.f ky4_0 (k := 4) (t := 12) (n := 0) rfl hN20
                            refine r_get (T := TX13) (v := .ref (ad b20)) hx hb hts in13 hown hK hP ky4_0 (by decide) rfl 4 (by decide) (hts (.fieldLink RX13 150 "StoneWalkModel" "read" "LStoneWalkModel$Island;") (List.mem_of_getElem? (i := 1) (by decide +kernel))) rfl (t := 2) rfl (by show va_rf _ = _; rw [hN20]; rfl) dX13_readStory_195 ?_
                            refine r_getN (T := TX12) (v := .int (gI (pI (pI (pI M4 b7 (ix (gI M4 b8 5)) y4_1) b11 (ix (gI (pI M4 b7 (ix (gI M4 b8 5)) y4_1) b12 5)) y4_2) b15 (ix (gI (pI (pI M4 b7 (ix (gI M4 b8 5)) y4_1) b11 (ix (gI (pI M4 b7 (ix (gI M4 b8 5)) y4_1) b12 5)) y4_2) b16 5)) y4_3) b20 5)) hx hb hts in12 hown hK hP kb20 (by decide) rfl 5 (by decide) (hG.2.2.1 _ (List.mem_of_getElem? (i := 36) rfl)) rfl (t := 0) rfl rfl dX13_readStory_198 ?_
                            refine lv_iload hx hb dX13_readStory_201 (lv_at hl 0 rfl) ?_
                            obtain ⟨hn21, h⟩ := chk_some h
                            refine r_iast hx hb hK hP hD hT hS kb19 hn21 dX13_readStory_203 (fun H locs hP hD hT hS => ?_)
                            refine lv_aload_n hx hb dX13_readStory_204 rfl (lv_at hl 1 rfl) ?_
                            rcases hN22 : gR (pI (pI (pI (pI M4 b7 (ix (gI M4 b8 5)) y4_1) b11 (ix (gI (pI M4 b7 (ix (gI M4 b8 5)) y4_1) b12 5)) y4_2) b15 (ix (gI (pI (pI M4 b7 (ix (gI M4 b8 5)) y4_1) b11 (ix (gI (pI M4 b7 (ix (gI M4 b8 5)) y4_1) b12 5)) y4_2) b16 5)) y4_3) b19 (ix (gI (pI (pI (pI M4 b7 (ix (gI M4 b8 5)) y4_1) b11 (ix (gI (pI M4 b7 (ix (gI M4 b8 5)) y4_1) b12 5)) y4_2) b15 (ix (gI (pI (pI M4 b7 (ix (gI M4 b8 5)) y4_1) b11 (ix (gI (pI M4 b7 (ix (gI M4 b8 5)) y4_1) b12 5)) y4_2) b16 5)) y4_3) b20 5)) w4_0) y4_0 4 with _ | b22
                            · replace h := oc_n hN22 h
                              refine r_get (T := TX13) (v := .null) hx hb hts in13 hown hK hP ky4_0 (by decide) rfl 4 (by decide) (hts (.fieldLink RX13 150 "StoneWalkModel" "read" "LStoneWalkModel$Island;") (List.mem_of_getElem? (i := 1) (by decide +kernel))) rfl (t := 2) rfl (by show va_rf _ = _; rw [hN22]; rfl) dX13_readStory_205 ?_
                              refine lv_dup hx hb dX13_readStory_208 rfl ?_
                              exact absurd h (by simp)
                            · replace h := oc_s hN22 h
                              have kb22 := hT.f ky4_0 (k := 4) (t := 12) (n := 0) rfl hN22
                              refine r_get (T := TX13) (v := .ref (ad b22)) hx hb hts in13 hown hK hP ky4_0 (by decide) rfl 4 (by decide) (hts (.fieldLink RX13 150 "StoneWalkModel" "read" "LStoneWalkModel$Island;") (List.mem_of_getElem? (i := 1) (by decide +kernel))) rfl (t := 2) rfl (by show va_rf _ = _; rw [hN22]; rfl) dX13_readStory_205 ?_
                              refine lv_dup hx hb dX13_readStory_208 rfl ?_
                              refine r_getN (T := TX12) (v := .int (gI (pI (pI (pI (pI M4 b7 (ix (gI M4 b8 5)) y4_1) b11 (ix (gI (pI M4 b7 (ix (gI M4 b8 5)) y4_1) b12 5)) y4_2) b15 (ix (gI (pI (pI M4 b7 (ix (gI M4 b8 5)) y4_1) b11 (ix (gI (pI M4 b7 (ix (gI M4 b8 5)) y4_1) b12 5)) y4_2) b16 5)) y4_3) b19 (ix (gI (pI (pI (pI M4 b7 (ix (gI M4 b8 5)) y4_1) b11 (ix (gI (pI M4 b7 (ix (gI M4 b8 5)) y4_1) b12 5)) y4_2) b15 (ix (gI (pI (pI M4 b7 (ix (gI M4 b8 5)) y4_1) b11 (ix (gI (pI M4 b7 (ix (gI M4 b8 5)) y4_1) b12 5)) y4_2) b16 5)) y4_3) b20 5)) w4_0) b22 5)) hx hb hts in12 hown hK hP kb22 (by decide) rfl 5 (by decide) (hG.2.2.1 _ (List.mem_of_getElem? (i := 36) rfl)) rfl (t := 0) rfl rfl dX13_readStory_209 ?_
                              refine lv_iconst (v := 1) hx hb dX13_readStory_212 rfl ?_
                              refine lv_iadd hx hb dX13_readStory_213 ?_
                              refine r_putIN (T := TX12) (ty := .int) (v := (gI (pI (pI (pI (pI M4 b7 (ix (gI M4 b8 5)) y4_1) b11 (ix (gI (pI M4 b7 (ix (gI M4 b8 5)) y4_1) b12 5)) y4_2) b15 (ix (gI (pI (pI M4 b7 (ix (gI M4 b8 5)) y4_1) b11 (ix (gI (pI M4 b7 (ix (gI M4 b8 5)) y4_1) b12 5)) y4_2) b16 5)) y4_3) b19 (ix (gI (pI (pI (pI M4 b7 (ix (gI M4 b8 5)) y4_1) b11 (ix (gI (pI M4 b7 (ix (gI M4 b8 5)) y4_1) b12 5)) y4_2) b15 (ix (gI (pI (pI M4 b7 (ix (gI M4 b8 5)) y4_1) b11 (ix (gI (pI M4 b7 (ix (gI M4 b8 5)) y4_1) b12 5)) y4_2) b16 5)) y4_3) b20 5)) w4_0) b22 5) + 1) hx hb hts in12 tyX12 tyX12_ok nmX12 hown hK hP hD hT hS kb22 (by decide) rfl 5 (by decide) (hG.2.2.1 _ (List.mem_of_getElem? (i := 36) rfl)) rfl rfl (tyX12_ok 5 (by decide)) rfl rfl rfl dX13_readStory_214 (fun H locs hP hD hT hS => ?_)
                              exact r_vret hx hb hr hlocks hP hK hD hT hG hS (Option.some.inj h) dX13_readStory_217
          · replace h := ite_t c5 h
            exact r_vret hx hb hr hlocks hP hK hD hT hG hS (Option.some.inj h) dX13_readStory_138
        obtain ⟨z23, h23, h⟩ := ob_some h
        refine k_i (va_runV (As := [.int w3_1, .int w3_0]) (rest := []) ⟨hx, hb, hml, hown, hts⟩ (c_X13_readWhole (l := l) M3 w3_2 w3_1 w3_0 kw3_2 h23) (cwV 2 hts gX13_readStory_X13_readWhole rfl rfl rfl hdV_X13_readWhole ⟨Nat.le_of_ble_eq_true rfl, Nat.le_of_ble_eq_true rfl⟩) (pV (T := TX13) hP hK hD hT hG hS kw3_2 (by decide) rfl) rfl rfl hl.1 rfl (lv_room (Nat.le_of_ble_eq_true rfl)) dX13_readStory_105 ⟨Nat.zero_le _, Nat.zero_le _⟩) hS (fun H locs hP hD hT hS => ?_)
        refine lv_istore_n (lv' := [(3, .int z23.1), (0, .ref (ad y3_0)), (1, .int y3_1), (2, .int y3_2)]) hx hb dX13_readStory_108 rfl hl (by decide) rfl (fun ls hl => ?_)
        refine lv_iload_n hx hb dX13_readStory_109 rfl (lv_at hl 3 rfl) ?_
        refine lv_iconst (v := 2) hx hb dX13_readStory_110 rfl ?_
        refine lv_icmp_ne (tgt := 127) hx hb dX13_readStory_111 rfl (fun c24 => ?_) (fun c24 => ?_)
        · replace h := ite_f c24 h
          refine lv_iconst (v := 1) hx hb dX13_readStory_127 rfl ?_
          exact J4 z23.2 y3_0 y3_1 y3_2 z23.1 1 ky3_0 _ _ h hP hD hT hS ls (lv_sub hl [1, 2, 3, 0] rfl)
        · replace h := ite_t c24 h
          refine lv_aload_n hx hb dX13_readStory_114 rfl (lv_at hl 1 rfl) ?_
          refine r_ldcSw (tx := "every") (i := 20) hx hb hG hown (by decide +kernel) dX13_readStory_115 ?_
          refine lv_iconst (v := 1) hx hb dX13_readStory_118 rfl ?_
          refine lv_bipush (v := 50) hx hb dX13_readStory_119 rfl ?_
          obtain ⟨z25, h25, h⟩ := ob_some h
          refine k_i (va_runV (As := [.ref (q.2.1 20), .int 1, .int 50]) (rest := []) ⟨hx, hb, hml, hown, hts⟩ (c_X13_readPart (l := l) z23.2 y3_0 20 1 50 ky3_0 (by decide) h25) (cwV 3 hts gX13_readStory_X13_readPart rfl rfl rfl hdV_X13_readPart ⟨Nat.le_of_ble_eq_true rfl, Nat.le_of_ble_eq_true rfl⟩) (pV (T := TX13) hP hK hD hT hG hS ky3_0 (by decide) rfl) rfl rfl hl.1 rfl (lv_room (Nat.le_of_ble_eq_true rfl)) dX13_readStory_121 ⟨Nat.zero_le _, Nat.zero_le _⟩) hS (fun H locs hP hD hT hS => ?_)
          refine lv_goto (tgt := 128) hx hb dX13_readStory_124 rfl ?_
          exact J4 z25.2 y3_0 y3_1 y3_2 z23.1 z25.1 ky3_0 _ _ h hP hD hT hS ls (lv_sub hl [1, 2, 3, 0] rfl)
      refine lv_aload_n hx hb dX13_readStory_88 rfl (lv_at hl 0 rfl) ?_
      obtain ⟨z26, h26, h⟩ := ob_some h
      refine k_v (va_runV (As := []) (rest := []) ⟨hx, hb, hml, hown, hts⟩ (c_X13_goesOn (l := l) M2 y2_0 ky2_0 h26) (cwV 0 hts gX13_readStory_X13_goesOn rfl rfl rfl hdV_X13_goesOn ⟨Nat.le_of_ble_eq_true rfl, Nat.le_of_ble_eq_true rfl⟩) (pV (T := TX13) hP hK hD hT hG hS ky2_0 (by decide) rfl) rfl rfl hl.1 rfl (lv_room (Nat.le_of_ble_eq_true rfl)) dX13_readStory_89 ⟨Nat.zero_le _, Nat.zero_le _⟩) hS (fun H locs hP hD hT hS => ?_)
      refine lv_aload_n hx hb dX13_readStory_92 rfl (lv_at hl 0 rfl) ?_
      refine lv_iconst (v := 0) hx hb dX13_readStory_93 rfl ?_
      refine lv_iload_n hx hb dX13_readStory_94 rfl (lv_at hl 2 rfl) ?_
      refine lv_if_ne (tgt := 103) hx hb dX13_readStory_95 rfl (fun c27 => ?_) (fun c27 => ?_)
      · replace h := ite_f c27 h
        refine lv_bipush (v := 100) hx hb dX13_readStory_103 rfl ?_
        exact J3 z26 y2_0 y2_1 y2_2 100 0 y2_0 ky2_0 ky2_0 _ _ h hP hD hT hS ls (lv_sub hl [0, 1, 2] rfl)
      · replace h := ite_t c27 h
        refine lv_bipush (v := 99) hx hb dX13_readStory_98 rfl ?_
        refine lv_goto (tgt := 105) hx hb dX13_readStory_100 rfl ?_
        exact J3 z26 y2_0 y2_1 y2_2 99 0 y2_0 ky2_0 ky2_0 _ _ h hP hD hT hS ls (lv_sub hl [0, 1, 2] rfl)
    refine lv_istore_n (lv' := [(2, .int w1_0), (0, .ref (ad y1_0)), (1, .int y1_1)]) hx hb dX13_readStory_77 rfl hl (by decide) rfl (fun ls hl => ?_)
    refine lv_iload_n hx hb dX13_readStory_78 rfl (lv_at hl 0 rfl) ?_
    refine lv_iconst (v := (-1)) hx hb dX13_readStory_79 rfl ?_
    refine lv_icmp_ne (tgt := 88) hx hb dX13_readStory_80 rfl (fun c28 => ?_) (fun c28 => ?_)
    · replace h := ite_f c28 h
      exact J2 M1 y1_0 y1_1 w1_0 ky1_0 _ _ h hP hD hT hS ls (lv_sub hl [1, 2, 0] rfl)
    · replace h := ite_t c28 h
      refine lv_aload_n hx hb dX13_readStory_83 rfl (lv_at hl 1 rfl) ?_
      refine lv_iconst (v := 1) hx hb dX13_readStory_84 rfl ?_
      obtain ⟨z29, h29, h⟩ := ob_some h
      refine k_v (va_runV (As := [.int 1]) (rest := []) ⟨hx, hb, hml, hown, hts⟩ (c_X13_wrong (l := l) M1 y1_0 1 ky1_0 h29) (cwV 1 hts gX13_readStory_X13_wrong rfl rfl rfl hdV_X13_wrong ⟨Nat.le_of_ble_eq_true rfl, Nat.le_of_ble_eq_true rfl⟩) (pV (T := TX13) hP hK hD hT hG hS ky1_0 (by decide) rfl) rfl rfl hl.1 rfl (lv_room (Nat.le_of_ble_eq_true rfl)) dX13_readStory_85 ⟨Nat.zero_le _, Nat.zero_le _⟩) hS (fun H locs hP hD hT hS => ?_)
      exact J2 z29 y1_0 y1_1 w1_0 ky1_0 _ _ h hP hD hT hS ls (lv_sub hl [1, 2, 0] rfl)
  refine lv_aload_n hx hb dX13_readStory_0 rfl (lv_at hl 0 rfl) ?_
  refine lv_aload_n hx hb dX13_readStory_1 rfl (lv_at hl 0 rfl) ?_
  rcases hN30 : gR M a0 4 with _ | b30
  · replace h := oc_n hN30 h
    refine r_get (T := TX13) (v := .null) hx hb hts in13 hown hK hP k0 (by decide) rfl 4 (by decide) (hts (.fieldLink RX13 150 "StoneWalkModel" "read" "LStoneWalkModel$Island;") (List.mem_of_getElem? (i := 1) (by decide +kernel))) rfl (t := 2) rfl (by show va_rf _ = _; rw [hN30]; rfl) dX13_readStory_2 ?_
    exact absurd h (by simp)
  · replace h := oc_s hN30 h
    have kb30 := hT.f k0 (k := 4) (t := 12) (n := 0) rfl hN30
    refine r_get (T := TX13) (v := .ref (ad b30)) hx hb hts in13 hown hK hP k0 (by decide) rfl 4 (by decide) (hts (.fieldLink RX13 150 "StoneWalkModel" "read" "LStoneWalkModel$Island;") (List.mem_of_getElem? (i := 1) (by decide +kernel))) rfl (t := 2) rfl (by show va_rf _ = _; rw [hN30]; rfl) dX13_readStory_2 ?_
    refine r_getN (T := TX12) (v := .int (gI M b30 5)) hx hb hts in12 hown hK hP kb30 (by decide) rfl 5 (by decide) (hG.2.2.1 _ (List.mem_of_getElem? (i := 36) rfl)) rfl (t := 0) rfl rfl dX13_readStory_5 ?_
    refine lv_iconst (v := 5) hx hb dX13_readStory_8 rfl ?_
    obtain ⟨z31, h31, h⟩ := ob_some h
    refine k_v (va_runV (As := [.int (gI M b30 5), .int 5]) (rest := []) ⟨hx, hb, hml, hown, hts⟩ (c_X13_begins (l := l) M a0 (gI M b30 5) 5 k0 h31) (cwV 2 hts gX13_readStory_X13_begins rfl rfl rfl hdV_X13_begins ⟨Nat.le_of_ble_eq_true rfl, Nat.le_of_ble_eq_true rfl⟩) (pV (T := TX13) hP hK hD hT hG hS k0 (by decide) rfl) rfl rfl hl.1 rfl (lv_room (Nat.le_of_ble_eq_true rfl)) dX13_readStory_9 ⟨Nat.zero_le _, Nat.zero_le _⟩) hS (fun H locs hP hD hT hS => ?_)
    refine lv_aload_n hx hb dX13_readStory_12 rfl (lv_at hl 0 rfl) ?_
    refine lv_iconst (v := 2) hx hb dX13_readStory_13 rfl ?_
    refine lv_aload_n hx hb dX13_readStory_14 rfl (lv_at hl 0 rfl) ?_
    rcases hN32 : gR z31 a0 4 with _ | b32
    · replace h := oc_n hN32 h
      refine r_get (T := TX13) (v := .null) hx hb hts in13 hown hK hP k0 (by decide) rfl 4 (by decide) (hts (.fieldLink RX13 150 "StoneWalkModel" "read" "LStoneWalkModel$Island;") (List.mem_of_getElem? (i := 1) (by decide +kernel))) rfl (t := 2) rfl (by show va_rf _ = _; rw [hN32]; rfl) dX13_readStory_15 ?_
      exact absurd h (by simp)
    · replace h := oc_s hN32 h
      have kb32 := hT.f k0 (k := 4) (t := 12) (n := 0) rfl hN32
      refine r_get (T := TX13) (v := .ref (ad b32)) hx hb hts in13 hown hK hP k0 (by decide) rfl 4 (by decide) (hts (.fieldLink RX13 150 "StoneWalkModel" "read" "LStoneWalkModel$Island;") (List.mem_of_getElem? (i := 1) (by decide +kernel))) rfl (t := 2) rfl (by show va_rf _ = _; rw [hN32]; rfl) dX13_readStory_15 ?_
      refine r_getN (T := TX12) (v := .int (gI z31 b32 5)) hx hb hts in12 hown hK hP kb32 (by decide) rfl 5 (by decide) (hG.2.2.1 _ (List.mem_of_getElem? (i := 36) rfl)) rfl (t := 0) rfl rfl dX13_readStory_18 ?_
      obtain ⟨z33, h33, h⟩ := ob_some h
      refine k_v (va_runV (As := [.int 2, .int (gI z31 b32 5)]) (rest := []) ⟨hx, hb, hml, hown, hts⟩ (c_X13_readFresh (l := l) z31 a0 2 (gI z31 b32 5) k0 h33) (cwV 2 hts gX13_readStory_X13_readFresh rfl rfl rfl hdV_X13_readFresh ⟨Nat.le_of_ble_eq_true rfl, Nat.le_of_ble_eq_true rfl⟩) (pV (T := TX13) hP hK hD hT hG hS k0 (by decide) rfl) rfl rfl hl.1 rfl (lv_room (Nat.le_of_ble_eq_true rfl)) dX13_readStory_21 ⟨Nat.zero_le _, Nat.zero_le _⟩) hS (fun H locs hP hD hT hS => ?_)
      refine lv_aload_n hx hb dX13_readStory_24 rfl (lv_at hl 0 rfl) ?_
      refine r_ldcS (tx := "weighs") (i := 2) hx hb hG hown (by decide +kernel) dX13_readStory_25 ?_
      refine lv_iconst (v := 1) hx hb dX13_readStory_27 rfl ?_
      refine lv_bipush (v := 99) hx hb dX13_readStory_28 rfl ?_
      obtain ⟨z34, h34, h⟩ := ob_some h
      refine k_i (va_runV (As := [.ref (q.2.1 2), .int 1, .int 99]) (rest := []) ⟨hx, hb, hml, hown, hts⟩ (c_X13_readPart (l := l) z33 a0 2 1 99 k0 (by decide) h34) (cwV 3 hts gX13_readStory_X13_readPart rfl rfl rfl hdV_X13_readPart ⟨Nat.le_of_ble_eq_true rfl, Nat.le_of_ble_eq_true rfl⟩) (pV (T := TX13) hP hK hD hT hG hS k0 (by decide) rfl) rfl rfl hl.1 rfl (lv_room (Nat.le_of_ble_eq_true rfl)) dX13_readStory_30 ⟨Nat.zero_le _, Nat.zero_le _⟩) hS (fun H locs hP hD hT hS => ?_)
      refine lv_istore_n (lv' := [(1, .int z34.1), (0, .ref (ad a0))]) hx hb dX13_readStory_33 rfl hl (by decide) rfl (fun ls hl => ?_)
      refine lv_aload_n hx hb dX13_readStory_34 rfl (lv_at hl 1 rfl) ?_
      refine r_ldcSw (tx := "felled") (i := 54) hx hb hG hown (by decide +kernel) dX13_readStory_35 ?_
      obtain ⟨z35, h35, h⟩ := ob_some h
      refine k_z (va_runV (As := [.ref (q.2.1 54)]) (rest := []) ⟨hx, hb, hml, hown, hts⟩ (c_X13_isWord (l := l) z34.2 a0 54 k0 (by decide) h35) (cwV 1 hts gX13_readStory_X13_isWord rfl rfl rfl hdV_X13_isWord ⟨Nat.le_of_ble_eq_true rfl, Nat.le_of_ble_eq_true rfl⟩) (pV (T := TX13) hP hK hD hT hG hS k0 (by decide) rfl) rfl rfl hl.1 rfl (lv_room (Nat.le_of_ble_eq_true rfl)) dX13_readStory_38 ⟨Nat.zero_le _, Nat.zero_le _⟩) hS (fun H locs hz35 hP hD hT hS => ?_)
      refine lv_if_eq (tgt := 48) hx hb dX13_readStory_41 rfl (fun c36 => ?_) (fun c36 => ?_)
      · replace h := ite_t c36 h
        refine lv_aload_n hx hb dX13_readStory_48 rfl (lv_at hl 1 rfl) ?_
        refine r_ldcSw (tx := "rats") (i := 55) hx hb hG hown (by decide +kernel) dX13_readStory_49 ?_
        obtain ⟨z37, h37, h⟩ := ob_some h
        refine k_z (va_runV (As := [.ref (q.2.1 55)]) (rest := []) ⟨hx, hb, hml, hown, hts⟩ (c_X13_isWord (l := l) z34.2 a0 55 k0 (by decide) h37) (cwV 1 hts gX13_readStory_X13_isWord rfl rfl rfl hdV_X13_isWord ⟨Nat.le_of_ble_eq_true rfl, Nat.le_of_ble_eq_true rfl⟩) (pV (T := TX13) hP hK hD hT hG hS k0 (by decide) rfl) rfl rfl hl.1 rfl (lv_room (Nat.le_of_ble_eq_true rfl)) dX13_readStory_52 ⟨Nat.zero_le _, Nat.zero_le _⟩) hS (fun H locs hz37 hP hD hT hS => ?_)
        refine lv_if_eq (tgt := 62) hx hb dX13_readStory_55 rfl (fun c38 => ?_) (fun c38 => ?_)
        · replace h := ite_t c38 h
          refine lv_aload_n hx hb dX13_readStory_62 rfl (lv_at hl 1 rfl) ?_
          refine r_ldcSw (tx := "fires") (i := 56) hx hb hG hown (by decide +kernel) dX13_readStory_63 ?_
          obtain ⟨z39, h39, h⟩ := ob_some h
          refine k_z (va_runV (As := [.ref (q.2.1 56)]) (rest := []) ⟨hx, hb, hml, hown, hts⟩ (c_X13_isWord (l := l) z34.2 a0 56 k0 (by decide) h39) (cwV 1 hts gX13_readStory_X13_isWord rfl rfl rfl hdV_X13_isWord ⟨Nat.le_of_ble_eq_true rfl, Nat.le_of_ble_eq_true rfl⟩) (pV (T := TX13) hP hK hD hT hG hS k0 (by decide) rfl) rfl rfl hl.1 rfl (lv_room (Nat.le_of_ble_eq_true rfl)) dX13_readStory_66 ⟨Nat.zero_le _, Nat.zero_le _⟩) hS (fun H locs hz39 hP hD hT hS => ?_)
          refine lv_if_eq (tgt := 76) hx hb dX13_readStory_69 rfl (fun c40 => ?_) (fun c40 => ?_)
          · replace h := ite_t c40 h
            refine lv_iconst (v := (-1)) hx hb dX13_readStory_76 rfl ?_
            exact J1 z34.2 a0 z34.1 (-1) k0 _ _ h hP hD hT hS ls (lv_sub hl [1, 0] rfl)
          · replace h := ite_f c40 h
            refine lv_iconst (v := 2) hx hb dX13_readStory_72 rfl ?_
            refine lv_goto (tgt := 77) hx hb dX13_readStory_73 rfl ?_
            exact J1 z34.2 a0 z34.1 2 k0 _ _ h hP hD hT hS ls (lv_sub hl [1, 0] rfl)
        · replace h := ite_f c38 h
          refine lv_iconst (v := 1) hx hb dX13_readStory_58 rfl ?_
          refine lv_goto (tgt := 77) hx hb dX13_readStory_59 rfl ?_
          exact J1 z34.2 a0 z34.1 1 k0 _ _ h hP hD hT hS ls (lv_sub hl [1, 0] rfl)
      · replace h := ite_f c36 h
        refine lv_iconst (v := 0) hx hb dX13_readStory_44 rfl ?_
        refine lv_goto (tgt := 77) hx hb dX13_readStory_45 rfl ?_
        exact J1 z34.2 a0 z34.1 0 k0 _ _ h hP hD hT hS ls (lv_sub hl [1, 0] rfl)
set_option maxHeartbeats 4000000 in
set_option maxRecDepth 100000 in
theorem c_X13_readTeller {l : Launch} {D : va_G} {ad : Nat → Nat} {cy : Nat → ClassId} {A : Nat → Prop} {g : CG} {q : SE} (M : MM) (a0 : Nat) (k0 : ok g a0 13 0) {Z : MM} (h : f_X13_readTeller M a0 = some Z) : Met l yX13_readTeller wsX13_readTeller ({ frames := 8, cells := 0, slots := 0, locals := 173 }) (va_Pc [.ref (ad a0)] (Wd D ad cy A g q M)) (va_Qv (fun u => u = Z) (Wd D ad cy A g q) A) 0 0 A := by
  refine Met.ofW (cc := cX13_readTeller) (maxL := 4) (ret := none) (by decide) rfl ?_
  intro p e s m args below meth c s₁ B hml hv
  obtain ⟨rfl, hP, hK, hD, hT, hG⟩ := hv
  have hx := B.exec
  have hb := B.bytes
  have hr := B.returns
  have hts := atoms_spec (ws := wsX13_readTeller) B.pre
  have hown : s.vm.findClass RX13 = some m.cls := findClass_of_methodNamed B.named
  have hlocks := B.notSynchronized
  have in12 : ∀ w ∈ u_ws RX12 TX12 48, w ∈ wsX13_readTeller := fun w h => List.mem_cons_of_mem _ (List.mem_append_right _ h)
  have in13 : ∀ w ∈ u_ws RX13 TX13 29, w ∈ wsX13_readTeller := fun w h => List.mem_cons_of_mem _ (List.mem_append_left _ (List.mem_append_right _ h))
  have hS : va_S A s.heap s.heap [] := va_S.rf
  have hl := lv_entry ([.ref (ad a0)]) (n := 4) (Nat.le_of_ble_eq_true rfl)
  rw [lg_entry_eq]
  generalize (lg_sl ([.ref (ad a0)]) ++ List.replicate (4 - (lg_sl ([.ref (ad a0)])).length) Slot.unset).toArray = ls at hl ⊢
  have hl : lv_has ls 4 [(0, .ref (ad a0))] := hl
  unfold f_X13_readTeller at h
  refine lv_aload_n hx hb dX13_readTeller_0 rfl (lv_at hl 0 rfl) ?_
  refine lv_aload_n hx hb dX13_readTeller_1 rfl (lv_at hl 0 rfl) ?_
  rcases hN1 : gR M a0 4 with _ | b1
  · replace h := oc_n hN1 h
    refine r_get (T := TX13) (v := .null) hx hb hts in13 hown hK hP k0 (by decide) rfl 4 (by decide) (hts (.fieldLink RX13 150 "StoneWalkModel" "read" "LStoneWalkModel$Island;") (List.mem_of_getElem? (i := 1) (by decide +kernel))) rfl (t := 2) rfl (by show va_rf _ = _; rw [hN1]; rfl) dX13_readTeller_2 ?_
    exact absurd h (by simp)
  · replace h := oc_s hN1 h
    have kb1 := hT.f k0 (k := 4) (t := 12) (n := 0) rfl hN1
    refine r_get (T := TX13) (v := .ref (ad b1)) hx hb hts in13 hown hK hP k0 (by decide) rfl 4 (by decide) (hts (.fieldLink RX13 150 "StoneWalkModel" "read" "LStoneWalkModel$Island;") (List.mem_of_getElem? (i := 1) (by decide +kernel))) rfl (t := 2) rfl (by show va_rf _ = _; rw [hN1]; rfl) dX13_readTeller_2 ?_
    refine r_getN (T := TX12) (v := .int (gI M b1 6)) hx hb hts in12 hown hK hP kb1 (by decide) rfl 6 (by decide) (hG.2.2.1 _ (List.mem_of_getElem? (i := 41) rfl)) rfl (t := 0) rfl rfl dX13_readTeller_5 ?_
    refine lv_iconst (v := 3) hx hb dX13_readTeller_8 rfl ?_
    obtain ⟨z2, h2, h⟩ := ob_some h
    refine k_v (va_runV (As := [.int (gI M b1 6), .int 3]) (rest := []) ⟨hx, hb, hml, hown, hts⟩ (c_X13_begins (l := l) M a0 (gI M b1 6) 3 k0 h2) (cwV 2 hts gX13_readTeller_X13_begins rfl rfl rfl hdV_X13_begins ⟨Nat.le_of_ble_eq_true rfl, Nat.le_of_ble_eq_true rfl⟩) (pV (T := TX13) hP hK hD hT hG hS k0 (by decide) rfl) rfl rfl hl.1 rfl (lv_room (Nat.le_of_ble_eq_true rfl)) dX13_readTeller_9 ⟨Nat.zero_le _, Nat.zero_le _⟩) hS (fun H locs hP hD hT hS => ?_)
    refine lv_aload_n hx hb dX13_readTeller_12 rfl (lv_at hl 0 rfl) ?_
    refine lv_iconst (v := 2) hx hb dX13_readTeller_13 rfl ?_
    refine lv_aload_n hx hb dX13_readTeller_14 rfl (lv_at hl 0 rfl) ?_
    rcases hN3 : gR z2 a0 4 with _ | b3
    · replace h := oc_n hN3 h
      refine r_get (T := TX13) (v := .null) hx hb hts in13 hown hK hP k0 (by decide) rfl 4 (by decide) (hts (.fieldLink RX13 150 "StoneWalkModel" "read" "LStoneWalkModel$Island;") (List.mem_of_getElem? (i := 1) (by decide +kernel))) rfl (t := 2) rfl (by show va_rf _ = _; rw [hN3]; rfl) dX13_readTeller_15 ?_
      exact absurd h (by simp)
    · replace h := oc_s hN3 h
      have kb3 := hT.f k0 (k := 4) (t := 12) (n := 0) rfl hN3
      refine r_get (T := TX13) (v := .ref (ad b3)) hx hb hts in13 hown hK hP k0 (by decide) rfl 4 (by decide) (hts (.fieldLink RX13 150 "StoneWalkModel" "read" "LStoneWalkModel$Island;") (List.mem_of_getElem? (i := 1) (by decide +kernel))) rfl (t := 2) rfl (by show va_rf _ = _; rw [hN3]; rfl) dX13_readTeller_15 ?_
      refine r_getN (T := TX12) (v := .int (gI z2 b3 6)) hx hb hts in12 hown hK hP kb3 (by decide) rfl 6 (by decide) (hG.2.2.1 _ (List.mem_of_getElem? (i := 41) rfl)) rfl (t := 0) rfl rfl dX13_readTeller_18 ?_
      obtain ⟨z4, h4, h⟩ := ob_some h
      refine k_v (va_runV (As := [.int 2, .int (gI z2 b3 6)]) (rest := []) ⟨hx, hb, hml, hown, hts⟩ (c_X13_readFresh (l := l) z2 a0 2 (gI z2 b3 6) k0 h4) (cwV 2 hts gX13_readTeller_X13_readFresh rfl rfl rfl hdV_X13_readFresh ⟨Nat.le_of_ble_eq_true rfl, Nat.le_of_ble_eq_true rfl⟩) (pV (T := TX13) hP hK hD hT hG hS k0 (by decide) rfl) rfl rfl hl.1 rfl (lv_room (Nat.le_of_ble_eq_true rfl)) dX13_readTeller_21 ⟨Nat.zero_le _, Nat.zero_le _⟩) hS (fun H locs hP hD hT hS => ?_)
      refine lv_aload_n hx hb dX13_readTeller_24 rfl (lv_at hl 0 rfl) ?_
      refine r_ldcSw (tx := "year") (i := 21) hx hb hG hown (by decide +kernel) dX13_readTeller_25 ?_
      refine lv_iconst (v := 0) hx hb dX13_readTeller_28 rfl ?_
      refine lv_sipush (v := 999) hx hb dX13_readTeller_29 rfl ?_
      obtain ⟨z5, h5, h⟩ := ob_some h
      refine k_i (va_runV (As := [.ref (q.2.1 21), .int 0, .int 999]) (rest := []) ⟨hx, hb, hml, hown, hts⟩ (c_X13_readPart (l := l) z4 a0 21 0 999 k0 (by decide) h5) (cwV 3 hts gX13_readTeller_X13_readPart rfl rfl rfl hdV_X13_readPart ⟨Nat.le_of_ble_eq_true rfl, Nat.le_of_ble_eq_true rfl⟩) (pV (T := TX13) hP hK hD hT hG hS k0 (by decide) rfl) rfl rfl hl.1 rfl (lv_room (Nat.le_of_ble_eq_true rfl)) dX13_readTeller_32 ⟨Nat.zero_le _, Nat.zero_le _⟩) hS (fun H locs hP hD hT hS => ?_)
      refine lv_pop hx hb dX13_readTeller_35 rfl ?_
      refine lv_aload_n hx hb dX13_readTeller_36 rfl (lv_at hl 0 rfl) ?_
      refine r_ldcSw (tx := "means") (i := 22) hx hb hG hown (by decide +kernel) dX13_readTeller_37 ?_
      obtain ⟨z6, h6, h⟩ := ob_some h
      refine k_v (va_runV (As := [.ref (q.2.1 22)]) (rest := []) ⟨hx, hb, hml, hown, hts⟩ (c_X13_needs (l := l) z5.2 a0 22 k0 (by decide) h6) (cwV 1 hts gX13_readTeller_X13_needs rfl rfl rfl hdV_X13_needs ⟨Nat.le_of_ble_eq_true rfl, Nat.le_of_ble_eq_true rfl⟩) (pV (T := TX13) hP hK hD hT hG hS k0 (by decide) rfl) rfl rfl hl.1 rfl (lv_room (Nat.le_of_ble_eq_true rfl)) dX13_readTeller_40 ⟨Nat.zero_le _, Nat.zero_le _⟩) hS (fun H locs hP hD hT hS => ?_)
      refine lv_iconst (v := 0) hx hb dX13_readTeller_43 rfl ?_
      refine lv_istore_n (lv' := [(1, .int 0), (0, .ref (ad a0))]) hx hb dX13_readTeller_44 rfl hl (by decide) rfl (fun ls hl => ?_)
      refine lv_aload_n hx hb dX13_readTeller_45 rfl (lv_at hl 1 rfl) ?_
      refine r_get (T := TX13) (v := .int (gI z6 a0 9)) hx hb hts in13 hown hK hP k0 (by decide) rfl 9 (by decide) (hts (.fieldLink RX13 58 "StoneWalkModel" "sort" "I") (List.mem_of_getElem? (i := 2) (by decide +kernel))) rfl (t := 0) rfl rfl dX13_readTeller_46 ?_
      refine lv_iconst (v := 5) hx hb dX13_readTeller_49 rfl ?_
      refine lv_icmp_eq (tgt := 57) hx hb dX13_readTeller_50 rfl (fun c7 => ?_) (fun c7 => ?_)
      · replace h := ite_t c7 h
        refine lv_iconst (v := 0) hx hb dX13_readTeller_57 rfl ?_
        refine lv_istore_n (lv' := [(2, .int 0), (1, .int 0), (0, .ref (ad a0))]) hx hb dX13_readTeller_58 rfl hl (by decide) rfl (fun ls hl => ?_)
        have L8 : ∀ n8 : Nat, ∀ (M8 : MM) (y8_0 : Nat) (y8_1 : Int32) (y8_2 : Int32) (ky8_0 : ok g y8_0 13 0) (H : Heap) (locs : List Loc), f_X13_readTeller_L59 n8 M8 y8_0 y8_1 y8_2 = some Z → va_P D vwCl (wd ad cy g M8) H → va_D A (wd ad cy g M8) → WT g M8 → va_S A s.heap H locs → ∀ (ls : Array Slot), lv_has ls 4 [(0, .ref (ad y8_0)), (1, .int y8_1), (2, .int y8_2)] → W p l e ((headSpec wsX13_readTeller ({ frames := 8, cells := 0, slots := 0, locals := 173 })).room) s m (([.ref (ad a0)] : List Value).toArray) below meth c H locs 0 0 (MQ below (va_Qv (fun u => u = Z) (Wd D ad cy A g q) A) ([.ref (ad a0)]).toArray s 0 0 A) (F0 m 59 ls []) := by
          intro n8
          induction n8 with
          | zero => intro M8 y8_0 y8_1 y8_2 ky8_0 H locs h; exact absurd h (by simp [f_X13_readTeller_L59])
          | succ n8 ih8 =>
            intro M8 y8_0 y8_1 y8_2 ky8_0 H locs h hP hD hT hS ls hl
            rw [f_X13_readTeller_L59] at h
            refine lv_iload_n hx hb dX13_readTeller_59 rfl (lv_at hl 2 rfl) ?_
            refine lv_if_eq (tgt := 112) hx hb dX13_readTeller_60 rfl (fun c9 => ?_) (fun c9 => ?_)
            · replace h := ite_t c9 h
              refine lv_aload_n hx hb dX13_readTeller_112 rfl (lv_at hl 0 rfl) ?_
              refine r_ldcS (tx := "stranger") (i := 23) hx hb hG hown (by decide +kernel) dX13_readTeller_113 ?_
              obtain ⟨z10, h10, h⟩ := ob_some h
              refine k_z (va_runV (As := [.ref (q.2.1 23)]) (rest := []) ⟨hx, hb, hml, hown, hts⟩ (c_X13_eatsWord (l := l) M8 y8_0 23 ky8_0 (by decide) h10) (cwV 1 hts gX13_readTeller_X13_eatsWord rfl rfl rfl hdV_X13_eatsWord ⟨Nat.le_of_ble_eq_true rfl, Nat.le_of_ble_eq_true rfl⟩) (pV (T := TX13) hP hK hD hT hG hS ky8_0 (by decide) rfl) rfl rfl hl.1 rfl (lv_room (Nat.le_of_ble_eq_true rfl)) dX13_readTeller_115 ⟨Nat.zero_le _, Nat.zero_le _⟩) hS (fun H locs hz10 hP hD hT hS => ?_)
              refine lv_istore_n (lv' := [(3, .int z10.1), (0, .ref (ad y8_0)), (1, .int y8_1), (2, .int y8_2)]) hx hb dX13_readTeller_118 rfl hl (by decide) rfl (fun ls hl => ?_)
              refine lv_aload_n hx hb dX13_readTeller_119 rfl (lv_at hl 1 rfl) ?_
              refine r_get (T := TX13) (v := .int (gI z10.2 y8_0 9)) hx hb hts in13 hown hK hP ky8_0 (by decide) rfl 9 (by decide) (hts (.fieldLink RX13 58 "StoneWalkModel" "sort" "I") (List.mem_of_getElem? (i := 2) (by decide +kernel))) rfl (t := 0) rfl rfl dX13_readTeller_120 ?_
              refine lv_iconst (v := 5) hx hb dX13_readTeller_123 rfl ?_
              refine lv_icmp_ne (tgt := 128) hx hb dX13_readTeller_124 rfl (fun c11 => ?_) (fun c11 => ?_)
              · replace h := ite_f c11 h
                refine lv_aload_n hx hb dX13_readTeller_128 rfl (lv_at hl 1 rfl) ?_
                rcases hN12 : gR z10.2 y8_0 4 with _ | b12
                · replace h := oc_n hN12 h
                  refine r_get (T := TX13) (v := .null) hx hb hts in13 hown hK hP ky8_0 (by decide) rfl 4 (by decide) (hts (.fieldLink RX13 150 "StoneWalkModel" "read" "LStoneWalkModel$Island;") (List.mem_of_getElem? (i := 1) (by decide +kernel))) rfl (t := 2) rfl (by show va_rf _ = _; rw [hN12]; rfl) dX13_readTeller_129 ?_
                  exact absurd h (by simp)
                · replace h := oc_s hN12 h
                  have kb12 := hT.f ky8_0 (k := 4) (t := 12) (n := 0) rfl hN12
                  refine r_get (T := TX13) (v := .ref (ad b12)) hx hb hts in13 hown hK hP ky8_0 (by decide) rfl 4 (by decide) (hts (.fieldLink RX13 150 "StoneWalkModel" "read" "LStoneWalkModel$Island;") (List.mem_of_getElem? (i := 1) (by decide +kernel))) rfl (t := 2) rfl (by show va_rf _ = _; rw [hN12]; rfl) dX13_readTeller_129 ?_
                  rcases hN13 : gR z10.2 b12 39 with _ | b13
                  · exact absurd (oc_n hN13 h) (by simp)
                  replace h := oc_s hN13 h
                  have kb13 := hT.f kb12 (k := 39) (t := 15) (n := 3) rfl hN13
                  refine r_getN (T := TX12) (v := .ref (ad b13)) hx hb hts in12 hown hK hP kb12 (by decide) rfl 39 (by decide) (hG.2.2.1 _ (List.mem_of_getElem? (i := 42) rfl)) rfl (t := 2) rfl (by show va_rf _ = _; rw [hN13]; rfl) dX13_readTeller_132 ?_
                  refine lv_aload_n hx hb dX13_readTeller_135 rfl (lv_at hl 1 rfl) ?_
                  rcases hN14 : gR z10.2 y8_0 4 with _ | b14
                  · replace h := oc_n hN14 h
                    refine r_get (T := TX13) (v := .null) hx hb hts in13 hown hK hP ky8_0 (by decide) rfl 4 (by decide) (hts (.fieldLink RX13 150 "StoneWalkModel" "read" "LStoneWalkModel$Island;") (List.mem_of_getElem? (i := 1) (by decide +kernel))) rfl (t := 2) rfl (by show va_rf _ = _; rw [hN14]; rfl) dX13_readTeller_136 ?_
                    exact absurd h (by simp)
                  · replace h := oc_s hN14 h
                    have kb14 := hT.f ky8_0 (k := 4) (t := 12) (n := 0) rfl hN14
                    refine r_get (T := TX13) (v := .ref (ad b14)) hx hb hts in13 hown hK hP ky8_0 (by decide) rfl 4 (by decide) (hts (.fieldLink RX13 150 "StoneWalkModel" "read" "LStoneWalkModel$Island;") (List.mem_of_getElem? (i := 1) (by decide +kernel))) rfl (t := 2) rfl (by show va_rf _ = _; rw [hN14]; rfl) dX13_readTeller_136 ?_
                    refine r_getN (T := TX12) (v := .int (gI z10.2 b14 6)) hx hb hts in12 hown hK hP kb14 (by decide) rfl 6 (by decide) (hG.2.2.1 _ (List.mem_of_getElem? (i := 41) rfl)) rfl (t := 0) rfl rfl dX13_readTeller_139 ?_
                    refine lv_iload_n hx hb dX13_readTeller_142 rfl (lv_at hl 2 rfl) ?_
                    obtain ⟨hn15, h⟩ := chk_some h
                    refine r_iast hx hb hK hP hD hT hS kb13 hn15 dX13_readTeller_143 (fun H locs hP hD hT hS => ?_)
                    refine lv_aload_n hx hb dX13_readTeller_144 rfl (lv_at hl 1 rfl) ?_
                    rcases hN16 : gR (pI z10.2 b13 (ix (gI z10.2 b14 6)) y8_1) y8_0 4 with _ | b16
                    · replace h := oc_n hN16 h
                      refine r_get (T := TX13) (v := .null) hx hb hts in13 hown hK hP ky8_0 (by decide) rfl 4 (by decide) (hts (.fieldLink RX13 150 "StoneWalkModel" "read" "LStoneWalkModel$Island;") (List.mem_of_getElem? (i := 1) (by decide +kernel))) rfl (t := 2) rfl (by show va_rf _ = _; rw [hN16]; rfl) dX13_readTeller_145 ?_
                      exact absurd h (by simp)
                    · replace h := oc_s hN16 h
                      have kb16 := hT.f ky8_0 (k := 4) (t := 12) (n := 0) rfl hN16
                      refine r_get (T := TX13) (v := .ref (ad b16)) hx hb hts in13 hown hK hP ky8_0 (by decide) rfl 4 (by decide) (hts (.fieldLink RX13 150 "StoneWalkModel" "read" "LStoneWalkModel$Island;") (List.mem_of_getElem? (i := 1) (by decide +kernel))) rfl (t := 2) rfl (by show va_rf _ = _; rw [hN16]; rfl) dX13_readTeller_145 ?_
                      rcases hN17 : gR (pI z10.2 b13 (ix (gI z10.2 b14 6)) y8_1) b16 44 with _ | b17
                      · exact absurd (oc_n hN17 h) (by simp)
                      replace h := oc_s hN17 h
                      have kb17 := hT.f kb16 (k := 44) (t := 17) (n := 3) rfl hN17
                      refine r_getN (T := TX12) (v := .ref (ad b17)) hx hb hts in12 hown hK hP kb16 (by decide) rfl 44 (by decide) (hG.2.2.1 _ (List.mem_of_getElem? (i := 43) rfl)) rfl (t := 2) rfl (by show va_rf _ = _; rw [hN17]; rfl) dX13_readTeller_148 ?_
                      refine lv_aload_n hx hb dX13_readTeller_151 rfl (lv_at hl 1 rfl) ?_
                      rcases hN18 : gR (pI z10.2 b13 (ix (gI z10.2 b14 6)) y8_1) y8_0 4 with _ | b18
                      · replace h := oc_n hN18 h
                        refine r_get (T := TX13) (v := .null) hx hb hts in13 hown hK hP ky8_0 (by decide) rfl 4 (by decide) (hts (.fieldLink RX13 150 "StoneWalkModel" "read" "LStoneWalkModel$Island;") (List.mem_of_getElem? (i := 1) (by decide +kernel))) rfl (t := 2) rfl (by show va_rf _ = _; rw [hN18]; rfl) dX13_readTeller_152 ?_
                        exact absurd h (by simp)
                      · replace h := oc_s hN18 h
                        have kb18 := hT.f ky8_0 (k := 4) (t := 12) (n := 0) rfl hN18
                        refine r_get (T := TX13) (v := .ref (ad b18)) hx hb hts in13 hown hK hP ky8_0 (by decide) rfl 4 (by decide) (hts (.fieldLink RX13 150 "StoneWalkModel" "read" "LStoneWalkModel$Island;") (List.mem_of_getElem? (i := 1) (by decide +kernel))) rfl (t := 2) rfl (by show va_rf _ = _; rw [hN18]; rfl) dX13_readTeller_152 ?_
                        refine r_getN (T := TX12) (v := .int (gI (pI z10.2 b13 (ix (gI z10.2 b14 6)) y8_1) b18 6)) hx hb hts in12 hown hK hP kb18 (by decide) rfl 6 (by decide) (hG.2.2.1 _ (List.mem_of_getElem? (i := 41) rfl)) rfl (t := 0) rfl rfl dX13_readTeller_155 ?_
                        refine lv_iload_n hx hb dX13_readTeller_158 rfl (lv_at hl 0 rfl) ?_
                        obtain ⟨hn19, h⟩ := chk_some h
                        refine r_zast hx hb hK hP hD hT hS kb17 hn19 hz10 dX13_readTeller_159 (fun H locs hP hD hT hS => ?_)
                        refine lv_aload_n hx hb dX13_readTeller_160 rfl (lv_at hl 1 rfl) ?_
                        rcases hN20 : gR (pI (pI z10.2 b13 (ix (gI z10.2 b14 6)) y8_1) b17 (ix (gI (pI z10.2 b13 (ix (gI z10.2 b14 6)) y8_1) b18 6)) z10.1) y8_0 4 with _ | b20
                        · replace h := oc_n hN20 h
                          refine r_get (T := TX13) (v := .null) hx hb hts in13 hown hK hP ky8_0 (by decide) rfl 4 (by decide) (hts (.fieldLink RX13 150 "StoneWalkModel" "read" "LStoneWalkModel$Island;") (List.mem_of_getElem? (i := 1) (by decide +kernel))) rfl (t := 2) rfl (by show va_rf _ = _; rw [hN20]; rfl) dX13_readTeller_161 ?_
                          refine lv_dup hx hb dX13_readTeller_164 rfl ?_
                          exact absurd h (by simp)
                        · replace h := oc_s hN20 h
                          have kb20 := hT.f ky8_0 (k := 4) (t := 12) (n := 0) rfl hN20
                          refine r_get (T := TX13) (v := .ref (ad b20)) hx hb hts in13 hown hK hP ky8_0 (by decide) rfl 4 (by decide) (hts (.fieldLink RX13 150 "StoneWalkModel" "read" "LStoneWalkModel$Island;") (List.mem_of_getElem? (i := 1) (by decide +kernel))) rfl (t := 2) rfl (by show va_rf _ = _; rw [hN20]; rfl) dX13_readTeller_161 ?_
                          refine lv_dup hx hb dX13_readTeller_164 rfl ?_
                          refine r_getN (T := TX12) (v := .int (gI (pI (pI z10.2 b13 (ix (gI z10.2 b14 6)) y8_1) b17 (ix (gI (pI z10.2 b13 (ix (gI z10.2 b14 6)) y8_1) b18 6)) z10.1) b20 6)) hx hb hts in12 hown hK hP kb20 (by decide) rfl 6 (by decide) (hG.2.2.1 _ (List.mem_of_getElem? (i := 41) rfl)) rfl (t := 0) rfl rfl dX13_readTeller_165 ?_
                          refine lv_iconst (v := 1) hx hb dX13_readTeller_168 rfl ?_
                          refine lv_iadd hx hb dX13_readTeller_169 ?_
                          refine r_putIN (T := TX12) (ty := .int) (v := (gI (pI (pI z10.2 b13 (ix (gI z10.2 b14 6)) y8_1) b17 (ix (gI (pI z10.2 b13 (ix (gI z10.2 b14 6)) y8_1) b18 6)) z10.1) b20 6) + 1) hx hb hts in12 tyX12 tyX12_ok nmX12 hown hK hP hD hT hS kb20 (by decide) rfl 6 (by decide) (hG.2.2.1 _ (List.mem_of_getElem? (i := 41) rfl)) rfl rfl (tyX12_ok 6 (by decide)) rfl rfl rfl dX13_readTeller_170 (fun H locs hP hD hT hS => ?_)
                          exact r_vret hx hb hr hlocks hP hK hD hT hG hS (Option.some.inj h) dX13_readTeller_173
              · replace h := ite_t c11 h
                exact r_vret hx hb hr hlocks hP hK hD hT hG hS (Option.some.inj h) dX13_readTeller_127
            · replace h := ite_f c9 h
              refine lv_aload_n hx hb dX13_readTeller_63 rfl (lv_at hl 0 rfl) ?_
              refine lv_iconst (v := 0) hx hb dX13_readTeller_64 rfl ?_
              obtain ⟨z21, h21, h⟩ := ob_some h
              refine k_i (va_runV (As := [.int 0]) (rest := []) ⟨hx, hb, hml, hown, hts⟩ (c_X13_known (l := l) M8 y8_0 0 ky8_0 h21) (cwV 1 hts gX13_readTeller_X13_known rfl rfl rfl hdV_X13_known ⟨Nat.le_of_ble_eq_true rfl, Nat.le_of_ble_eq_true rfl⟩) (pV (T := TX13) hP hK hD hT hG hS ky8_0 (by decide) rfl) rfl rfl hl.1 rfl (lv_room (Nat.le_of_ble_eq_true rfl)) dX13_readTeller_65 ⟨Nat.zero_le _, Nat.zero_le _⟩) hS (fun H locs hP hD hT hS => ?_)
              refine lv_istore_n (lv' := [(3, .int z21.1), (0, .ref (ad y8_0)), (1, .int y8_1), (2, .int y8_2)]) hx hb dX13_readTeller_68 rfl hl (by decide) rfl (fun ls hl => ?_)
              refine lv_iload_n hx hb dX13_readTeller_69 rfl (lv_at hl 2 rfl) ?_
              refine lv_iload_n hx hb dX13_readTeller_70 rfl (lv_at hl 0 rfl) ?_
              refine lv_ishr hx hb dX13_readTeller_71 ?_
              refine lv_iconst (v := 1) hx hb dX13_readTeller_72 rfl ?_
              refine lv_iand hx hb dX13_readTeller_73 ?_
              refine lv_iconst (v := 1) hx hb dX13_readTeller_74 rfl ?_
              refine lv_icmp_ne (tgt := 83) hx hb dX13_readTeller_75 rfl (fun c22 => ?_) (fun c22 => ?_)
              · replace h := ite_f c22 h
                refine lv_aload_n hx hb dX13_readTeller_83 rfl (lv_at hl 1 rfl) ?_
                obtain ⟨z23, h23, h⟩ := ob_some h
                refine k_v (va_runV (As := []) (rest := []) ⟨hx, hb, hml, hown, hts⟩ (c_X13_goesOn (l := l) z21.2 y8_0 ky8_0 h23) (cwV 0 hts gX13_readTeller_X13_goesOn rfl rfl rfl hdV_X13_goesOn ⟨Nat.le_of_ble_eq_true rfl, Nat.le_of_ble_eq_true rfl⟩) (pV (T := TX13) hP hK hD hT hG hS ky8_0 (by decide) rfl) rfl rfl hl.1 rfl (lv_room (Nat.le_of_ble_eq_true rfl)) dX13_readTeller_84 ⟨Nat.zero_le _, Nat.zero_le _⟩) hS (fun H locs hP hD hT hS => ?_)
                refine lv_aload_n hx hb dX13_readTeller_87 rfl (lv_at hl 1 rfl) ?_
                refine r_get (T := TX13) (v := .int (gI z23 y8_0 9)) hx hb hts in13 hown hK hP ky8_0 (by decide) rfl 9 (by decide) (hts (.fieldLink RX13 58 "StoneWalkModel" "sort" "I") (List.mem_of_getElem? (i := 2) (by decide +kernel))) rfl (t := 0) rfl rfl dX13_readTeller_88 ?_
                refine lv_iconst (v := 5) hx hb dX13_readTeller_91 rfl ?_
                refine lv_icmp_ne (tgt := 96) hx hb dX13_readTeller_92 rfl (fun c24 => ?_) (fun c24 => ?_)
                · replace h := ite_f c24 h
                  refine lv_iload_n hx hb dX13_readTeller_96 rfl (lv_at hl 2 rfl) ?_
                  refine lv_iconst (v := 1) hx hb dX13_readTeller_97 rfl ?_
                  refine lv_iload_n hx hb dX13_readTeller_98 rfl (lv_at hl 0 rfl) ?_
                  refine lv_ishl hx hb dX13_readTeller_99 ?_
                  refine lv_ior hx hb dX13_readTeller_100 ?_
                  refine lv_istore_n (lv' := [(1, .int (y8_1 ||| (1 <<< (z21.1 &&& 31)))), (3, .int z21.1), (0, .ref (ad y8_0)), (2, .int y8_2)]) hx hb dX13_readTeller_101 rfl hl (by decide) rfl (fun ls hl => ?_)
                  refine lv_aload_n hx hb dX13_readTeller_102 rfl (lv_at hl 2 rfl) ?_
                  refine lv_bipush (v := 44) hx hb dX13_readTeller_103 rfl ?_
                  obtain ⟨z25, h25, h⟩ := ob_some h
                  refine k_z (va_runV (As := [.int 44]) (rest := []) ⟨hx, hb, hml, hown, hts⟩ (c_X13_eatsSign (l := l) z23 y8_0 44 ky8_0 h25) (cwV 1 hts gX13_readTeller_X13_eatsSign rfl rfl rfl hdV_X13_eatsSign ⟨Nat.le_of_ble_eq_true rfl, Nat.le_of_ble_eq_true rfl⟩) (pV (T := TX13) hP hK hD hT hG hS ky8_0 (by decide) rfl) rfl rfl hl.1 rfl (lv_room (Nat.le_of_ble_eq_true rfl)) dX13_readTeller_105 ⟨Nat.zero_le _, Nat.zero_le _⟩) hS (fun H locs hz25 hP hD hT hS => ?_)
                  refine lv_istore_n (lv' := [(2, .int z25.1), (1, .int (y8_1 ||| (1 <<< (z21.1 &&& 31)))), (3, .int z21.1), (0, .ref (ad y8_0))]) hx hb dX13_readTeller_108 rfl hl (by decide) rfl (fun ls hl => ?_)
                  refine lv_goto (tgt := 59) hx hb dX13_readTeller_109 rfl ?_
                  exact ih8 z25.2 y8_0 (y8_1 ||| (1 <<< (z21.1 &&& 31))) z25.1 ky8_0 _ _ h hP hD hT hS ls (lv_sub hl [3, 1, 0] rfl)
                · replace h := ite_t c24 h
                  exact r_vret hx hb hr hlocks hP hK hD hT hG hS (Option.some.inj h) dX13_readTeller_95
              · replace h := ite_t c22 h
                refine lv_aload_n hx hb dX13_readTeller_78 rfl (lv_at hl 1 rfl) ?_
                refine lv_iconst (v := 3) hx hb dX13_readTeller_79 rfl ?_
                obtain ⟨z26, h26, h⟩ := ob_some h
                refine k_v (va_runV (As := [.int 3]) (rest := []) ⟨hx, hb, hml, hown, hts⟩ (c_X13_wrong (l := l) z21.2 y8_0 3 ky8_0 h26) (cwV 1 hts gX13_readTeller_X13_wrong rfl rfl rfl hdV_X13_wrong ⟨Nat.le_of_ble_eq_true rfl, Nat.le_of_ble_eq_true rfl⟩) (pV (T := TX13) hP hK hD hT hG hS ky8_0 (by decide) rfl) rfl rfl hl.1 rfl (lv_room (Nat.le_of_ble_eq_true rfl)) dX13_readTeller_80 ⟨Nat.zero_le _, Nat.zero_le _⟩) hS (fun H locs hP hD hT hS => ?_)
                refine lv_aload_n hx hb dX13_readTeller_83 rfl (lv_at hl 1 rfl) ?_
                obtain ⟨z27, h27, h⟩ := ob_some h
                refine k_v (va_runV (As := []) (rest := []) ⟨hx, hb, hml, hown, hts⟩ (c_X13_goesOn (l := l) z26 y8_0 ky8_0 h27) (cwV 0 hts gX13_readTeller_X13_goesOn rfl rfl rfl hdV_X13_goesOn ⟨Nat.le_of_ble_eq_true rfl, Nat.le_of_ble_eq_true rfl⟩) (pV (T := TX13) hP hK hD hT hG hS ky8_0 (by decide) rfl) rfl rfl hl.1 rfl (lv_room (Nat.le_of_ble_eq_true rfl)) dX13_readTeller_84 ⟨Nat.zero_le _, Nat.zero_le _⟩) hS (fun H locs hP hD hT hS => ?_)
                refine lv_aload_n hx hb dX13_readTeller_87 rfl (lv_at hl 1 rfl) ?_
                refine r_get (T := TX13) (v := .int (gI z27 y8_0 9)) hx hb hts in13 hown hK hP ky8_0 (by decide) rfl 9 (by decide) (hts (.fieldLink RX13 58 "StoneWalkModel" "sort" "I") (List.mem_of_getElem? (i := 2) (by decide +kernel))) rfl (t := 0) rfl rfl dX13_readTeller_88 ?_
                refine lv_iconst (v := 5) hx hb dX13_readTeller_91 rfl ?_
                refine lv_icmp_ne (tgt := 96) hx hb dX13_readTeller_92 rfl (fun c28 => ?_) (fun c28 => ?_)
                · replace h := ite_f c28 h
                  refine lv_iload_n hx hb dX13_readTeller_96 rfl (lv_at hl 2 rfl) ?_
                  refine lv_iconst (v := 1) hx hb dX13_readTeller_97 rfl ?_
                  refine lv_iload_n hx hb dX13_readTeller_98 rfl (lv_at hl 0 rfl) ?_
                  refine lv_ishl hx hb dX13_readTeller_99 ?_
                  refine lv_ior hx hb dX13_readTeller_100 ?_
                  refine lv_istore_n (lv' := [(1, .int (y8_1 ||| (1 <<< (z21.1 &&& 31)))), (3, .int z21.1), (0, .ref (ad y8_0)), (2, .int y8_2)]) hx hb dX13_readTeller_101 rfl hl (by decide) rfl (fun ls hl => ?_)
                  refine lv_aload_n hx hb dX13_readTeller_102 rfl (lv_at hl 2 rfl) ?_
                  refine lv_bipush (v := 44) hx hb dX13_readTeller_103 rfl ?_
                  obtain ⟨z29, h29, h⟩ := ob_some h
                  refine k_z (va_runV (As := [.int 44]) (rest := []) ⟨hx, hb, hml, hown, hts⟩ (c_X13_eatsSign (l := l) z27 y8_0 44 ky8_0 h29) (cwV 1 hts gX13_readTeller_X13_eatsSign rfl rfl rfl hdV_X13_eatsSign ⟨Nat.le_of_ble_eq_true rfl, Nat.le_of_ble_eq_true rfl⟩) (pV (T := TX13) hP hK hD hT hG hS ky8_0 (by decide) rfl) rfl rfl hl.1 rfl (lv_room (Nat.le_of_ble_eq_true rfl)) dX13_readTeller_105 ⟨Nat.zero_le _, Nat.zero_le _⟩) hS (fun H locs hz29 hP hD hT hS => ?_)
                  refine lv_istore_n (lv' := [(2, .int z29.1), (1, .int (y8_1 ||| (1 <<< (z21.1 &&& 31)))), (3, .int z21.1), (0, .ref (ad y8_0))]) hx hb dX13_readTeller_108 rfl hl (by decide) rfl (fun ls hl => ?_)
                  refine lv_goto (tgt := 59) hx hb dX13_readTeller_109 rfl ?_
                  exact ih8 z29.2 y8_0 (y8_1 ||| (1 <<< (z21.1 &&& 31))) z29.1 ky8_0 _ _ h hP hD hT hS ls (lv_sub hl [3, 1, 0] rfl)
                · replace h := ite_t c28 h
                  exact r_vret hx hb hr hlocks hP hK hD hT hG hS (Option.some.inj h) dX13_readTeller_95
        exact L8 FU z6 a0 0 0 k0 _ _ h hP hD hT hS ls (lv_sub hl [2, 1, 0] rfl)
      · replace h := ite_f c7 h
        refine lv_iconst (v := 1) hx hb dX13_readTeller_53 rfl ?_
        refine lv_goto (tgt := 58) hx hb dX13_readTeller_54 rfl ?_
        refine lv_istore_n (lv' := [(2, .int 1), (1, .int 0), (0, .ref (ad a0))]) hx hb dX13_readTeller_58 rfl hl (by decide) rfl (fun ls hl => ?_)
        have L30 : ∀ n30 : Nat, ∀ (M30 : MM) (y30_0 : Nat) (y30_1 : Int32) (y30_2 : Int32) (ky30_0 : ok g y30_0 13 0) (H : Heap) (locs : List Loc), f_X13_readTeller_L59_1 n30 M30 y30_0 y30_1 y30_2 = some Z → va_P D vwCl (wd ad cy g M30) H → va_D A (wd ad cy g M30) → WT g M30 → va_S A s.heap H locs → ∀ (ls : Array Slot), lv_has ls 4 [(0, .ref (ad y30_0)), (1, .int y30_1), (2, .int y30_2)] → W p l e ((headSpec wsX13_readTeller ({ frames := 8, cells := 0, slots := 0, locals := 173 })).room) s m (([.ref (ad a0)] : List Value).toArray) below meth c H locs 0 0 (MQ below (va_Qv (fun u => u = Z) (Wd D ad cy A g q) A) ([.ref (ad a0)]).toArray s 0 0 A) (F0 m 59 ls []) := by
          intro n30
          induction n30 with
          | zero => intro M30 y30_0 y30_1 y30_2 ky30_0 H locs h; exact absurd h (by simp [f_X13_readTeller_L59_1])
          | succ n30 ih30 =>
            intro M30 y30_0 y30_1 y30_2 ky30_0 H locs h hP hD hT hS ls hl
            rw [f_X13_readTeller_L59_1] at h
            refine lv_iload_n hx hb dX13_readTeller_59 rfl (lv_at hl 2 rfl) ?_
            refine lv_if_eq (tgt := 112) hx hb dX13_readTeller_60 rfl (fun c31 => ?_) (fun c31 => ?_)
            · replace h := ite_t c31 h
              refine lv_aload_n hx hb dX13_readTeller_112 rfl (lv_at hl 0 rfl) ?_
              refine r_ldcS (tx := "stranger") (i := 23) hx hb hG hown (by decide +kernel) dX13_readTeller_113 ?_
              obtain ⟨z32, h32, h⟩ := ob_some h
              refine k_z (va_runV (As := [.ref (q.2.1 23)]) (rest := []) ⟨hx, hb, hml, hown, hts⟩ (c_X13_eatsWord (l := l) M30 y30_0 23 ky30_0 (by decide) h32) (cwV 1 hts gX13_readTeller_X13_eatsWord rfl rfl rfl hdV_X13_eatsWord ⟨Nat.le_of_ble_eq_true rfl, Nat.le_of_ble_eq_true rfl⟩) (pV (T := TX13) hP hK hD hT hG hS ky30_0 (by decide) rfl) rfl rfl hl.1 rfl (lv_room (Nat.le_of_ble_eq_true rfl)) dX13_readTeller_115 ⟨Nat.zero_le _, Nat.zero_le _⟩) hS (fun H locs hz32 hP hD hT hS => ?_)
              refine lv_istore_n (lv' := [(3, .int z32.1), (0, .ref (ad y30_0)), (1, .int y30_1), (2, .int y30_2)]) hx hb dX13_readTeller_118 rfl hl (by decide) rfl (fun ls hl => ?_)
              refine lv_aload_n hx hb dX13_readTeller_119 rfl (lv_at hl 1 rfl) ?_
              refine r_get (T := TX13) (v := .int (gI z32.2 y30_0 9)) hx hb hts in13 hown hK hP ky30_0 (by decide) rfl 9 (by decide) (hts (.fieldLink RX13 58 "StoneWalkModel" "sort" "I") (List.mem_of_getElem? (i := 2) (by decide +kernel))) rfl (t := 0) rfl rfl dX13_readTeller_120 ?_
              refine lv_iconst (v := 5) hx hb dX13_readTeller_123 rfl ?_
              refine lv_icmp_ne (tgt := 128) hx hb dX13_readTeller_124 rfl (fun c33 => ?_) (fun c33 => ?_)
              · replace h := ite_f c33 h
                refine lv_aload_n hx hb dX13_readTeller_128 rfl (lv_at hl 1 rfl) ?_
                rcases hN34 : gR z32.2 y30_0 4 with _ | b34
                · replace h := oc_n hN34 h
                  refine r_get (T := TX13) (v := .null) hx hb hts in13 hown hK hP ky30_0 (by decide) rfl 4 (by decide) (hts (.fieldLink RX13 150 "StoneWalkModel" "read" "LStoneWalkModel$Island;") (List.mem_of_getElem? (i := 1) (by decide +kernel))) rfl (t := 2) rfl (by show va_rf _ = _; rw [hN34]; rfl) dX13_readTeller_129 ?_
                  exact absurd h (by simp)
                · replace h := oc_s hN34 h
                  have kb34 := hT.f ky30_0 (k := 4) (t := 12) (n := 0) rfl hN34
                  refine r_get (T := TX13) (v := .ref (ad b34)) hx hb hts in13 hown hK hP ky30_0 (by decide) rfl 4 (by decide) (hts (.fieldLink RX13 150 "StoneWalkModel" "read" "LStoneWalkModel$Island;") (List.mem_of_getElem? (i := 1) (by decide +kernel))) rfl (t := 2) rfl (by show va_rf _ = _; rw [hN34]; rfl) dX13_readTeller_129 ?_
                  rcases hN35 : gR z32.2 b34 39 with _ | b35
                  · exact absurd (oc_n hN35 h) (by simp)
                  replace h := oc_s hN35 h
                  have kb35 := hT.f kb34 (k := 39) (t := 15) (n := 3) rfl hN35
                  refine r_getN (T := TX12) (v := .ref (ad b35)) hx hb hts in12 hown hK hP kb34 (by decide) rfl 39 (by decide) (hG.2.2.1 _ (List.mem_of_getElem? (i := 42) rfl)) rfl (t := 2) rfl (by show va_rf _ = _; rw [hN35]; rfl) dX13_readTeller_132 ?_
                  refine lv_aload_n hx hb dX13_readTeller_135 rfl (lv_at hl 1 rfl) ?_
                  rcases hN36 : gR z32.2 y30_0 4 with _ | b36
                  · replace h := oc_n hN36 h
                    refine r_get (T := TX13) (v := .null) hx hb hts in13 hown hK hP ky30_0 (by decide) rfl 4 (by decide) (hts (.fieldLink RX13 150 "StoneWalkModel" "read" "LStoneWalkModel$Island;") (List.mem_of_getElem? (i := 1) (by decide +kernel))) rfl (t := 2) rfl (by show va_rf _ = _; rw [hN36]; rfl) dX13_readTeller_136 ?_
                    exact absurd h (by simp)
                  · replace h := oc_s hN36 h
                    have kb36 := hT.f ky30_0 (k := 4) (t := 12) (n := 0) rfl hN36
                    refine r_get (T := TX13) (v := .ref (ad b36)) hx hb hts in13 hown hK hP ky30_0 (by decide) rfl 4 (by decide) (hts (.fieldLink RX13 150 "StoneWalkModel" "read" "LStoneWalkModel$Island;") (List.mem_of_getElem? (i := 1) (by decide +kernel))) rfl (t := 2) rfl (by show va_rf _ = _; rw [hN36]; rfl) dX13_readTeller_136 ?_
                    refine r_getN (T := TX12) (v := .int (gI z32.2 b36 6)) hx hb hts in12 hown hK hP kb36 (by decide) rfl 6 (by decide) (hG.2.2.1 _ (List.mem_of_getElem? (i := 41) rfl)) rfl (t := 0) rfl rfl dX13_readTeller_139 ?_
                    refine lv_iload_n hx hb dX13_readTeller_142 rfl (lv_at hl 2 rfl) ?_
                    obtain ⟨hn37, h⟩ := chk_some h
                    refine r_iast hx hb hK hP hD hT hS kb35 hn37 dX13_readTeller_143 (fun H locs hP hD hT hS => ?_)
                    refine lv_aload_n hx hb dX13_readTeller_144 rfl (lv_at hl 1 rfl) ?_
                    rcases hN38 : gR (pI z32.2 b35 (ix (gI z32.2 b36 6)) y30_1) y30_0 4 with _ | b38
                    · replace h := oc_n hN38 h
                      refine r_get (T := TX13) (v := .null) hx hb hts in13 hown hK hP ky30_0 (by decide) rfl 4 (by decide) (hts (.fieldLink RX13 150 "StoneWalkModel" "read" "LStoneWalkModel$Island;") (List.mem_of_getElem? (i := 1) (by decide +kernel))) rfl (t := 2) rfl (by show va_rf _ = _; rw [hN38]; rfl) dX13_readTeller_145 ?_
                      exact absurd h (by simp)
                    · replace h := oc_s hN38 h
                      have kb38 := hT.f ky30_0 (k := 4) (t := 12) (n := 0) rfl hN38
                      refine r_get (T := TX13) (v := .ref (ad b38)) hx hb hts in13 hown hK hP ky30_0 (by decide) rfl 4 (by decide) (hts (.fieldLink RX13 150 "StoneWalkModel" "read" "LStoneWalkModel$Island;") (List.mem_of_getElem? (i := 1) (by decide +kernel))) rfl (t := 2) rfl (by show va_rf _ = _; rw [hN38]; rfl) dX13_readTeller_145 ?_
                      rcases hN39 : gR (pI z32.2 b35 (ix (gI z32.2 b36 6)) y30_1) b38 44 with _ | b39
                      · exact absurd (oc_n hN39 h) (by simp)
                      replace h := oc_s hN39 h
                      have kb39 := hT.f kb38 (k := 44) (t := 17) (n := 3) rfl hN39
                      refine r_getN (T := TX12) (v := .ref (ad b39)) hx hb hts in12 hown hK hP kb38 (by decide) rfl 44 (by decide) (hG.2.2.1 _ (List.mem_of_getElem? (i := 43) rfl)) rfl (t := 2) rfl (by show va_rf _ = _; rw [hN39]; rfl) dX13_readTeller_148 ?_
                      refine lv_aload_n hx hb dX13_readTeller_151 rfl (lv_at hl 1 rfl) ?_
                      rcases hN40 : gR (pI z32.2 b35 (ix (gI z32.2 b36 6)) y30_1) y30_0 4 with _ | b40
                      · replace h := oc_n hN40 h
                        refine r_get (T := TX13) (v := .null) hx hb hts in13 hown hK hP ky30_0 (by decide) rfl 4 (by decide) (hts (.fieldLink RX13 150 "StoneWalkModel" "read" "LStoneWalkModel$Island;") (List.mem_of_getElem? (i := 1) (by decide +kernel))) rfl (t := 2) rfl (by show va_rf _ = _; rw [hN40]; rfl) dX13_readTeller_152 ?_
                        exact absurd h (by simp)
                      · replace h := oc_s hN40 h
                        have kb40 := hT.f ky30_0 (k := 4) (t := 12) (n := 0) rfl hN40
                        refine r_get (T := TX13) (v := .ref (ad b40)) hx hb hts in13 hown hK hP ky30_0 (by decide) rfl 4 (by decide) (hts (.fieldLink RX13 150 "StoneWalkModel" "read" "LStoneWalkModel$Island;") (List.mem_of_getElem? (i := 1) (by decide +kernel))) rfl (t := 2) rfl (by show va_rf _ = _; rw [hN40]; rfl) dX13_readTeller_152 ?_
                        refine r_getN (T := TX12) (v := .int (gI (pI z32.2 b35 (ix (gI z32.2 b36 6)) y30_1) b40 6)) hx hb hts in12 hown hK hP kb40 (by decide) rfl 6 (by decide) (hG.2.2.1 _ (List.mem_of_getElem? (i := 41) rfl)) rfl (t := 0) rfl rfl dX13_readTeller_155 ?_
                        refine lv_iload_n hx hb dX13_readTeller_158 rfl (lv_at hl 0 rfl) ?_
                        obtain ⟨hn41, h⟩ := chk_some h
                        refine r_zast hx hb hK hP hD hT hS kb39 hn41 hz32 dX13_readTeller_159 (fun H locs hP hD hT hS => ?_)
                        refine lv_aload_n hx hb dX13_readTeller_160 rfl (lv_at hl 1 rfl) ?_
                        rcases hN42 : gR (pI (pI z32.2 b35 (ix (gI z32.2 b36 6)) y30_1) b39 (ix (gI (pI z32.2 b35 (ix (gI z32.2 b36 6)) y30_1) b40 6)) z32.1) y30_0 4 with _ | b42
                        · replace h := oc_n hN42 h
                          refine r_get (T := TX13) (v := .null) hx hb hts in13 hown hK hP ky30_0 (by decide) rfl 4 (by decide) (hts (.fieldLink RX13 150 "StoneWalkModel" "read" "LStoneWalkModel$Island;") (List.mem_of_getElem? (i := 1) (by decide +kernel))) rfl (t := 2) rfl (by show va_rf _ = _; rw [hN42]; rfl) dX13_readTeller_161 ?_
                          refine lv_dup hx hb dX13_readTeller_164 rfl ?_
                          exact absurd h (by simp)
                        · replace h := oc_s hN42 h
                          have kb42 := hT.f ky30_0 (k := 4) (t := 12) (n := 0) rfl hN42
                          refine r_get (T := TX13) (v := .ref (ad b42)) hx hb hts in13 hown hK hP ky30_0 (by decide) rfl 4 (by decide) (hts (.fieldLink RX13 150 "StoneWalkModel" "read" "LStoneWalkModel$Island;") (List.mem_of_getElem? (i := 1) (by decide +kernel))) rfl (t := 2) rfl (by show va_rf _ = _; rw [hN42]; rfl) dX13_readTeller_161 ?_
                          refine lv_dup hx hb dX13_readTeller_164 rfl ?_
                          refine r_getN (T := TX12) (v := .int (gI (pI (pI z32.2 b35 (ix (gI z32.2 b36 6)) y30_1) b39 (ix (gI (pI z32.2 b35 (ix (gI z32.2 b36 6)) y30_1) b40 6)) z32.1) b42 6)) hx hb hts in12 hown hK hP kb42 (by decide) rfl 6 (by decide) (hG.2.2.1 _ (List.mem_of_getElem? (i := 41) rfl)) rfl (t := 0) rfl rfl dX13_readTeller_165 ?_
                          refine lv_iconst (v := 1) hx hb dX13_readTeller_168 rfl ?_
                          refine lv_iadd hx hb dX13_readTeller_169 ?_
                          refine r_putIN (T := TX12) (ty := .int) (v := (gI (pI (pI z32.2 b35 (ix (gI z32.2 b36 6)) y30_1) b39 (ix (gI (pI z32.2 b35 (ix (gI z32.2 b36 6)) y30_1) b40 6)) z32.1) b42 6) + 1) hx hb hts in12 tyX12 tyX12_ok nmX12 hown hK hP hD hT hS kb42 (by decide) rfl 6 (by decide) (hG.2.2.1 _ (List.mem_of_getElem? (i := 41) rfl)) rfl rfl (tyX12_ok 6 (by decide)) rfl rfl rfl dX13_readTeller_170 (fun H locs hP hD hT hS => ?_)
                          exact r_vret hx hb hr hlocks hP hK hD hT hG hS (Option.some.inj h) dX13_readTeller_173
              · replace h := ite_t c33 h
                exact r_vret hx hb hr hlocks hP hK hD hT hG hS (Option.some.inj h) dX13_readTeller_127
            · replace h := ite_f c31 h
              refine lv_aload_n hx hb dX13_readTeller_63 rfl (lv_at hl 0 rfl) ?_
              refine lv_iconst (v := 0) hx hb dX13_readTeller_64 rfl ?_
              obtain ⟨z43, h43, h⟩ := ob_some h
              refine k_i (va_runV (As := [.int 0]) (rest := []) ⟨hx, hb, hml, hown, hts⟩ (c_X13_known (l := l) M30 y30_0 0 ky30_0 h43) (cwV 1 hts gX13_readTeller_X13_known rfl rfl rfl hdV_X13_known ⟨Nat.le_of_ble_eq_true rfl, Nat.le_of_ble_eq_true rfl⟩) (pV (T := TX13) hP hK hD hT hG hS ky30_0 (by decide) rfl) rfl rfl hl.1 rfl (lv_room (Nat.le_of_ble_eq_true rfl)) dX13_readTeller_65 ⟨Nat.zero_le _, Nat.zero_le _⟩) hS (fun H locs hP hD hT hS => ?_)
              refine lv_istore_n (lv' := [(3, .int z43.1), (0, .ref (ad y30_0)), (1, .int y30_1), (2, .int y30_2)]) hx hb dX13_readTeller_68 rfl hl (by decide) rfl (fun ls hl => ?_)
              refine lv_iload_n hx hb dX13_readTeller_69 rfl (lv_at hl 2 rfl) ?_
              refine lv_iload_n hx hb dX13_readTeller_70 rfl (lv_at hl 0 rfl) ?_
              refine lv_ishr hx hb dX13_readTeller_71 ?_
              refine lv_iconst (v := 1) hx hb dX13_readTeller_72 rfl ?_
              refine lv_iand hx hb dX13_readTeller_73 ?_
              refine lv_iconst (v := 1) hx hb dX13_readTeller_74 rfl ?_
              refine lv_icmp_ne (tgt := 83) hx hb dX13_readTeller_75 rfl (fun c44 => ?_) (fun c44 => ?_)
              · replace h := ite_f c44 h
                refine lv_aload_n hx hb dX13_readTeller_83 rfl (lv_at hl 1 rfl) ?_
                obtain ⟨z45, h45, h⟩ := ob_some h
                refine k_v (va_runV (As := []) (rest := []) ⟨hx, hb, hml, hown, hts⟩ (c_X13_goesOn (l := l) z43.2 y30_0 ky30_0 h45) (cwV 0 hts gX13_readTeller_X13_goesOn rfl rfl rfl hdV_X13_goesOn ⟨Nat.le_of_ble_eq_true rfl, Nat.le_of_ble_eq_true rfl⟩) (pV (T := TX13) hP hK hD hT hG hS ky30_0 (by decide) rfl) rfl rfl hl.1 rfl (lv_room (Nat.le_of_ble_eq_true rfl)) dX13_readTeller_84 ⟨Nat.zero_le _, Nat.zero_le _⟩) hS (fun H locs hP hD hT hS => ?_)
                refine lv_aload_n hx hb dX13_readTeller_87 rfl (lv_at hl 1 rfl) ?_
                refine r_get (T := TX13) (v := .int (gI z45 y30_0 9)) hx hb hts in13 hown hK hP ky30_0 (by decide) rfl 9 (by decide) (hts (.fieldLink RX13 58 "StoneWalkModel" "sort" "I") (List.mem_of_getElem? (i := 2) (by decide +kernel))) rfl (t := 0) rfl rfl dX13_readTeller_88 ?_
                refine lv_iconst (v := 5) hx hb dX13_readTeller_91 rfl ?_
                refine lv_icmp_ne (tgt := 96) hx hb dX13_readTeller_92 rfl (fun c46 => ?_) (fun c46 => ?_)
                · replace h := ite_f c46 h
                  refine lv_iload_n hx hb dX13_readTeller_96 rfl (lv_at hl 2 rfl) ?_
                  refine lv_iconst (v := 1) hx hb dX13_readTeller_97 rfl ?_
                  refine lv_iload_n hx hb dX13_readTeller_98 rfl (lv_at hl 0 rfl) ?_
                  refine lv_ishl hx hb dX13_readTeller_99 ?_
                  refine lv_ior hx hb dX13_readTeller_100 ?_
                  refine lv_istore_n (lv' := [(1, .int (y30_1 ||| (1 <<< (z43.1 &&& 31)))), (3, .int z43.1), (0, .ref (ad y30_0)), (2, .int y30_2)]) hx hb dX13_readTeller_101 rfl hl (by decide) rfl (fun ls hl => ?_)
                  refine lv_aload_n hx hb dX13_readTeller_102 rfl (lv_at hl 2 rfl) ?_
                  refine lv_bipush (v := 44) hx hb dX13_readTeller_103 rfl ?_
                  obtain ⟨z47, h47, h⟩ := ob_some h
                  refine k_z (va_runV (As := [.int 44]) (rest := []) ⟨hx, hb, hml, hown, hts⟩ (c_X13_eatsSign (l := l) z45 y30_0 44 ky30_0 h47) (cwV 1 hts gX13_readTeller_X13_eatsSign rfl rfl rfl hdV_X13_eatsSign ⟨Nat.le_of_ble_eq_true rfl, Nat.le_of_ble_eq_true rfl⟩) (pV (T := TX13) hP hK hD hT hG hS ky30_0 (by decide) rfl) rfl rfl hl.1 rfl (lv_room (Nat.le_of_ble_eq_true rfl)) dX13_readTeller_105 ⟨Nat.zero_le _, Nat.zero_le _⟩) hS (fun H locs hz47 hP hD hT hS => ?_)
                  refine lv_istore_n (lv' := [(2, .int z47.1), (1, .int (y30_1 ||| (1 <<< (z43.1 &&& 31)))), (3, .int z43.1), (0, .ref (ad y30_0))]) hx hb dX13_readTeller_108 rfl hl (by decide) rfl (fun ls hl => ?_)
                  refine lv_goto (tgt := 59) hx hb dX13_readTeller_109 rfl ?_
                  exact ih30 z47.2 y30_0 (y30_1 ||| (1 <<< (z43.1 &&& 31))) z47.1 ky30_0 _ _ h hP hD hT hS ls (lv_sub hl [3, 1, 0] rfl)
                · replace h := ite_t c46 h
                  exact r_vret hx hb hr hlocks hP hK hD hT hG hS (Option.some.inj h) dX13_readTeller_95
              · replace h := ite_t c44 h
                refine lv_aload_n hx hb dX13_readTeller_78 rfl (lv_at hl 1 rfl) ?_
                refine lv_iconst (v := 3) hx hb dX13_readTeller_79 rfl ?_
                obtain ⟨z48, h48, h⟩ := ob_some h
                refine k_v (va_runV (As := [.int 3]) (rest := []) ⟨hx, hb, hml, hown, hts⟩ (c_X13_wrong (l := l) z43.2 y30_0 3 ky30_0 h48) (cwV 1 hts gX13_readTeller_X13_wrong rfl rfl rfl hdV_X13_wrong ⟨Nat.le_of_ble_eq_true rfl, Nat.le_of_ble_eq_true rfl⟩) (pV (T := TX13) hP hK hD hT hG hS ky30_0 (by decide) rfl) rfl rfl hl.1 rfl (lv_room (Nat.le_of_ble_eq_true rfl)) dX13_readTeller_80 ⟨Nat.zero_le _, Nat.zero_le _⟩) hS (fun H locs hP hD hT hS => ?_)
                refine lv_aload_n hx hb dX13_readTeller_83 rfl (lv_at hl 1 rfl) ?_
                obtain ⟨z49, h49, h⟩ := ob_some h
                refine k_v (va_runV (As := []) (rest := []) ⟨hx, hb, hml, hown, hts⟩ (c_X13_goesOn (l := l) z48 y30_0 ky30_0 h49) (cwV 0 hts gX13_readTeller_X13_goesOn rfl rfl rfl hdV_X13_goesOn ⟨Nat.le_of_ble_eq_true rfl, Nat.le_of_ble_eq_true rfl⟩) (pV (T := TX13) hP hK hD hT hG hS ky30_0 (by decide) rfl) rfl rfl hl.1 rfl (lv_room (Nat.le_of_ble_eq_true rfl)) dX13_readTeller_84 ⟨Nat.zero_le _, Nat.zero_le _⟩) hS (fun H locs hP hD hT hS => ?_)
                refine lv_aload_n hx hb dX13_readTeller_87 rfl (lv_at hl 1 rfl) ?_
                refine r_get (T := TX13) (v := .int (gI z49 y30_0 9)) hx hb hts in13 hown hK hP ky30_0 (by decide) rfl 9 (by decide) (hts (.fieldLink RX13 58 "StoneWalkModel" "sort" "I") (List.mem_of_getElem? (i := 2) (by decide +kernel))) rfl (t := 0) rfl rfl dX13_readTeller_88 ?_
                refine lv_iconst (v := 5) hx hb dX13_readTeller_91 rfl ?_
                refine lv_icmp_ne (tgt := 96) hx hb dX13_readTeller_92 rfl (fun c50 => ?_) (fun c50 => ?_)
                · replace h := ite_f c50 h
                  refine lv_iload_n hx hb dX13_readTeller_96 rfl (lv_at hl 2 rfl) ?_
                  refine lv_iconst (v := 1) hx hb dX13_readTeller_97 rfl ?_
                  refine lv_iload_n hx hb dX13_readTeller_98 rfl (lv_at hl 0 rfl) ?_
                  refine lv_ishl hx hb dX13_readTeller_99 ?_
                  refine lv_ior hx hb dX13_readTeller_100 ?_
                  refine lv_istore_n (lv' := [(1, .int (y30_1 ||| (1 <<< (z43.1 &&& 31)))), (3, .int z43.1), (0, .ref (ad y30_0)), (2, .int y30_2)]) hx hb dX13_readTeller_101 rfl hl (by decide) rfl (fun ls hl => ?_)
                  refine lv_aload_n hx hb dX13_readTeller_102 rfl (lv_at hl 2 rfl) ?_
                  refine lv_bipush (v := 44) hx hb dX13_readTeller_103 rfl ?_
                  obtain ⟨z51, h51, h⟩ := ob_some h
                  refine k_z (va_runV (As := [.int 44]) (rest := []) ⟨hx, hb, hml, hown, hts⟩ (c_X13_eatsSign (l := l) z49 y30_0 44 ky30_0 h51) (cwV 1 hts gX13_readTeller_X13_eatsSign rfl rfl rfl hdV_X13_eatsSign ⟨Nat.le_of_ble_eq_true rfl, Nat.le_of_ble_eq_true rfl⟩) (pV (T := TX13) hP hK hD hT hG hS ky30_0 (by decide) rfl) rfl rfl hl.1 rfl (lv_room (Nat.le_of_ble_eq_true rfl)) dX13_readTeller_105 ⟨Nat.zero_le _, Nat.zero_le _⟩) hS (fun H locs hz51 hP hD hT hS => ?_)
                  refine lv_istore_n (lv' := [(2, .int z51.1), (1, .int (y30_1 ||| (1 <<< (z43.1 &&& 31)))), (3, .int z43.1), (0, .ref (ad y30_0))]) hx hb dX13_readTeller_108 rfl hl (by decide) rfl (fun ls hl => ?_)
                  refine lv_goto (tgt := 59) hx hb dX13_readTeller_109 rfl ?_
                  exact ih30 z51.2 y30_0 (y30_1 ||| (1 <<< (z43.1 &&& 31))) z51.1 ky30_0 _ _ h hP hD hT hS ls (lv_sub hl [3, 1, 0] rfl)
                · replace h := ite_t c50 h
                  exact r_vret hx hb hr hlocks hP hK hD hT hG hS (Option.some.inj h) dX13_readTeller_95
        exact L30 FU z6 a0 0 1 k0 _ _ h hP hD hT hS ls (lv_sub hl [2, 1, 0] rfl)
set_option maxHeartbeats 4000000 in
set_option maxRecDepth 100000 in
theorem c_X13_readTry {l : Launch} {D : va_G} {ad : Nat → Nat} {cy : Nat → ClassId} {A : Nat → Prop} {g : CG} {q : SE} (M : MM) (a0 : Nat) (k0 : ok g a0 13 0) {Z : MM} (h : f_X13_readTry M a0 = some Z) : Met l yX13_readTry wsX13_readTry ({ frames := 8, cells := 0, slots := 0, locals := 173 }) (va_Pc [.ref (ad a0)] (Wd D ad cy A g q M)) (va_Qv (fun u => u = Z) (Wd D ad cy A g q) A) 0 0 A := by
  refine Met.ofW (cc := cX13_readTry) (maxL := 5) (ret := none) (by decide) rfl ?_
  intro p e s m args below meth c s₁ B hml hv
  obtain ⟨rfl, hP, hK, hD, hT, hG⟩ := hv
  have hx := B.exec
  have hb := B.bytes
  have hr := B.returns
  have hts := atoms_spec (ws := wsX13_readTry) B.pre
  have hown : s.vm.findClass RX13 = some m.cls := findClass_of_methodNamed B.named
  have hlocks := B.notSynchronized
  have in12 : ∀ w ∈ u_ws RX12 TX12 48, w ∈ wsX13_readTry := fun w h => List.mem_cons_of_mem _ (List.mem_append_right _ h)
  have in13 : ∀ w ∈ u_ws RX13 TX13 29, w ∈ wsX13_readTry := fun w h => List.mem_cons_of_mem _ (List.mem_append_left _ (List.mem_append_right _ h))
  have hS : va_S A s.heap s.heap [] := va_S.rf
  have hl := lv_entry ([.ref (ad a0)]) (n := 5) (Nat.le_of_ble_eq_true rfl)
  rw [lg_entry_eq]
  generalize (lg_sl ([.ref (ad a0)]) ++ List.replicate (5 - (lg_sl ([.ref (ad a0)])).length) Slot.unset).toArray = ls at hl ⊢
  have hl : lv_has ls 5 [(0, .ref (ad a0))] := hl
  unfold f_X13_readTry at h
  refine lv_aload_n hx hb dX13_readTry_0 rfl (lv_at hl 0 rfl) ?_
  refine lv_aload_n hx hb dX13_readTry_1 rfl (lv_at hl 0 rfl) ?_
  rcases hN1 : gR M a0 4 with _ | b1
  · replace h := oc_n hN1 h
    refine r_get (T := TX13) (v := .null) hx hb hts in13 hown hK hP k0 (by decide) rfl 4 (by decide) (hts (.fieldLink RX13 150 "StoneWalkModel" "read" "LStoneWalkModel$Island;") (List.mem_of_getElem? (i := 1) (by decide +kernel))) rfl (t := 2) rfl (by show va_rf _ = _; rw [hN1]; rfl) dX13_readTry_2 ?_
    exact absurd h (by simp)
  · replace h := oc_s hN1 h
    have kb1 := hT.f k0 (k := 4) (t := 12) (n := 0) rfl hN1
    refine r_get (T := TX13) (v := .ref (ad b1)) hx hb hts in13 hown hK hP k0 (by decide) rfl 4 (by decide) (hts (.fieldLink RX13 150 "StoneWalkModel" "read" "LStoneWalkModel$Island;") (List.mem_of_getElem? (i := 1) (by decide +kernel))) rfl (t := 2) rfl (by show va_rf _ = _; rw [hN1]; rfl) dX13_readTry_2 ?_
    refine r_getN (T := TX12) (v := .int (gI M b1 7)) hx hb hts in12 hown hK hP kb1 (by decide) rfl 7 (by decide) (hG.2.2.1 _ (List.mem_of_getElem? (i := 44) rfl)) rfl (t := 0) rfl rfl dX13_readTry_5 ?_
    refine lv_iconst (v := 5) hx hb dX13_readTry_8 rfl ?_
    obtain ⟨z2, h2, h⟩ := ob_some h
    refine k_v (va_runV (As := [.int (gI M b1 7), .int 5]) (rest := []) ⟨hx, hb, hml, hown, hts⟩ (c_X13_begins (l := l) M a0 (gI M b1 7) 5 k0 h2) (cwV 2 hts gX13_readTry_X13_begins rfl rfl rfl hdV_X13_begins ⟨Nat.le_of_ble_eq_true rfl, Nat.le_of_ble_eq_true rfl⟩) (pV (T := TX13) hP hK hD hT hG hS k0 (by decide) rfl) rfl rfl hl.1 rfl (lv_room (Nat.le_of_ble_eq_true rfl)) dX13_readTry_9 ⟨Nat.zero_le _, Nat.zero_le _⟩) hS (fun H locs hP hD hT hS => ?_)
    refine lv_aload_n hx hb dX13_readTry_12 rfl (lv_at hl 0 rfl) ?_
    refine lv_iconst (v := 2) hx hb dX13_readTry_13 rfl ?_
    refine lv_aload_n hx hb dX13_readTry_14 rfl (lv_at hl 0 rfl) ?_
    rcases hN3 : gR z2 a0 4 with _ | b3
    · replace h := oc_n hN3 h
      refine r_get (T := TX13) (v := .null) hx hb hts in13 hown hK hP k0 (by decide) rfl 4 (by decide) (hts (.fieldLink RX13 150 "StoneWalkModel" "read" "LStoneWalkModel$Island;") (List.mem_of_getElem? (i := 1) (by decide +kernel))) rfl (t := 2) rfl (by show va_rf _ = _; rw [hN3]; rfl) dX13_readTry_15 ?_
      exact absurd h (by simp)
    · replace h := oc_s hN3 h
      have kb3 := hT.f k0 (k := 4) (t := 12) (n := 0) rfl hN3
      refine r_get (T := TX13) (v := .ref (ad b3)) hx hb hts in13 hown hK hP k0 (by decide) rfl 4 (by decide) (hts (.fieldLink RX13 150 "StoneWalkModel" "read" "LStoneWalkModel$Island;") (List.mem_of_getElem? (i := 1) (by decide +kernel))) rfl (t := 2) rfl (by show va_rf _ = _; rw [hN3]; rfl) dX13_readTry_15 ?_
      refine r_getN (T := TX12) (v := .int (gI z2 b3 7)) hx hb hts in12 hown hK hP kb3 (by decide) rfl 7 (by decide) (hG.2.2.1 _ (List.mem_of_getElem? (i := 44) rfl)) rfl (t := 0) rfl rfl dX13_readTry_18 ?_
      obtain ⟨z4, h4, h⟩ := ob_some h
      refine k_v (va_runV (As := [.int 2, .int (gI z2 b3 7)]) (rest := []) ⟨hx, hb, hml, hown, hts⟩ (c_X13_readFresh (l := l) z2 a0 2 (gI z2 b3 7) k0 h4) (cwV 2 hts gX13_readTry_X13_readFresh rfl rfl rfl hdV_X13_readFresh ⟨Nat.le_of_ble_eq_true rfl, Nat.le_of_ble_eq_true rfl⟩) (pV (T := TX13) hP hK hD hT hG hS k0 (by decide) rfl) rfl rfl hl.1 rfl (lv_room (Nat.le_of_ble_eq_true rfl)) dX13_readTry_21 ⟨Nat.zero_le _, Nat.zero_le _⟩) hS (fun H locs hP hD hT hS => ?_)
      refine lv_aload_n hx hb dX13_readTry_24 rfl (lv_at hl 0 rfl) ?_
      refine r_ldcSw (tx := "tons") (i := 7) hx hb hG hown (by decide +kernel) dX13_readTry_25 ?_
      refine lv_iconst (v := 1) hx hb dX13_readTry_28 rfl ?_
      refine lv_bipush (v := 99) hx hb dX13_readTry_29 rfl ?_
      obtain ⟨z5, h5, h⟩ := ob_some h
      refine k_i (va_runV (As := [.ref (q.2.1 7), .int 1, .int 99]) (rest := []) ⟨hx, hb, hml, hown, hts⟩ (c_X13_readPart (l := l) z4 a0 7 1 99 k0 (by decide) h5) (cwV 3 hts gX13_readTry_X13_readPart rfl rfl rfl hdV_X13_readPart ⟨Nat.le_of_ble_eq_true rfl, Nat.le_of_ble_eq_true rfl⟩) (pV (T := TX13) hP hK hD hT hG hS k0 (by decide) rfl) rfl rfl hl.1 rfl (lv_room (Nat.le_of_ble_eq_true rfl)) dX13_readTry_31 ⟨Nat.zero_le _, Nat.zero_le _⟩) hS (fun H locs hP hD hT hS => ?_)
      refine lv_istore_n (lv' := [(1, .int z5.1), (0, .ref (ad a0))]) hx hb dX13_readTry_34 rfl hl (by decide) rfl (fun ls hl => ?_)
      refine lv_aload_n hx hb dX13_readTry_35 rfl (lv_at hl 1 rfl) ?_
      refine r_ldcSw (tx := "lean") (i := 8) hx hb hG hown (by decide +kernel) dX13_readTry_36 ?_
      refine lv_iconst (v := 0) hx hb dX13_readTry_39 rfl ?_
      refine lv_bipush (v := 30) hx hb dX13_readTry_40 rfl ?_
      obtain ⟨z6, h6, h⟩ := ob_some h
      refine k_i (va_runV (As := [.ref (q.2.1 8), .int 0, .int 30]) (rest := []) ⟨hx, hb, hml, hown, hts⟩ (c_X13_readPart (l := l) z5.2 a0 8 0 30 k0 (by decide) h6) (cwV 3 hts gX13_readTry_X13_readPart rfl rfl rfl hdV_X13_readPart ⟨Nat.le_of_ble_eq_true rfl, Nat.le_of_ble_eq_true rfl⟩) (pV (T := TX13) hP hK hD hT hG hS k0 (by decide) rfl) rfl rfl hl.1 rfl (lv_room (Nat.le_of_ble_eq_true rfl)) dX13_readTry_42 ⟨Nat.zero_le _, Nat.zero_le _⟩) hS (fun H locs hP hD hT hS => ?_)
      refine lv_istore_n (lv' := [(2, .int z6.1), (1, .int z5.1), (0, .ref (ad a0))]) hx hb dX13_readTry_45 rfl hl (by decide) rfl (fun ls hl => ?_)
      refine lv_aload_n hx hb dX13_readTry_46 rfl (lv_at hl 2 rfl) ?_
      refine r_ldcSw (tx := "edge") (i := 9) hx hb hG hown (by decide +kernel) dX13_readTry_47 ?_
      refine lv_iconst (v := 0) hx hb dX13_readTry_50 rfl ?_
      refine lv_bipush (v := 20) hx hb dX13_readTry_51 rfl ?_
      obtain ⟨z7, h7, h⟩ := ob_some h
      refine k_i (va_runV (As := [.ref (q.2.1 9), .int 0, .int 20]) (rest := []) ⟨hx, hb, hml, hown, hts⟩ (c_X13_readPart (l := l) z6.2 a0 9 0 20 k0 (by decide) h7) (cwV 3 hts gX13_readTry_X13_readPart rfl rfl rfl hdV_X13_readPart ⟨Nat.le_of_ble_eq_true rfl, Nat.le_of_ble_eq_true rfl⟩) (pV (T := TX13) hP hK hD hT hG hS k0 (by decide) rfl) rfl rfl hl.1 rfl (lv_room (Nat.le_of_ble_eq_true rfl)) dX13_readTry_53 ⟨Nat.zero_le _, Nat.zero_le _⟩) hS (fun H locs hP hD hT hS => ?_)
      refine lv_istore_n (lv' := [(3, .int z7.1), (2, .int z6.1), (1, .int z5.1), (0, .ref (ad a0))]) hx hb dX13_readTry_56 rfl hl (by decide) rfl (fun ls hl => ?_)
      refine lv_aload_n hx hb dX13_readTry_57 rfl (lv_at hl 3 rfl) ?_
      obtain ⟨z8, h8, h⟩ := ob_some h
      refine k_i (va_runV (As := []) (rest := []) ⟨hx, hb, hml, hown, hts⟩ (c_X13_readSlope (l := l) z7.2 a0 k0 h8) (cwV 0 hts gX13_readTry_X13_readSlope rfl rfl rfl hdV_X13_readSlope ⟨Nat.le_of_ble_eq_true rfl, Nat.le_of_ble_eq_true rfl⟩) (pV (T := TX13) hP hK hD hT hG hS k0 (by decide) rfl) rfl rfl hl.1 rfl (lv_room (Nat.le_of_ble_eq_true rfl)) dX13_readTry_58 ⟨Nat.zero_le _, Nat.zero_le _⟩) hS (fun H locs hP hD hT hS => ?_)
      refine lv_istore (lv' := [(4, .int z8.1), (3, .int z7.1), (2, .int z6.1), (1, .int z5.1), (0, .ref (ad a0))]) hx hb dX13_readTry_61 hl (by decide) rfl (fun ls hl => ?_)
      refine lv_aload_n hx hb dX13_readTry_63 rfl (lv_at hl 4 rfl) ?_
      refine r_get (T := TX13) (v := .int (gI z8.2 a0 9)) hx hb hts in13 hown hK hP k0 (by decide) rfl 9 (by decide) (hts (.fieldLink RX13 58 "StoneWalkModel" "sort" "I") (List.mem_of_getElem? (i := 2) (by decide +kernel))) rfl (t := 0) rfl rfl dX13_readTry_64 ?_
      refine lv_iconst (v := 5) hx hb dX13_readTry_67 rfl ?_
      refine lv_icmp_ne (tgt := 72) hx hb dX13_readTry_68 rfl (fun c9 => ?_) (fun c9 => ?_)
      · replace h := ite_f c9 h
        refine lv_aload_n hx hb dX13_readTry_72 rfl (lv_at hl 4 rfl) ?_
        rcases hN10 : gR z8.2 a0 4 with _ | b10
        · replace h := oc_n hN10 h
          refine r_get (T := TX13) (v := .null) hx hb hts in13 hown hK hP k0 (by decide) rfl 4 (by decide) (hts (.fieldLink RX13 150 "StoneWalkModel" "read" "LStoneWalkModel$Island;") (List.mem_of_getElem? (i := 1) (by decide +kernel))) rfl (t := 2) rfl (by show va_rf _ = _; rw [hN10]; rfl) dX13_readTry_73 ?_
          exact absurd h (by simp)
        · replace h := oc_s hN10 h
          have kb10 := hT.f k0 (k := 4) (t := 12) (n := 0) rfl hN10
          refine r_get (T := TX13) (v := .ref (ad b10)) hx hb hts in13 hown hK hP k0 (by decide) rfl 4 (by decide) (hts (.fieldLink RX13 150 "StoneWalkModel" "read" "LStoneWalkModel$Island;") (List.mem_of_getElem? (i := 1) (by decide +kernel))) rfl (t := 2) rfl (by show va_rf _ = _; rw [hN10]; rfl) dX13_readTry_73 ?_
          rcases hN11 : gR z8.2 b10 40 with _ | b11
          · exact absurd (oc_n hN11 h) (by simp)
          replace h := oc_s hN11 h
          have kb11 := hT.f kb10 (k := 40) (t := 15) (n := 5) rfl hN11
          refine r_getN (T := TX12) (v := .ref (ad b11)) hx hb hts in12 hown hK hP kb10 (by decide) rfl 40 (by decide) (hG.2.2.1 _ (List.mem_of_getElem? (i := 45) rfl)) rfl (t := 2) rfl (by show va_rf _ = _; rw [hN11]; rfl) dX13_readTry_76 ?_
          refine lv_aload_n hx hb dX13_readTry_79 rfl (lv_at hl 4 rfl) ?_
          rcases hN12 : gR z8.2 a0 4 with _ | b12
          · replace h := oc_n hN12 h
            refine r_get (T := TX13) (v := .null) hx hb hts in13 hown hK hP k0 (by decide) rfl 4 (by decide) (hts (.fieldLink RX13 150 "StoneWalkModel" "read" "LStoneWalkModel$Island;") (List.mem_of_getElem? (i := 1) (by decide +kernel))) rfl (t := 2) rfl (by show va_rf _ = _; rw [hN12]; rfl) dX13_readTry_80 ?_
            exact absurd h (by simp)
          · replace h := oc_s hN12 h
            have kb12 := hT.f k0 (k := 4) (t := 12) (n := 0) rfl hN12
            refine r_get (T := TX13) (v := .ref (ad b12)) hx hb hts in13 hown hK hP k0 (by decide) rfl 4 (by decide) (hts (.fieldLink RX13 150 "StoneWalkModel" "read" "LStoneWalkModel$Island;") (List.mem_of_getElem? (i := 1) (by decide +kernel))) rfl (t := 2) rfl (by show va_rf _ = _; rw [hN12]; rfl) dX13_readTry_80 ?_
            refine r_getN (T := TX12) (v := .int (gI z8.2 b12 7)) hx hb hts in12 hown hK hP kb12 (by decide) rfl 7 (by decide) (hG.2.2.1 _ (List.mem_of_getElem? (i := 44) rfl)) rfl (t := 0) rfl rfl dX13_readTry_83 ?_
            refine lv_iload_n hx hb dX13_readTry_86 rfl (lv_at hl 3 rfl) ?_
            obtain ⟨hn13, h⟩ := chk_some h
            refine r_iast hx hb hK hP hD hT hS kb11 hn13 dX13_readTry_87 (fun H locs hP hD hT hS => ?_)
            refine lv_aload_n hx hb dX13_readTry_88 rfl (lv_at hl 4 rfl) ?_
            rcases hN14 : gR (pI z8.2 b11 (ix (gI z8.2 b12 7)) z5.1) a0 4 with _ | b14
            · replace h := oc_n hN14 h
              refine r_get (T := TX13) (v := .null) hx hb hts in13 hown hK hP k0 (by decide) rfl 4 (by decide) (hts (.fieldLink RX13 150 "StoneWalkModel" "read" "LStoneWalkModel$Island;") (List.mem_of_getElem? (i := 1) (by decide +kernel))) rfl (t := 2) rfl (by show va_rf _ = _; rw [hN14]; rfl) dX13_readTry_89 ?_
              exact absurd h (by simp)
            · replace h := oc_s hN14 h
              have kb14 := hT.f k0 (k := 4) (t := 12) (n := 0) rfl hN14
              refine r_get (T := TX13) (v := .ref (ad b14)) hx hb hts in13 hown hK hP k0 (by decide) rfl 4 (by decide) (hts (.fieldLink RX13 150 "StoneWalkModel" "read" "LStoneWalkModel$Island;") (List.mem_of_getElem? (i := 1) (by decide +kernel))) rfl (t := 2) rfl (by show va_rf _ = _; rw [hN14]; rfl) dX13_readTry_89 ?_
              rcases hN15 : gR (pI z8.2 b11 (ix (gI z8.2 b12 7)) z5.1) b14 41 with _ | b15
              · exact absurd (oc_n hN15 h) (by simp)
              replace h := oc_s hN15 h
              have kb15 := hT.f kb14 (k := 41) (t := 15) (n := 5) rfl hN15
              refine r_getN (T := TX12) (v := .ref (ad b15)) hx hb hts in12 hown hK hP kb14 (by decide) rfl 41 (by decide) (hG.2.2.1 _ (List.mem_of_getElem? (i := 46) rfl)) rfl (t := 2) rfl (by show va_rf _ = _; rw [hN15]; rfl) dX13_readTry_92 ?_
              refine lv_aload_n hx hb dX13_readTry_95 rfl (lv_at hl 4 rfl) ?_
              rcases hN16 : gR (pI z8.2 b11 (ix (gI z8.2 b12 7)) z5.1) a0 4 with _ | b16
              · replace h := oc_n hN16 h
                refine r_get (T := TX13) (v := .null) hx hb hts in13 hown hK hP k0 (by decide) rfl 4 (by decide) (hts (.fieldLink RX13 150 "StoneWalkModel" "read" "LStoneWalkModel$Island;") (List.mem_of_getElem? (i := 1) (by decide +kernel))) rfl (t := 2) rfl (by show va_rf _ = _; rw [hN16]; rfl) dX13_readTry_96 ?_
                exact absurd h (by simp)
              · replace h := oc_s hN16 h
                have kb16 := hT.f k0 (k := 4) (t := 12) (n := 0) rfl hN16
                refine r_get (T := TX13) (v := .ref (ad b16)) hx hb hts in13 hown hK hP k0 (by decide) rfl 4 (by decide) (hts (.fieldLink RX13 150 "StoneWalkModel" "read" "LStoneWalkModel$Island;") (List.mem_of_getElem? (i := 1) (by decide +kernel))) rfl (t := 2) rfl (by show va_rf _ = _; rw [hN16]; rfl) dX13_readTry_96 ?_
                refine r_getN (T := TX12) (v := .int (gI (pI z8.2 b11 (ix (gI z8.2 b12 7)) z5.1) b16 7)) hx hb hts in12 hown hK hP kb16 (by decide) rfl 7 (by decide) (hG.2.2.1 _ (List.mem_of_getElem? (i := 44) rfl)) rfl (t := 0) rfl rfl dX13_readTry_99 ?_
                refine lv_iload_n hx hb dX13_readTry_102 rfl (lv_at hl 2 rfl) ?_
                obtain ⟨hn17, h⟩ := chk_some h
                refine r_iast hx hb hK hP hD hT hS kb15 hn17 dX13_readTry_103 (fun H locs hP hD hT hS => ?_)
                refine lv_aload_n hx hb dX13_readTry_104 rfl (lv_at hl 4 rfl) ?_
                rcases hN18 : gR (pI (pI z8.2 b11 (ix (gI z8.2 b12 7)) z5.1) b15 (ix (gI (pI z8.2 b11 (ix (gI z8.2 b12 7)) z5.1) b16 7)) z6.1) a0 4 with _ | b18
                · replace h := oc_n hN18 h
                  refine r_get (T := TX13) (v := .null) hx hb hts in13 hown hK hP k0 (by decide) rfl 4 (by decide) (hts (.fieldLink RX13 150 "StoneWalkModel" "read" "LStoneWalkModel$Island;") (List.mem_of_getElem? (i := 1) (by decide +kernel))) rfl (t := 2) rfl (by show va_rf _ = _; rw [hN18]; rfl) dX13_readTry_105 ?_
                  exact absurd h (by simp)
                · replace h := oc_s hN18 h
                  have kb18 := hT.f k0 (k := 4) (t := 12) (n := 0) rfl hN18
                  refine r_get (T := TX13) (v := .ref (ad b18)) hx hb hts in13 hown hK hP k0 (by decide) rfl 4 (by decide) (hts (.fieldLink RX13 150 "StoneWalkModel" "read" "LStoneWalkModel$Island;") (List.mem_of_getElem? (i := 1) (by decide +kernel))) rfl (t := 2) rfl (by show va_rf _ = _; rw [hN18]; rfl) dX13_readTry_105 ?_
                  rcases hN19 : gR (pI (pI z8.2 b11 (ix (gI z8.2 b12 7)) z5.1) b15 (ix (gI (pI z8.2 b11 (ix (gI z8.2 b12 7)) z5.1) b16 7)) z6.1) b18 42 with _ | b19
                  · exact absurd (oc_n hN19 h) (by simp)
                  replace h := oc_s hN19 h
                  have kb19 := hT.f kb18 (k := 42) (t := 15) (n := 5) rfl hN19
                  refine r_getN (T := TX12) (v := .ref (ad b19)) hx hb hts in12 hown hK hP kb18 (by decide) rfl 42 (by decide) (hG.2.2.1 _ (List.mem_of_getElem? (i := 47) rfl)) rfl (t := 2) rfl (by show va_rf _ = _; rw [hN19]; rfl) dX13_readTry_108 ?_
                  refine lv_aload_n hx hb dX13_readTry_111 rfl (lv_at hl 4 rfl) ?_
                  rcases hN20 : gR (pI (pI z8.2 b11 (ix (gI z8.2 b12 7)) z5.1) b15 (ix (gI (pI z8.2 b11 (ix (gI z8.2 b12 7)) z5.1) b16 7)) z6.1) a0 4 with _ | b20
                  · replace h := oc_n hN20 h
                    refine r_get (T := TX13) (v := .null) hx hb hts in13 hown hK hP k0 (by decide) rfl 4 (by decide) (hts (.fieldLink RX13 150 "StoneWalkModel" "read" "LStoneWalkModel$Island;") (List.mem_of_getElem? (i := 1) (by decide +kernel))) rfl (t := 2) rfl (by show va_rf _ = _; rw [hN20]; rfl) dX13_readTry_112 ?_
                    exact absurd h (by simp)
                  · replace h := oc_s hN20 h
                    have kb20 := hT.f k0 (k := 4) (t := 12) (n := 0) rfl hN20
                    refine r_get (T := TX13) (v := .ref (ad b20)) hx hb hts in13 hown hK hP k0 (by decide) rfl 4 (by decide) (hts (.fieldLink RX13 150 "StoneWalkModel" "read" "LStoneWalkModel$Island;") (List.mem_of_getElem? (i := 1) (by decide +kernel))) rfl (t := 2) rfl (by show va_rf _ = _; rw [hN20]; rfl) dX13_readTry_112 ?_
                    refine r_getN (T := TX12) (v := .int (gI (pI (pI z8.2 b11 (ix (gI z8.2 b12 7)) z5.1) b15 (ix (gI (pI z8.2 b11 (ix (gI z8.2 b12 7)) z5.1) b16 7)) z6.1) b20 7)) hx hb hts in12 hown hK hP kb20 (by decide) rfl 7 (by decide) (hG.2.2.1 _ (List.mem_of_getElem? (i := 44) rfl)) rfl (t := 0) rfl rfl dX13_readTry_115 ?_
                    refine lv_iload_n hx hb dX13_readTry_118 rfl (lv_at hl 1 rfl) ?_
                    obtain ⟨hn21, h⟩ := chk_some h
                    refine r_iast hx hb hK hP hD hT hS kb19 hn21 dX13_readTry_119 (fun H locs hP hD hT hS => ?_)
                    refine lv_aload_n hx hb dX13_readTry_120 rfl (lv_at hl 4 rfl) ?_
                    rcases hN22 : gR (pI (pI (pI z8.2 b11 (ix (gI z8.2 b12 7)) z5.1) b15 (ix (gI (pI z8.2 b11 (ix (gI z8.2 b12 7)) z5.1) b16 7)) z6.1) b19 (ix (gI (pI (pI z8.2 b11 (ix (gI z8.2 b12 7)) z5.1) b15 (ix (gI (pI z8.2 b11 (ix (gI z8.2 b12 7)) z5.1) b16 7)) z6.1) b20 7)) z7.1) a0 4 with _ | b22
                    · replace h := oc_n hN22 h
                      refine r_get (T := TX13) (v := .null) hx hb hts in13 hown hK hP k0 (by decide) rfl 4 (by decide) (hts (.fieldLink RX13 150 "StoneWalkModel" "read" "LStoneWalkModel$Island;") (List.mem_of_getElem? (i := 1) (by decide +kernel))) rfl (t := 2) rfl (by show va_rf _ = _; rw [hN22]; rfl) dX13_readTry_121 ?_
                      exact absurd h (by simp)
                    · replace h := oc_s hN22 h
                      have kb22 := hT.f k0 (k := 4) (t := 12) (n := 0) rfl hN22
                      refine r_get (T := TX13) (v := .ref (ad b22)) hx hb hts in13 hown hK hP k0 (by decide) rfl 4 (by decide) (hts (.fieldLink RX13 150 "StoneWalkModel" "read" "LStoneWalkModel$Island;") (List.mem_of_getElem? (i := 1) (by decide +kernel))) rfl (t := 2) rfl (by show va_rf _ = _; rw [hN22]; rfl) dX13_readTry_121 ?_
                      rcases hN23 : gR (pI (pI (pI z8.2 b11 (ix (gI z8.2 b12 7)) z5.1) b15 (ix (gI (pI z8.2 b11 (ix (gI z8.2 b12 7)) z5.1) b16 7)) z6.1) b19 (ix (gI (pI (pI z8.2 b11 (ix (gI z8.2 b12 7)) z5.1) b15 (ix (gI (pI z8.2 b11 (ix (gI z8.2 b12 7)) z5.1) b16 7)) z6.1) b20 7)) z7.1) b22 43 with _ | b23
                      · exact absurd (oc_n hN23 h) (by simp)
                      replace h := oc_s hN23 h
                      have kb23 := hT.f kb22 (k := 43) (t := 15) (n := 5) rfl hN23
                      refine r_getN (T := TX12) (v := .ref (ad b23)) hx hb hts in12 hown hK hP kb22 (by decide) rfl 43 (by decide) (hG.2.2.1 _ (List.mem_of_getElem? (i := 48) rfl)) rfl (t := 2) rfl (by show va_rf _ = _; rw [hN23]; rfl) dX13_readTry_124 ?_
                      refine lv_aload_n hx hb dX13_readTry_127 rfl (lv_at hl 4 rfl) ?_
                      rcases hN24 : gR (pI (pI (pI z8.2 b11 (ix (gI z8.2 b12 7)) z5.1) b15 (ix (gI (pI z8.2 b11 (ix (gI z8.2 b12 7)) z5.1) b16 7)) z6.1) b19 (ix (gI (pI (pI z8.2 b11 (ix (gI z8.2 b12 7)) z5.1) b15 (ix (gI (pI z8.2 b11 (ix (gI z8.2 b12 7)) z5.1) b16 7)) z6.1) b20 7)) z7.1) a0 4 with _ | b24
                      · replace h := oc_n hN24 h
                        refine r_get (T := TX13) (v := .null) hx hb hts in13 hown hK hP k0 (by decide) rfl 4 (by decide) (hts (.fieldLink RX13 150 "StoneWalkModel" "read" "LStoneWalkModel$Island;") (List.mem_of_getElem? (i := 1) (by decide +kernel))) rfl (t := 2) rfl (by show va_rf _ = _; rw [hN24]; rfl) dX13_readTry_128 ?_
                        exact absurd h (by simp)
                      · replace h := oc_s hN24 h
                        have kb24 := hT.f k0 (k := 4) (t := 12) (n := 0) rfl hN24
                        refine r_get (T := TX13) (v := .ref (ad b24)) hx hb hts in13 hown hK hP k0 (by decide) rfl 4 (by decide) (hts (.fieldLink RX13 150 "StoneWalkModel" "read" "LStoneWalkModel$Island;") (List.mem_of_getElem? (i := 1) (by decide +kernel))) rfl (t := 2) rfl (by show va_rf _ = _; rw [hN24]; rfl) dX13_readTry_128 ?_
                        refine r_getN (T := TX12) (v := .int (gI (pI (pI (pI z8.2 b11 (ix (gI z8.2 b12 7)) z5.1) b15 (ix (gI (pI z8.2 b11 (ix (gI z8.2 b12 7)) z5.1) b16 7)) z6.1) b19 (ix (gI (pI (pI z8.2 b11 (ix (gI z8.2 b12 7)) z5.1) b15 (ix (gI (pI z8.2 b11 (ix (gI z8.2 b12 7)) z5.1) b16 7)) z6.1) b20 7)) z7.1) b24 7)) hx hb hts in12 hown hK hP kb24 (by decide) rfl 7 (by decide) (hG.2.2.1 _ (List.mem_of_getElem? (i := 44) rfl)) rfl (t := 0) rfl rfl dX13_readTry_131 ?_
                        refine lv_iload hx hb dX13_readTry_134 (lv_at hl 0 rfl) ?_
                        obtain ⟨hn25, h⟩ := chk_some h
                        refine r_iast hx hb hK hP hD hT hS kb23 hn25 dX13_readTry_136 (fun H locs hP hD hT hS => ?_)
                        refine lv_aload_n hx hb dX13_readTry_137 rfl (lv_at hl 4 rfl) ?_
                        rcases hN26 : gR (pI (pI (pI (pI z8.2 b11 (ix (gI z8.2 b12 7)) z5.1) b15 (ix (gI (pI z8.2 b11 (ix (gI z8.2 b12 7)) z5.1) b16 7)) z6.1) b19 (ix (gI (pI (pI z8.2 b11 (ix (gI z8.2 b12 7)) z5.1) b15 (ix (gI (pI z8.2 b11 (ix (gI z8.2 b12 7)) z5.1) b16 7)) z6.1) b20 7)) z7.1) b23 (ix (gI (pI (pI (pI z8.2 b11 (ix (gI z8.2 b12 7)) z5.1) b15 (ix (gI (pI z8.2 b11 (ix (gI z8.2 b12 7)) z5.1) b16 7)) z6.1) b19 (ix (gI (pI (pI z8.2 b11 (ix (gI z8.2 b12 7)) z5.1) b15 (ix (gI (pI z8.2 b11 (ix (gI z8.2 b12 7)) z5.1) b16 7)) z6.1) b20 7)) z7.1) b24 7)) z8.1) a0 4 with _ | b26
                        · replace h := oc_n hN26 h
                          refine r_get (T := TX13) (v := .null) hx hb hts in13 hown hK hP k0 (by decide) rfl 4 (by decide) (hts (.fieldLink RX13 150 "StoneWalkModel" "read" "LStoneWalkModel$Island;") (List.mem_of_getElem? (i := 1) (by decide +kernel))) rfl (t := 2) rfl (by show va_rf _ = _; rw [hN26]; rfl) dX13_readTry_138 ?_
                          refine lv_dup hx hb dX13_readTry_141 rfl ?_
                          exact absurd h (by simp)
                        · replace h := oc_s hN26 h
                          have kb26 := hT.f k0 (k := 4) (t := 12) (n := 0) rfl hN26
                          refine r_get (T := TX13) (v := .ref (ad b26)) hx hb hts in13 hown hK hP k0 (by decide) rfl 4 (by decide) (hts (.fieldLink RX13 150 "StoneWalkModel" "read" "LStoneWalkModel$Island;") (List.mem_of_getElem? (i := 1) (by decide +kernel))) rfl (t := 2) rfl (by show va_rf _ = _; rw [hN26]; rfl) dX13_readTry_138 ?_
                          refine lv_dup hx hb dX13_readTry_141 rfl ?_
                          refine r_getN (T := TX12) (v := .int (gI (pI (pI (pI (pI z8.2 b11 (ix (gI z8.2 b12 7)) z5.1) b15 (ix (gI (pI z8.2 b11 (ix (gI z8.2 b12 7)) z5.1) b16 7)) z6.1) b19 (ix (gI (pI (pI z8.2 b11 (ix (gI z8.2 b12 7)) z5.1) b15 (ix (gI (pI z8.2 b11 (ix (gI z8.2 b12 7)) z5.1) b16 7)) z6.1) b20 7)) z7.1) b23 (ix (gI (pI (pI (pI z8.2 b11 (ix (gI z8.2 b12 7)) z5.1) b15 (ix (gI (pI z8.2 b11 (ix (gI z8.2 b12 7)) z5.1) b16 7)) z6.1) b19 (ix (gI (pI (pI z8.2 b11 (ix (gI z8.2 b12 7)) z5.1) b15 (ix (gI (pI z8.2 b11 (ix (gI z8.2 b12 7)) z5.1) b16 7)) z6.1) b20 7)) z7.1) b24 7)) z8.1) b26 7)) hx hb hts in12 hown hK hP kb26 (by decide) rfl 7 (by decide) (hG.2.2.1 _ (List.mem_of_getElem? (i := 44) rfl)) rfl (t := 0) rfl rfl dX13_readTry_142 ?_
                          refine lv_iconst (v := 1) hx hb dX13_readTry_145 rfl ?_
                          refine lv_iadd hx hb dX13_readTry_146 ?_
                          refine r_putIN (T := TX12) (ty := .int) (v := (gI (pI (pI (pI (pI z8.2 b11 (ix (gI z8.2 b12 7)) z5.1) b15 (ix (gI (pI z8.2 b11 (ix (gI z8.2 b12 7)) z5.1) b16 7)) z6.1) b19 (ix (gI (pI (pI z8.2 b11 (ix (gI z8.2 b12 7)) z5.1) b15 (ix (gI (pI z8.2 b11 (ix (gI z8.2 b12 7)) z5.1) b16 7)) z6.1) b20 7)) z7.1) b23 (ix (gI (pI (pI (pI z8.2 b11 (ix (gI z8.2 b12 7)) z5.1) b15 (ix (gI (pI z8.2 b11 (ix (gI z8.2 b12 7)) z5.1) b16 7)) z6.1) b19 (ix (gI (pI (pI z8.2 b11 (ix (gI z8.2 b12 7)) z5.1) b15 (ix (gI (pI z8.2 b11 (ix (gI z8.2 b12 7)) z5.1) b16 7)) z6.1) b20 7)) z7.1) b24 7)) z8.1) b26 7) + 1) hx hb hts in12 tyX12 tyX12_ok nmX12 hown hK hP hD hT hS kb26 (by decide) rfl 7 (by decide) (hG.2.2.1 _ (List.mem_of_getElem? (i := 44) rfl)) rfl rfl (tyX12_ok 7 (by decide)) rfl rfl rfl dX13_readTry_147 (fun H locs hP hD hT hS => ?_)
                          exact r_vret hx hb hr hlocks hP hK hD hT hG hS (Option.some.inj h) dX13_readTry_150
      · replace h := ite_t c9 h
        exact r_vret hx hb hr hlocks hP hK hD hT hG hS (Option.some.inj h) dX13_readTry_71
set_option maxHeartbeats 4000000 in
set_option maxRecDepth 100000 in
theorem c_X13_readLine {l : Launch} {D : va_G} {ad : Nat → Nat} {cy : Nat → ClassId} {A : Nat → Prop} {g : CG} {q : SE} (M : MM) (a0 : Nat) (k0 : ok g a0 13 0) {Z : MM} (h : f_X13_readLine M a0 = some Z) : Met l yX13_readLine wsX13_readLine ({ frames := 10, cells := 0, slots := 0, locals := 221 }) (va_Pc [.ref (ad a0)] (Wd D ad cy A g q M)) (va_Qv (fun u => u = Z) (Wd D ad cy A g q) A) 0 0 A := by
  refine Met.ofW (cc := cX13_readLine) (maxL := 1) (ret := none) (by decide) rfl ?_
  intro p e s m args below meth c s₁ B hml hv
  obtain ⟨rfl, hP, hK, hD, hT, hG⟩ := hv
  have hx := B.exec
  have hb := B.bytes
  have hr := B.returns
  have hts := atoms_spec (ws := wsX13_readLine) B.pre
  have hown : s.vm.findClass RX13 = some m.cls := findClass_of_methodNamed B.named
  have hlocks := B.notSynchronized
  have hS : va_S A s.heap s.heap [] := va_S.rf
  have hl := lv_entry ([.ref (ad a0)]) (n := 1) (Nat.le_of_ble_eq_true rfl)
  rw [lg_entry_eq]
  generalize (lg_sl ([.ref (ad a0)]) ++ List.replicate (1 - (lg_sl ([.ref (ad a0)])).length) Slot.unset).toArray = ls at hl ⊢
  have hl : lv_has ls 1 [(0, .ref (ad a0))] := hl
  unfold f_X13_readLine at h
  refine lv_aload_n hx hb dX13_readLine_0 rfl (lv_at hl 0 rfl) ?_
  refine r_ldcS (tx := "way") (i := 30) hx hb hG hown (by decide +kernel) dX13_readLine_1 ?_
  obtain ⟨z1, h1, h⟩ := ob_some h
  refine k_z (va_runV (As := [.ref (q.2.1 30)]) (rest := []) ⟨hx, hb, hml, hown, hts⟩ (c_X13_isWord (l := l) M a0 30 k0 (by decide) h1) (cwV 1 hts gX13_readLine_X13_isWord rfl rfl rfl hdV_X13_isWord ⟨Nat.le_of_ble_eq_true rfl, Nat.le_of_ble_eq_true rfl⟩) (pV (T := TX13) hP hK hD hT hG hS k0 (by decide) rfl) rfl rfl hl.1 rfl (lv_room (Nat.le_of_ble_eq_true rfl)) dX13_readLine_3 ⟨Nat.zero_le _, Nat.zero_le _⟩) hS (fun H locs hz1 hP hD hT hS => ?_)
  refine lv_if_eq (tgt := 16) hx hb dX13_readLine_6 rfl (fun c2 => ?_) (fun c2 => ?_)
  · replace h := ite_t c2 h
    refine lv_aload_n hx hb dX13_readLine_16 rfl (lv_at hl 0 rfl) ?_
    refine r_ldcS (tx := "road") (i := 31) hx hb hG hown (by decide +kernel) dX13_readLine_17 ?_
    obtain ⟨z3, h3, h⟩ := ob_some h
    refine k_z (va_runV (As := [.ref (q.2.1 31)]) (rest := []) ⟨hx, hb, hml, hown, hts⟩ (c_X13_isWord (l := l) M a0 31 k0 (by decide) h3) (cwV 1 hts gX13_readLine_X13_isWord rfl rfl rfl hdV_X13_isWord ⟨Nat.le_of_ble_eq_true rfl, Nat.le_of_ble_eq_true rfl⟩) (pV (T := TX13) hP hK hD hT hG hS k0 (by decide) rfl) rfl rfl hl.1 rfl (lv_room (Nat.le_of_ble_eq_true rfl)) dX13_readLine_19 ⟨Nat.zero_le _, Nat.zero_le _⟩) hS (fun H locs hz3 hP hD hT hS => ?_)
    refine lv_if_eq (tgt := 32) hx hb dX13_readLine_22 rfl (fun c4 => ?_) (fun c4 => ?_)
    · replace h := ite_t c4 h
      refine lv_aload_n hx hb dX13_readLine_32 rfl (lv_at hl 0 rfl) ?_
      refine r_ldcS (tx := "statue") (i := 32) hx hb hG hown (by decide +kernel) dX13_readLine_33 ?_
      obtain ⟨z5, h5, h⟩ := ob_some h
      refine k_z (va_runV (As := [.ref (q.2.1 32)]) (rest := []) ⟨hx, hb, hml, hown, hts⟩ (c_X13_isWord (l := l) M a0 32 k0 (by decide) h5) (cwV 1 hts gX13_readLine_X13_isWord rfl rfl rfl hdV_X13_isWord ⟨Nat.le_of_ble_eq_true rfl, Nat.le_of_ble_eq_true rfl⟩) (pV (T := TX13) hP hK hD hT hG hS k0 (by decide) rfl) rfl rfl hl.1 rfl (lv_room (Nat.le_of_ble_eq_true rfl)) dX13_readLine_35 ⟨Nat.zero_le _, Nat.zero_le _⟩) hS (fun H locs hz5 hP hD hT hS => ?_)
      refine lv_if_eq (tgt := 48) hx hb dX13_readLine_38 rfl (fun c6 => ?_) (fun c6 => ?_)
      · replace h := ite_t c6 h
        refine lv_aload_n hx hb dX13_readLine_48 rfl (lv_at hl 0 rfl) ?_
        refine r_ldcS (tx := "trial") (i := 33) hx hb hG hown (by decide +kernel) dX13_readLine_49 ?_
        obtain ⟨z7, h7, h⟩ := ob_some h
        refine k_z (va_runV (As := [.ref (q.2.1 33)]) (rest := []) ⟨hx, hb, hml, hown, hts⟩ (c_X13_isWord (l := l) M a0 33 k0 (by decide) h7) (cwV 1 hts gX13_readLine_X13_isWord rfl rfl rfl hdV_X13_isWord ⟨Nat.le_of_ble_eq_true rfl, Nat.le_of_ble_eq_true rfl⟩) (pV (T := TX13) hP hK hD hT hG hS k0 (by decide) rfl) rfl rfl hl.1 rfl (lv_room (Nat.le_of_ble_eq_true rfl)) dX13_readLine_51 ⟨Nat.zero_le _, Nat.zero_le _⟩) hS (fun H locs hz7 hP hD hT hS => ?_)
        refine lv_if_eq (tgt := 64) hx hb dX13_readLine_54 rfl (fun c8 => ?_) (fun c8 => ?_)
        · replace h := ite_t c8 h
          refine lv_aload_n hx hb dX13_readLine_64 rfl (lv_at hl 0 rfl) ?_
          refine r_ldcS (tx := "land") (i := 34) hx hb hG hown (by decide +kernel) dX13_readLine_65 ?_
          obtain ⟨z9, h9, h⟩ := ob_some h
          refine k_z (va_runV (As := [.ref (q.2.1 34)]) (rest := []) ⟨hx, hb, hml, hown, hts⟩ (c_X13_isWord (l := l) M a0 34 k0 (by decide) h9) (cwV 1 hts gX13_readLine_X13_isWord rfl rfl rfl hdV_X13_isWord ⟨Nat.le_of_ble_eq_true rfl, Nat.le_of_ble_eq_true rfl⟩) (pV (T := TX13) hP hK hD hT hG hS k0 (by decide) rfl) rfl rfl hl.1 rfl (lv_room (Nat.le_of_ble_eq_true rfl)) dX13_readLine_67 ⟨Nat.zero_le _, Nat.zero_le _⟩) hS (fun H locs hz9 hP hD hT hS => ?_)
          refine lv_if_eq (tgt := 80) hx hb dX13_readLine_70 rfl (fun c10 => ?_) (fun c10 => ?_)
          · replace h := ite_t c10 h
            refine lv_aload_n hx hb dX13_readLine_80 rfl (lv_at hl 0 rfl) ?_
            refine r_ldcS (tx := "fields") (i := 35) hx hb hG hown (by decide +kernel) dX13_readLine_81 ?_
            obtain ⟨z11, h11, h⟩ := ob_some h
            refine k_z (va_runV (As := [.ref (q.2.1 35)]) (rest := []) ⟨hx, hb, hml, hown, hts⟩ (c_X13_isWord (l := l) M a0 35 k0 (by decide) h11) (cwV 1 hts gX13_readLine_X13_isWord rfl rfl rfl hdV_X13_isWord ⟨Nat.le_of_ble_eq_true rfl, Nat.le_of_ble_eq_true rfl⟩) (pV (T := TX13) hP hK hD hT hG hS k0 (by decide) rfl) rfl rfl hl.1 rfl (lv_room (Nat.le_of_ble_eq_true rfl)) dX13_readLine_83 ⟨Nat.zero_le _, Nat.zero_le _⟩) hS (fun H locs hz11 hP hD hT hS => ?_)
            refine lv_if_eq (tgt := 96) hx hb dX13_readLine_86 rfl (fun c12 => ?_) (fun c12 => ?_)
            · replace h := ite_t c12 h
              refine lv_aload_n hx hb dX13_readLine_96 rfl (lv_at hl 0 rfl) ?_
              refine r_ldcS (tx := "houses") (i := 36) hx hb hG hown (by decide +kernel) dX13_readLine_97 ?_
              obtain ⟨z13, h13, h⟩ := ob_some h
              refine k_z (va_runV (As := [.ref (q.2.1 36)]) (rest := []) ⟨hx, hb, hml, hown, hts⟩ (c_X13_isWord (l := l) M a0 36 k0 (by decide) h13) (cwV 1 hts gX13_readLine_X13_isWord rfl rfl rfl hdV_X13_isWord ⟨Nat.le_of_ble_eq_true rfl, Nat.le_of_ble_eq_true rfl⟩) (pV (T := TX13) hP hK hD hT hG hS k0 (by decide) rfl) rfl rfl hl.1 rfl (lv_room (Nat.le_of_ble_eq_true rfl)) dX13_readLine_99 ⟨Nat.zero_le _, Nat.zero_le _⟩) hS (fun H locs hz13 hP hD hT hS => ?_)
              refine lv_if_eq (tgt := 112) hx hb dX13_readLine_102 rfl (fun c14 => ?_) (fun c14 => ?_)
              · replace h := ite_t c14 h
                refine lv_aload_n hx hb dX13_readLine_112 rfl (lv_at hl 0 rfl) ?_
                refine r_ldcS (tx := "story") (i := 37) hx hb hG hown (by decide +kernel) dX13_readLine_113 ?_
                obtain ⟨z15, h15, h⟩ := ob_some h
                refine k_z (va_runV (As := [.ref (q.2.1 37)]) (rest := []) ⟨hx, hb, hml, hown, hts⟩ (c_X13_isWord (l := l) M a0 37 k0 (by decide) h15) (cwV 1 hts gX13_readLine_X13_isWord rfl rfl rfl hdV_X13_isWord ⟨Nat.le_of_ble_eq_true rfl, Nat.le_of_ble_eq_true rfl⟩) (pV (T := TX13) hP hK hD hT hG hS k0 (by decide) rfl) rfl rfl hl.1 rfl (lv_room (Nat.le_of_ble_eq_true rfl)) dX13_readLine_115 ⟨Nat.zero_le _, Nat.zero_le _⟩) hS (fun H locs hz15 hP hD hT hS => ?_)
                refine lv_if_eq (tgt := 128) hx hb dX13_readLine_118 rfl (fun c16 => ?_) (fun c16 => ?_)
                · replace h := ite_t c16 h
                  refine lv_aload_n hx hb dX13_readLine_128 rfl (lv_at hl 0 rfl) ?_
                  refine r_ldcS (tx := "teller") (i := 38) hx hb hG hown (by decide +kernel) dX13_readLine_129 ?_
                  obtain ⟨z17, h17, h⟩ := ob_some h
                  refine k_z (va_runV (As := [.ref (q.2.1 38)]) (rest := []) ⟨hx, hb, hml, hown, hts⟩ (c_X13_isWord (l := l) M a0 38 k0 (by decide) h17) (cwV 1 hts gX13_readLine_X13_isWord rfl rfl rfl hdV_X13_isWord ⟨Nat.le_of_ble_eq_true rfl, Nat.le_of_ble_eq_true rfl⟩) (pV (T := TX13) hP hK hD hT hG hS k0 (by decide) rfl) rfl rfl hl.1 rfl (lv_room (Nat.le_of_ble_eq_true rfl)) dX13_readLine_131 ⟨Nat.zero_le _, Nat.zero_le _⟩) hS (fun H locs hz17 hP hD hT hS => ?_)
                  refine lv_if_eq (tgt := 144) hx hb dX13_readLine_134 rfl (fun c18 => ?_) (fun c18 => ?_)
                  · replace h := ite_t c18 h
                    refine lv_aload_n hx hb dX13_readLine_144 rfl (lv_at hl 0 rfl) ?_
                    refine r_ldcS (tx := "try") (i := 39) hx hb hG hown (by decide +kernel) dX13_readLine_145 ?_
                    obtain ⟨z19, h19, h⟩ := ob_some h
                    refine k_z (va_runV (As := [.ref (q.2.1 39)]) (rest := []) ⟨hx, hb, hml, hown, hts⟩ (c_X13_isWord (l := l) M a0 39 k0 (by decide) h19) (cwV 1 hts gX13_readLine_X13_isWord rfl rfl rfl hdV_X13_isWord ⟨Nat.le_of_ble_eq_true rfl, Nat.le_of_ble_eq_true rfl⟩) (pV (T := TX13) hP hK hD hT hG hS k0 (by decide) rfl) rfl rfl hl.1 rfl (lv_room (Nat.le_of_ble_eq_true rfl)) dX13_readLine_147 ⟨Nat.zero_le _, Nat.zero_le _⟩) hS (fun H locs hz19 hP hD hT hS => ?_)
                    refine lv_if_eq (tgt := 160) hx hb dX13_readLine_150 rfl (fun c20 => ?_) (fun c20 => ?_)
                    · replace h := ite_t c20 h
                      refine lv_aload_n hx hb dX13_readLine_160 rfl (lv_at hl 0 rfl) ?_
                      refine lv_iconst (v := 1) hx hb dX13_readLine_161 rfl ?_
                      obtain ⟨z21, h21, h⟩ := ob_some h
                      refine k_v (va_runV (As := [.int 1]) (rest := []) ⟨hx, hb, hml, hown, hts⟩ (c_X13_wrong (l := l) M a0 1 k0 h21) (cwV 1 hts gX13_readLine_X13_wrong rfl rfl rfl hdV_X13_wrong ⟨Nat.le_of_ble_eq_true rfl, Nat.le_of_ble_eq_true rfl⟩) (pV (T := TX13) hP hK hD hT hG hS k0 (by decide) rfl) rfl rfl hl.1 rfl (lv_room (Nat.le_of_ble_eq_true rfl)) dX13_readLine_162 ⟨Nat.zero_le _, Nat.zero_le _⟩) hS (fun H locs hP hD hT hS => ?_)
                      exact r_vret hx hb hr hlocks hP hK hD hT hG hS (Option.some.inj h) dX13_readLine_165
                    · replace h := ite_f c20 h
                      refine lv_aload_n hx hb dX13_readLine_153 rfl (lv_at hl 0 rfl) ?_
                      obtain ⟨z22, h22, h⟩ := ob_some h
                      refine k_v (va_runV (As := []) (rest := []) ⟨hx, hb, hml, hown, hts⟩ (c_X13_readTry (l := l) M a0 k0 h22) (cwV 0 hts gX13_readLine_X13_readTry rfl rfl rfl hdV_X13_readTry ⟨Nat.le_of_ble_eq_true rfl, Nat.le_of_ble_eq_true rfl⟩) (pV (T := TX13) hP hK hD hT hG hS k0 (by decide) rfl) rfl rfl hl.1 rfl (lv_room (Nat.le_of_ble_eq_true rfl)) dX13_readLine_154 ⟨Nat.zero_le _, Nat.zero_le _⟩) hS (fun H locs hP hD hT hS => ?_)
                      refine lv_goto (tgt := 165) hx hb dX13_readLine_157 rfl ?_
                      exact r_vret hx hb hr hlocks hP hK hD hT hG hS (Option.some.inj h) dX13_readLine_165
                  · replace h := ite_f c18 h
                    refine lv_aload_n hx hb dX13_readLine_137 rfl (lv_at hl 0 rfl) ?_
                    obtain ⟨z23, h23, h⟩ := ob_some h
                    refine k_v (va_runV (As := []) (rest := []) ⟨hx, hb, hml, hown, hts⟩ (c_X13_readTeller (l := l) M a0 k0 h23) (cwV 0 hts gX13_readLine_X13_readTeller rfl rfl rfl hdV_X13_readTeller ⟨Nat.le_of_ble_eq_true rfl, Nat.le_of_ble_eq_true rfl⟩) (pV (T := TX13) hP hK hD hT hG hS k0 (by decide) rfl) rfl rfl hl.1 rfl (lv_room (Nat.le_of_ble_eq_true rfl)) dX13_readLine_138 ⟨Nat.zero_le _, Nat.zero_le _⟩) hS (fun H locs hP hD hT hS => ?_)
                    refine lv_goto (tgt := 165) hx hb dX13_readLine_141 rfl ?_
                    exact r_vret hx hb hr hlocks hP hK hD hT hG hS (Option.some.inj h) dX13_readLine_165
                · replace h := ite_f c16 h
                  refine lv_aload_n hx hb dX13_readLine_121 rfl (lv_at hl 0 rfl) ?_
                  obtain ⟨z24, h24, h⟩ := ob_some h
                  refine k_v (va_runV (As := []) (rest := []) ⟨hx, hb, hml, hown, hts⟩ (c_X13_readStory (l := l) M a0 k0 h24) (cwV 0 hts gX13_readLine_X13_readStory rfl rfl rfl hdV_X13_readStory ⟨Nat.le_of_ble_eq_true rfl, Nat.le_of_ble_eq_true rfl⟩) (pV (T := TX13) hP hK hD hT hG hS k0 (by decide) rfl) rfl rfl hl.1 rfl (lv_room (Nat.le_of_ble_eq_true rfl)) dX13_readLine_122 ⟨Nat.zero_le _, Nat.zero_le _⟩) hS (fun H locs hP hD hT hS => ?_)
                  refine lv_goto (tgt := 165) hx hb dX13_readLine_125 rfl ?_
                  exact r_vret hx hb hr hlocks hP hK hD hT hG hS (Option.some.inj h) dX13_readLine_165
              · replace h := ite_f c14 h
                refine lv_aload_n hx hb dX13_readLine_105 rfl (lv_at hl 0 rfl) ?_
                obtain ⟨z25, h25, h⟩ := ob_some h
                refine k_v (va_runV (As := []) (rest := []) ⟨hx, hb, hml, hown, hts⟩ (c_X13_readHouses (l := l) M a0 k0 h25) (cwV 0 hts gX13_readLine_X13_readHouses rfl rfl rfl hdV_X13_readHouses ⟨Nat.le_of_ble_eq_true rfl, Nat.le_of_ble_eq_true rfl⟩) (pV (T := TX13) hP hK hD hT hG hS k0 (by decide) rfl) rfl rfl hl.1 rfl (lv_room (Nat.le_of_ble_eq_true rfl)) dX13_readLine_106 ⟨Nat.zero_le _, Nat.zero_le _⟩) hS (fun H locs hP hD hT hS => ?_)
                refine lv_goto (tgt := 165) hx hb dX13_readLine_109 rfl ?_
                exact r_vret hx hb hr hlocks hP hK hD hT hG hS (Option.some.inj h) dX13_readLine_165
            · replace h := ite_f c12 h
              refine lv_aload_n hx hb dX13_readLine_89 rfl (lv_at hl 0 rfl) ?_
              obtain ⟨z26, h26, h⟩ := ob_some h
              refine k_v (va_runV (As := []) (rest := []) ⟨hx, hb, hml, hown, hts⟩ (c_X13_readFields (l := l) M a0 k0 h26) (cwV 0 hts gX13_readLine_X13_readFields rfl rfl rfl hdV_X13_readFields ⟨Nat.le_of_ble_eq_true rfl, Nat.le_of_ble_eq_true rfl⟩) (pV (T := TX13) hP hK hD hT hG hS k0 (by decide) rfl) rfl rfl hl.1 rfl (lv_room (Nat.le_of_ble_eq_true rfl)) dX13_readLine_90 ⟨Nat.zero_le _, Nat.zero_le _⟩) hS (fun H locs hP hD hT hS => ?_)
              refine lv_goto (tgt := 165) hx hb dX13_readLine_93 rfl ?_
              exact r_vret hx hb hr hlocks hP hK hD hT hG hS (Option.some.inj h) dX13_readLine_165
          · replace h := ite_f c10 h
            refine lv_aload_n hx hb dX13_readLine_73 rfl (lv_at hl 0 rfl) ?_
            obtain ⟨z27, h27, h⟩ := ob_some h
            refine k_v (va_runV (As := []) (rest := []) ⟨hx, hb, hml, hown, hts⟩ (c_X13_readLand (l := l) M a0 k0 h27) (cwV 0 hts gX13_readLine_X13_readLand rfl rfl rfl hdV_X13_readLand ⟨Nat.le_of_ble_eq_true rfl, Nat.le_of_ble_eq_true rfl⟩) (pV (T := TX13) hP hK hD hT hG hS k0 (by decide) rfl) rfl rfl hl.1 rfl (lv_room (Nat.le_of_ble_eq_true rfl)) dX13_readLine_74 ⟨Nat.zero_le _, Nat.zero_le _⟩) hS (fun H locs hP hD hT hS => ?_)
            refine lv_goto (tgt := 165) hx hb dX13_readLine_77 rfl ?_
            exact r_vret hx hb hr hlocks hP hK hD hT hG hS (Option.some.inj h) dX13_readLine_165
        · replace h := ite_f c8 h
          refine lv_aload_n hx hb dX13_readLine_57 rfl (lv_at hl 0 rfl) ?_
          obtain ⟨z28, h28, h⟩ := ob_some h
          refine k_v (va_runV (As := []) (rest := []) ⟨hx, hb, hml, hown, hts⟩ (c_X13_readTrial (l := l) M a0 k0 h28) (cwV 0 hts gX13_readLine_X13_readTrial rfl rfl rfl hdV_X13_readTrial ⟨Nat.le_of_ble_eq_true rfl, Nat.le_of_ble_eq_true rfl⟩) (pV (T := TX13) hP hK hD hT hG hS k0 (by decide) rfl) rfl rfl hl.1 rfl (lv_room (Nat.le_of_ble_eq_true rfl)) dX13_readLine_58 ⟨Nat.zero_le _, Nat.zero_le _⟩) hS (fun H locs hP hD hT hS => ?_)
          refine lv_goto (tgt := 165) hx hb dX13_readLine_61 rfl ?_
          exact r_vret hx hb hr hlocks hP hK hD hT hG hS (Option.some.inj h) dX13_readLine_165
      · replace h := ite_f c6 h
        refine lv_aload_n hx hb dX13_readLine_41 rfl (lv_at hl 0 rfl) ?_
        obtain ⟨z29, h29, h⟩ := ob_some h
        refine k_v (va_runV (As := []) (rest := []) ⟨hx, hb, hml, hown, hts⟩ (c_X13_readStatue (l := l) M a0 k0 h29) (cwV 0 hts gX13_readLine_X13_readStatue rfl rfl rfl hdV_X13_readStatue ⟨Nat.le_of_ble_eq_true rfl, Nat.le_of_ble_eq_true rfl⟩) (pV (T := TX13) hP hK hD hT hG hS k0 (by decide) rfl) rfl rfl hl.1 rfl (lv_room (Nat.le_of_ble_eq_true rfl)) dX13_readLine_42 ⟨Nat.zero_le _, Nat.zero_le _⟩) hS (fun H locs hP hD hT hS => ?_)
        refine lv_goto (tgt := 165) hx hb dX13_readLine_45 rfl ?_
        exact r_vret hx hb hr hlocks hP hK hD hT hG hS (Option.some.inj h) dX13_readLine_165
    · replace h := ite_f c4 h
      refine lv_aload_n hx hb dX13_readLine_25 rfl (lv_at hl 0 rfl) ?_
      obtain ⟨z30, h30, h⟩ := ob_some h
      refine k_v (va_runV (As := []) (rest := []) ⟨hx, hb, hml, hown, hts⟩ (c_X13_readRoad (l := l) M a0 k0 h30) (cwV 0 hts gX13_readLine_X13_readRoad rfl rfl rfl hdV_X13_readRoad ⟨Nat.le_of_ble_eq_true rfl, Nat.le_of_ble_eq_true rfl⟩) (pV (T := TX13) hP hK hD hT hG hS k0 (by decide) rfl) rfl rfl hl.1 rfl (lv_room (Nat.le_of_ble_eq_true rfl)) dX13_readLine_26 ⟨Nat.zero_le _, Nat.zero_le _⟩) hS (fun H locs hP hD hT hS => ?_)
      refine lv_goto (tgt := 165) hx hb dX13_readLine_29 rfl ?_
      exact r_vret hx hb hr hlocks hP hK hD hT hG hS (Option.some.inj h) dX13_readLine_165
  · replace h := ite_f c2 h
    refine lv_aload_n hx hb dX13_readLine_9 rfl (lv_at hl 0 rfl) ?_
    obtain ⟨z31, h31, h⟩ := ob_some h
    refine k_v (va_runV (As := []) (rest := []) ⟨hx, hb, hml, hown, hts⟩ (c_X13_readWay (l := l) M a0 k0 h31) (cwV 0 hts gX13_readLine_X13_readWay rfl rfl rfl hdV_X13_readWay ⟨Nat.le_of_ble_eq_true rfl, Nat.le_of_ble_eq_true rfl⟩) (pV (T := TX13) hP hK hD hT hG hS k0 (by decide) rfl) rfl rfl hl.1 rfl (lv_room (Nat.le_of_ble_eq_true rfl)) dX13_readLine_10 ⟨Nat.zero_le _, Nat.zero_le _⟩) hS (fun H locs hP hD hT hS => ?_)
    refine lv_goto (tgt := 165) hx hb dX13_readLine_13 rfl ?_
    exact r_vret hx hb hr hlocks hP hK hD hT hG hS (Option.some.inj h) dX13_readLine_165
set_option maxHeartbeats 4000000 in
set_option maxRecDepth 100000 in
theorem c_X13_readIsland {l : Launch} {D : va_G} {ad : Nat → Nat} {cy : Nat → ClassId} {A : Nat → Prop} {g : CG} {q : SE} (M : MM) (a0 : Nat) (k0 : ok g a0 13 0) {Z : MM} (h : f_X13_readIsland M a0 = some Z) : Met l yX13_readIsland wsX13_readIsland ({ frames := 11, cells := 0, slots := 0, locals := 241 }) (va_Pc [.ref (ad a0)] (Wd D ad cy A g q M)) (va_Qv (fun u => u = Z) (Wd D ad cy A g q) A) 0 0 A := by
  refine Met.ofW (cc := cX13_readIsland) (maxL := 2) (ret := none) (by decide) rfl ?_
  intro p e s m args below meth c s₁ B hml hv
  obtain ⟨rfl, hP, hK, hD, hT, hG⟩ := hv
  have hx := B.exec
  have hb := B.bytes
  have hr := B.returns
  have hts := atoms_spec (ws := wsX13_readIsland) B.pre
  have hown : s.vm.findClass RX13 = some m.cls := findClass_of_methodNamed B.named
  have hlocks := B.notSynchronized
  have in12 : ∀ w ∈ u_ws RX12 TX12 48, w ∈ wsX13_readIsland := fun w h => List.mem_cons_of_mem _ (List.mem_append_right _ h)
  have in13 : ∀ w ∈ u_ws RX13 TX13 29, w ∈ wsX13_readIsland := fun w h => List.mem_cons_of_mem _ (List.mem_append_left _ (List.mem_append_right _ h))
  have hS : va_S A s.heap s.heap [] := va_S.rf
  have hl := lv_entry ([.ref (ad a0)]) (n := 2) (Nat.le_of_ble_eq_true rfl)
  rw [lg_entry_eq]
  generalize (lg_sl ([.ref (ad a0)]) ++ List.replicate (2 - (lg_sl ([.ref (ad a0)])).length) Slot.unset).toArray = ls at hl ⊢
  have hl : lv_has ls 2 [(0, .ref (ad a0))] := hl
  unfold f_X13_readIsland at h
  refine lv_iconst (v := 1) hx hb dX13_readIsland_0 rfl ?_
  refine lv_istore_n (lv' := [(1, .int 1), (0, .ref (ad a0))]) hx hb dX13_readIsland_1 rfl hl (by decide) rfl (fun ls hl => ?_)
  have L1 : ∀ n1 : Nat, ∀ (M1 : MM) (y1_0 : Nat) (y1_1 : Int32) (ky1_0 : ok g y1_0 13 0) (H : Heap) (locs : List Loc), f_X13_readIsland_L2 n1 M1 y1_0 y1_1 = some Z → va_P D vwCl (wd ad cy g M1) H → va_D A (wd ad cy g M1) → WT g M1 → va_S A s.heap H locs → ∀ (ls : Array Slot), lv_has ls 2 [(0, .ref (ad y1_0)), (1, .int y1_1)] → W p l e ((headSpec wsX13_readIsland ({ frames := 11, cells := 0, slots := 0, locals := 241 })).room) s m (([.ref (ad a0)] : List Value).toArray) below meth c H locs 0 0 (MQ below (va_Qv (fun u => u = Z) (Wd D ad cy A g q) A) ([.ref (ad a0)]).toArray s 0 0 A) (F0 m 2 ls []) := by
    intro n1
    induction n1 with
    | zero => intro M1 y1_0 y1_1 ky1_0 H locs h; exact absurd h (by simp [f_X13_readIsland_L2])
    | succ n1 ih1 =>
      intro M1 y1_0 y1_1 ky1_0 H locs h hP hD hT hS ls hl
      rw [f_X13_readIsland_L2] at h
      refine lv_iload_n hx hb dX13_readIsland_2 rfl (lv_at hl 1 rfl) ?_
      refine lv_if_eq (tgt := 20) hx hb dX13_readIsland_3 rfl (fun c2 => ?_) (fun c2 => ?_)
      · replace h := ite_t c2 h
        refine lv_aload_n hx hb dX13_readIsland_20 rfl (lv_at hl 0 rfl) ?_
        refine r_get (T := TX13) (v := .int (gI M1 y1_0 9)) hx hb hts in13 hown hK hP ky1_0 (by decide) rfl 9 (by decide) (hts (.fieldLink RX13 58 "StoneWalkModel" "sort" "I") (List.mem_of_getElem? (i := 1) (by decide +kernel))) rfl (t := 0) rfl rfl dX13_readIsland_21 ?_
        refine lv_iconst (v := 1) hx hb dX13_readIsland_24 rfl ?_
        refine lv_icmp_eq (tgt := 33) hx hb dX13_readIsland_25 rfl (fun c3 => ?_) (fun c3 => ?_)
        · replace h := ite_t c3 h
          refine lv_aload_n hx hb dX13_readIsland_33 rfl (lv_at hl 0 rfl) ?_
          rcases hN4 : gR M1 y1_0 4 with _ | b4
          · replace h := oc_n hN4 h
            refine r_get (T := TX13) (v := .null) hx hb hts in13 hown hK hP ky1_0 (by decide) rfl 4 (by decide) (hts (.fieldLink RX13 150 "StoneWalkModel" "read" "LStoneWalkModel$Island;") (List.mem_of_getElem? (i := 2) (by decide +kernel))) rfl (t := 2) rfl (by show va_rf _ = _; rw [hN4]; rfl) dX13_readIsland_34 ?_
            exact absurd h (by simp)
          · replace h := oc_s hN4 h
            have kb4 := hT.f ky1_0 (k := 4) (t := 12) (n := 0) rfl hN4
            refine r_get (T := TX13) (v := .ref (ad b4)) hx hb hts in13 hown hK hP ky1_0 (by decide) rfl 4 (by decide) (hts (.fieldLink RX13 150 "StoneWalkModel" "read" "LStoneWalkModel$Island;") (List.mem_of_getElem? (i := 2) (by decide +kernel))) rfl (t := 2) rfl (by show va_rf _ = _; rw [hN4]; rfl) dX13_readIsland_34 ?_
            refine r_getN (T := TX12) (v := .int (gI M1 b4 0)) hx hb hts in12 hown hK hP kb4 (by decide) rfl 0 (by decide) (hG.2.2.1 _ (List.mem_of_getElem? (i := 5) rfl)) rfl (t := 0) rfl rfl dX13_readIsland_37 ?_
            refine lv_if_eq (tgt := 63) hx hb dX13_readIsland_40 rfl (fun c5 => ?_) (fun c5 => ?_)
            · replace h := ite_t c5 h
              refine lv_aload_n hx hb dX13_readIsland_63 rfl (lv_at hl 0 rfl) ?_
              refine lv_bipush (v := 6) hx hb dX13_readIsland_64 rfl ?_
              obtain ⟨z6, h6, h⟩ := ob_some h
              refine k_v (va_runV (As := [.int 6]) (rest := []) ⟨hx, hb, hml, hown, hts⟩ (c_X13_wrong (l := l) M1 y1_0 6 ky1_0 h6) (cwV 1 hts gX13_readIsland_X13_wrong rfl rfl rfl hdV_X13_wrong ⟨Nat.le_of_ble_eq_true rfl, Nat.le_of_ble_eq_true rfl⟩) (pV (T := TX13) hP hK hD hT hG hS ky1_0 (by decide) rfl) rfl rfl hl.1 rfl (lv_room (Nat.le_of_ble_eq_true rfl)) dX13_readIsland_66 ⟨Nat.zero_le _, Nat.zero_le _⟩) hS (fun H locs hP hD hT hS => ?_)
              exact r_vret hx hb hr hlocks hP hK hD hT hG hS (Option.some.inj h) dX13_readIsland_69
            · replace h := ite_f c5 h
              refine lv_aload_n hx hb dX13_readIsland_43 rfl (lv_at hl 0 rfl) ?_
              rcases hN7 : gR M1 y1_0 4 with _ | b7
              · replace h := oc_n hN7 h
                refine r_get (T := TX13) (v := .null) hx hb hts in13 hown hK hP ky1_0 (by decide) rfl 4 (by decide) (hts (.fieldLink RX13 150 "StoneWalkModel" "read" "LStoneWalkModel$Island;") (List.mem_of_getElem? (i := 2) (by decide +kernel))) rfl (t := 2) rfl (by show va_rf _ = _; rw [hN7]; rfl) dX13_readIsland_44 ?_
                exact absurd h (by simp)
              · replace h := oc_s hN7 h
                have kb7 := hT.f ky1_0 (k := 4) (t := 12) (n := 0) rfl hN7
                refine r_get (T := TX13) (v := .ref (ad b7)) hx hb hts in13 hown hK hP ky1_0 (by decide) rfl 4 (by decide) (hts (.fieldLink RX13 150 "StoneWalkModel" "read" "LStoneWalkModel$Island;") (List.mem_of_getElem? (i := 2) (by decide +kernel))) rfl (t := 2) rfl (by show va_rf _ = _; rw [hN7]; rfl) dX13_readIsland_44 ?_
                refine r_getN (T := TX12) (v := .int (gI M1 b7 1)) hx hb hts in12 hown hK hP kb7 (by decide) rfl 1 (by decide) (hG.2.2.1 _ (List.mem_of_getElem? (i := 6) rfl)) rfl (t := 0) rfl rfl dX13_readIsland_47 ?_
                refine lv_if_eq (tgt := 63) hx hb dX13_readIsland_50 rfl (fun c8 => ?_) (fun c8 => ?_)
                · replace h := ite_t c8 h
                  refine lv_aload_n hx hb dX13_readIsland_63 rfl (lv_at hl 0 rfl) ?_
                  refine lv_bipush (v := 6) hx hb dX13_readIsland_64 rfl ?_
                  obtain ⟨z9, h9, h⟩ := ob_some h
                  refine k_v (va_runV (As := [.int 6]) (rest := []) ⟨hx, hb, hml, hown, hts⟩ (c_X13_wrong (l := l) M1 y1_0 6 ky1_0 h9) (cwV 1 hts gX13_readIsland_X13_wrong rfl rfl rfl hdV_X13_wrong ⟨Nat.le_of_ble_eq_true rfl, Nat.le_of_ble_eq_true rfl⟩) (pV (T := TX13) hP hK hD hT hG hS ky1_0 (by decide) rfl) rfl rfl hl.1 rfl (lv_room (Nat.le_of_ble_eq_true rfl)) dX13_readIsland_66 ⟨Nat.zero_le _, Nat.zero_le _⟩) hS (fun H locs hP hD hT hS => ?_)
                  exact r_vret hx hb hr hlocks hP hK hD hT hG hS (Option.some.inj h) dX13_readIsland_69
                · replace h := ite_f c8 h
                  refine lv_aload_n hx hb dX13_readIsland_53 rfl (lv_at hl 0 rfl) ?_
                  rcases hN10 : gR M1 y1_0 4 with _ | b10
                  · replace h := oc_n hN10 h
                    refine r_get (T := TX13) (v := .null) hx hb hts in13 hown hK hP ky1_0 (by decide) rfl 4 (by decide) (hts (.fieldLink RX13 150 "StoneWalkModel" "read" "LStoneWalkModel$Island;") (List.mem_of_getElem? (i := 2) (by decide +kernel))) rfl (t := 2) rfl (by show va_rf _ = _; rw [hN10]; rfl) dX13_readIsland_54 ?_
                    exact absurd h (by simp)
                  · replace h := oc_s hN10 h
                    have kb10 := hT.f ky1_0 (k := 4) (t := 12) (n := 0) rfl hN10
                    refine r_get (T := TX13) (v := .ref (ad b10)) hx hb hts in13 hown hK hP ky1_0 (by decide) rfl 4 (by decide) (hts (.fieldLink RX13 150 "StoneWalkModel" "read" "LStoneWalkModel$Island;") (List.mem_of_getElem? (i := 2) (by decide +kernel))) rfl (t := 2) rfl (by show va_rf _ = _; rw [hN10]; rfl) dX13_readIsland_54 ?_
                    refine r_getN (T := TX12) (v := .int (gI M1 b10 2)) hx hb hts in12 hown hK hP kb10 (by decide) rfl 2 (by decide) (hG.2.2.1 _ (List.mem_of_getElem? (i := 7) rfl)) rfl (t := 0) rfl rfl dX13_readIsland_57 ?_
                    refine lv_if_ne (tgt := 69) hx hb dX13_readIsland_60 rfl (fun c11 => ?_) (fun c11 => ?_)
                    · replace h := ite_f c11 h
                      exact r_vret hx hb hr hlocks hP hK hD hT hG hS (Option.some.inj h) dX13_readIsland_69
                    · replace h := ite_t c11 h
                      refine lv_aload_n hx hb dX13_readIsland_63 rfl (lv_at hl 0 rfl) ?_
                      refine lv_bipush (v := 6) hx hb dX13_readIsland_64 rfl ?_
                      obtain ⟨z12, h12, h⟩ := ob_some h
                      refine k_v (va_runV (As := [.int 6]) (rest := []) ⟨hx, hb, hml, hown, hts⟩ (c_X13_wrong (l := l) M1 y1_0 6 ky1_0 h12) (cwV 1 hts gX13_readIsland_X13_wrong rfl rfl rfl hdV_X13_wrong ⟨Nat.le_of_ble_eq_true rfl, Nat.le_of_ble_eq_true rfl⟩) (pV (T := TX13) hP hK hD hT hG hS ky1_0 (by decide) rfl) rfl rfl hl.1 rfl (lv_room (Nat.le_of_ble_eq_true rfl)) dX13_readIsland_66 ⟨Nat.zero_le _, Nat.zero_le _⟩) hS (fun H locs hP hD hT hS => ?_)
                      exact r_vret hx hb hr hlocks hP hK hD hT hG hS (Option.some.inj h) dX13_readIsland_69
        · replace h := ite_f c3 h
          refine lv_aload_n hx hb dX13_readIsland_28 rfl (lv_at hl 0 rfl) ?_
          refine lv_iconst (v := 1) hx hb dX13_readIsland_29 rfl ?_
          obtain ⟨z13, h13, h⟩ := ob_some h
          refine k_v (va_runV (As := [.int 1]) (rest := []) ⟨hx, hb, hml, hown, hts⟩ (c_X13_wrong (l := l) M1 y1_0 1 ky1_0 h13) (cwV 1 hts gX13_readIsland_X13_wrong rfl rfl rfl hdV_X13_wrong ⟨Nat.le_of_ble_eq_true rfl, Nat.le_of_ble_eq_true rfl⟩) (pV (T := TX13) hP hK hD hT hG hS ky1_0 (by decide) rfl) rfl rfl hl.1 rfl (lv_room (Nat.le_of_ble_eq_true rfl)) dX13_readIsland_30 ⟨Nat.zero_le _, Nat.zero_le _⟩) hS (fun H locs hP hD hT hS => ?_)
          refine lv_aload_n hx hb dX13_readIsland_33 rfl (lv_at hl 0 rfl) ?_
          rcases hN14 : gR z13 y1_0 4 with _ | b14
          · replace h := oc_n hN14 h
            refine r_get (T := TX13) (v := .null) hx hb hts in13 hown hK hP ky1_0 (by decide) rfl 4 (by decide) (hts (.fieldLink RX13 150 "StoneWalkModel" "read" "LStoneWalkModel$Island;") (List.mem_of_getElem? (i := 2) (by decide +kernel))) rfl (t := 2) rfl (by show va_rf _ = _; rw [hN14]; rfl) dX13_readIsland_34 ?_
            exact absurd h (by simp)
          · replace h := oc_s hN14 h
            have kb14 := hT.f ky1_0 (k := 4) (t := 12) (n := 0) rfl hN14
            refine r_get (T := TX13) (v := .ref (ad b14)) hx hb hts in13 hown hK hP ky1_0 (by decide) rfl 4 (by decide) (hts (.fieldLink RX13 150 "StoneWalkModel" "read" "LStoneWalkModel$Island;") (List.mem_of_getElem? (i := 2) (by decide +kernel))) rfl (t := 2) rfl (by show va_rf _ = _; rw [hN14]; rfl) dX13_readIsland_34 ?_
            refine r_getN (T := TX12) (v := .int (gI z13 b14 0)) hx hb hts in12 hown hK hP kb14 (by decide) rfl 0 (by decide) (hG.2.2.1 _ (List.mem_of_getElem? (i := 5) rfl)) rfl (t := 0) rfl rfl dX13_readIsland_37 ?_
            refine lv_if_eq (tgt := 63) hx hb dX13_readIsland_40 rfl (fun c15 => ?_) (fun c15 => ?_)
            · replace h := ite_t c15 h
              refine lv_aload_n hx hb dX13_readIsland_63 rfl (lv_at hl 0 rfl) ?_
              refine lv_bipush (v := 6) hx hb dX13_readIsland_64 rfl ?_
              obtain ⟨z16, h16, h⟩ := ob_some h
              refine k_v (va_runV (As := [.int 6]) (rest := []) ⟨hx, hb, hml, hown, hts⟩ (c_X13_wrong (l := l) z13 y1_0 6 ky1_0 h16) (cwV 1 hts gX13_readIsland_X13_wrong rfl rfl rfl hdV_X13_wrong ⟨Nat.le_of_ble_eq_true rfl, Nat.le_of_ble_eq_true rfl⟩) (pV (T := TX13) hP hK hD hT hG hS ky1_0 (by decide) rfl) rfl rfl hl.1 rfl (lv_room (Nat.le_of_ble_eq_true rfl)) dX13_readIsland_66 ⟨Nat.zero_le _, Nat.zero_le _⟩) hS (fun H locs hP hD hT hS => ?_)
              exact r_vret hx hb hr hlocks hP hK hD hT hG hS (Option.some.inj h) dX13_readIsland_69
            · replace h := ite_f c15 h
              refine lv_aload_n hx hb dX13_readIsland_43 rfl (lv_at hl 0 rfl) ?_
              rcases hN17 : gR z13 y1_0 4 with _ | b17
              · replace h := oc_n hN17 h
                refine r_get (T := TX13) (v := .null) hx hb hts in13 hown hK hP ky1_0 (by decide) rfl 4 (by decide) (hts (.fieldLink RX13 150 "StoneWalkModel" "read" "LStoneWalkModel$Island;") (List.mem_of_getElem? (i := 2) (by decide +kernel))) rfl (t := 2) rfl (by show va_rf _ = _; rw [hN17]; rfl) dX13_readIsland_44 ?_
                exact absurd h (by simp)
              · replace h := oc_s hN17 h
                have kb17 := hT.f ky1_0 (k := 4) (t := 12) (n := 0) rfl hN17
                refine r_get (T := TX13) (v := .ref (ad b17)) hx hb hts in13 hown hK hP ky1_0 (by decide) rfl 4 (by decide) (hts (.fieldLink RX13 150 "StoneWalkModel" "read" "LStoneWalkModel$Island;") (List.mem_of_getElem? (i := 2) (by decide +kernel))) rfl (t := 2) rfl (by show va_rf _ = _; rw [hN17]; rfl) dX13_readIsland_44 ?_
                refine r_getN (T := TX12) (v := .int (gI z13 b17 1)) hx hb hts in12 hown hK hP kb17 (by decide) rfl 1 (by decide) (hG.2.2.1 _ (List.mem_of_getElem? (i := 6) rfl)) rfl (t := 0) rfl rfl dX13_readIsland_47 ?_
                refine lv_if_eq (tgt := 63) hx hb dX13_readIsland_50 rfl (fun c18 => ?_) (fun c18 => ?_)
                · replace h := ite_t c18 h
                  refine lv_aload_n hx hb dX13_readIsland_63 rfl (lv_at hl 0 rfl) ?_
                  refine lv_bipush (v := 6) hx hb dX13_readIsland_64 rfl ?_
                  obtain ⟨z19, h19, h⟩ := ob_some h
                  refine k_v (va_runV (As := [.int 6]) (rest := []) ⟨hx, hb, hml, hown, hts⟩ (c_X13_wrong (l := l) z13 y1_0 6 ky1_0 h19) (cwV 1 hts gX13_readIsland_X13_wrong rfl rfl rfl hdV_X13_wrong ⟨Nat.le_of_ble_eq_true rfl, Nat.le_of_ble_eq_true rfl⟩) (pV (T := TX13) hP hK hD hT hG hS ky1_0 (by decide) rfl) rfl rfl hl.1 rfl (lv_room (Nat.le_of_ble_eq_true rfl)) dX13_readIsland_66 ⟨Nat.zero_le _, Nat.zero_le _⟩) hS (fun H locs hP hD hT hS => ?_)
                  exact r_vret hx hb hr hlocks hP hK hD hT hG hS (Option.some.inj h) dX13_readIsland_69
                · replace h := ite_f c18 h
                  refine lv_aload_n hx hb dX13_readIsland_53 rfl (lv_at hl 0 rfl) ?_
                  rcases hN20 : gR z13 y1_0 4 with _ | b20
                  · replace h := oc_n hN20 h
                    refine r_get (T := TX13) (v := .null) hx hb hts in13 hown hK hP ky1_0 (by decide) rfl 4 (by decide) (hts (.fieldLink RX13 150 "StoneWalkModel" "read" "LStoneWalkModel$Island;") (List.mem_of_getElem? (i := 2) (by decide +kernel))) rfl (t := 2) rfl (by show va_rf _ = _; rw [hN20]; rfl) dX13_readIsland_54 ?_
                    exact absurd h (by simp)
                  · replace h := oc_s hN20 h
                    have kb20 := hT.f ky1_0 (k := 4) (t := 12) (n := 0) rfl hN20
                    refine r_get (T := TX13) (v := .ref (ad b20)) hx hb hts in13 hown hK hP ky1_0 (by decide) rfl 4 (by decide) (hts (.fieldLink RX13 150 "StoneWalkModel" "read" "LStoneWalkModel$Island;") (List.mem_of_getElem? (i := 2) (by decide +kernel))) rfl (t := 2) rfl (by show va_rf _ = _; rw [hN20]; rfl) dX13_readIsland_54 ?_
                    refine r_getN (T := TX12) (v := .int (gI z13 b20 2)) hx hb hts in12 hown hK hP kb20 (by decide) rfl 2 (by decide) (hG.2.2.1 _ (List.mem_of_getElem? (i := 7) rfl)) rfl (t := 0) rfl rfl dX13_readIsland_57 ?_
                    refine lv_if_ne (tgt := 69) hx hb dX13_readIsland_60 rfl (fun c21 => ?_) (fun c21 => ?_)
                    · replace h := ite_f c21 h
                      exact r_vret hx hb hr hlocks hP hK hD hT hG hS (Option.some.inj h) dX13_readIsland_69
                    · replace h := ite_t c21 h
                      refine lv_aload_n hx hb dX13_readIsland_63 rfl (lv_at hl 0 rfl) ?_
                      refine lv_bipush (v := 6) hx hb dX13_readIsland_64 rfl ?_
                      obtain ⟨z22, h22, h⟩ := ob_some h
                      refine k_v (va_runV (As := [.int 6]) (rest := []) ⟨hx, hb, hml, hown, hts⟩ (c_X13_wrong (l := l) z13 y1_0 6 ky1_0 h22) (cwV 1 hts gX13_readIsland_X13_wrong rfl rfl rfl hdV_X13_wrong ⟨Nat.le_of_ble_eq_true rfl, Nat.le_of_ble_eq_true rfl⟩) (pV (T := TX13) hP hK hD hT hG hS ky1_0 (by decide) rfl) rfl rfl hl.1 rfl (lv_room (Nat.le_of_ble_eq_true rfl)) dX13_readIsland_66 ⟨Nat.zero_le _, Nat.zero_le _⟩) hS (fun H locs hP hD hT hS => ?_)
                      exact r_vret hx hb hr hlocks hP hK hD hT hG hS (Option.some.inj h) dX13_readIsland_69
      · replace h := ite_f c2 h
        refine lv_aload_n hx hb dX13_readIsland_6 rfl (lv_at hl 0 rfl) ?_
        obtain ⟨z23, h23, h⟩ := ob_some h
        refine k_v (va_runV (As := []) (rest := []) ⟨hx, hb, hml, hown, hts⟩ (c_X13_readLine (l := l) M1 y1_0 ky1_0 h23) (cwV 0 hts gX13_readIsland_X13_readLine rfl rfl rfl hdV_X13_readLine ⟨Nat.le_of_ble_eq_true rfl, Nat.le_of_ble_eq_true rfl⟩) (pV (T := TX13) hP hK hD hT hG hS ky1_0 (by decide) rfl) rfl rfl hl.1 rfl (lv_room (Nat.le_of_ble_eq_true rfl)) dX13_readIsland_7 ⟨Nat.zero_le _, Nat.zero_le _⟩) hS (fun H locs hP hD hT hS => ?_)
        refine lv_aload_n hx hb dX13_readIsland_10 rfl (lv_at hl 0 rfl) ?_
        refine lv_bipush (v := 59) hx hb dX13_readIsland_11 rfl ?_
        obtain ⟨z24, h24, h⟩ := ob_some h
        refine k_z (va_runV (As := [.int 59]) (rest := []) ⟨hx, hb, hml, hown, hts⟩ (c_X13_eatsSign (l := l) z23 y1_0 59 ky1_0 h24) (cwV 1 hts gX13_readIsland_X13_eatsSign rfl rfl rfl hdV_X13_eatsSign ⟨Nat.le_of_ble_eq_true rfl, Nat.le_of_ble_eq_true rfl⟩) (pV (T := TX13) hP hK hD hT hG hS ky1_0 (by decide) rfl) rfl rfl hl.1 rfl (lv_room (Nat.le_of_ble_eq_true rfl)) dX13_readIsland_13 ⟨Nat.zero_le _, Nat.zero_le _⟩) hS (fun H locs hz24 hP hD hT hS => ?_)
        refine lv_istore_n (lv' := [(1, .int z24.1), (0, .ref (ad y1_0))]) hx hb dX13_readIsland_16 rfl hl (by decide) rfl (fun ls hl => ?_)
        refine lv_goto (tgt := 2) hx hb dX13_readIsland_17 rfl ?_
        exact ih1 z24.2 y1_0 z24.1 ky1_0 _ _ h hP hD hT hS ls (lv_sub hl [1, 0] rfl)
  exact L1 FU M a0 1 k0 _ _ h hP hD hT hS ls (lv_sub hl [1, 0] rfl)
