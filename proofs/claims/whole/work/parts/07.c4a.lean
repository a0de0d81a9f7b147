theorem hdV_X12_find : yX12_find.cls = RX12 ∧ yX12_find.cls ≠ "java/lang/invoke/MethodHandle" ∧ yX12_find.cls ≠ "java/lang/invoke/VarHandle" ∧ (parseMethodDescriptor yX12_find.desc).map (fun d => d.parameters.length) = some 1 := by decide +kernel
theorem hdV_X13_refused : yX13_refused.cls = RX13 ∧ yX13_refused.cls ≠ "java/lang/invoke/MethodHandle" ∧ yX13_refused.cls ≠ "java/lang/invoke/VarHandle" ∧ (parseMethodDescriptor yX13_refused.desc).map (fun d => d.parameters.length) = some 1 := by decide +kernel
theorem hdV_X13_done : yX13_done.cls = RX13 ∧ yX13_done.cls ≠ "java/lang/invoke/MethodHandle" ∧ yX13_done.cls ≠ "java/lang/invoke/VarHandle" ∧ (parseMethodDescriptor yX13_done.desc).map (fun d => d.parameters.length) = some 1 := by decide +kernel
theorem hdS_X13_in : yX13_in.cls ≠ "java/lang/invoke/MethodHandle" ∧ yX13_in.cls ≠ "java/lang/invoke/VarHandle" ∧ (parseMethodDescriptor yX13_in.desc).map (fun d => d.parameters.length) = some 3 := by decide +kernel
theorem hdV_X13_byteAt : yX13_byteAt.cls = RX13 ∧ yX13_byteAt.cls ≠ "java/lang/invoke/MethodHandle" ∧ yX13_byteAt.cls ≠ "java/lang/invoke/VarHandle" ∧ (parseMethodDescriptor yX13_byteAt.desc).map (fun d => d.parameters.length) = some 1 := by decide +kernel
theorem hdS_X13_isLetter : yX13_isLetter.cls ≠ "java/lang/invoke/MethodHandle" ∧ yX13_isLetter.cls ≠ "java/lang/invoke/VarHandle" ∧ (parseMethodDescriptor yX13_isLetter.desc).map (fun d => d.parameters.length) = some 1 := by decide +kernel
theorem hdS_X13_isDigit : yX13_isDigit.cls ≠ "java/lang/invoke/MethodHandle" ∧ yX13_isDigit.cls ≠ "java/lang/invoke/VarHandle" ∧ (parseMethodDescriptor yX13_isDigit.desc).map (fun d => d.parameters.length) = some 1 := by decide +kernel
theorem hdS_X13_wordOf : yX13_wordOf.cls ≠ "java/lang/invoke/MethodHandle" ∧ yX13_wordOf.cls ≠ "java/lang/invoke/VarHandle" ∧ (parseMethodDescriptor yX13_wordOf.desc).map (fun d => d.parameters.length) = some 1 := by decide +kernel
theorem hdV_X13_goesOn : yX13_goesOn.cls = RX13 ∧ yX13_goesOn.cls ≠ "java/lang/invoke/MethodHandle" ∧ yX13_goesOn.cls ≠ "java/lang/invoke/VarHandle" ∧ (parseMethodDescriptor yX13_goesOn.desc).map (fun d => d.parameters.length) = some 0 := by decide +kernel
theorem hdV_X13_wrong : yX13_wrong.cls = RX13 ∧ yX13_wrong.cls ≠ "java/lang/invoke/MethodHandle" ∧ yX13_wrong.cls ≠ "java/lang/invoke/VarHandle" ∧ (parseMethodDescriptor yX13_wrong.desc).map (fun d => d.parameters.length) = some 1 := by decide +kernel
theorem hdV_X13_isWord : yX13_isWord.cls = RX13 ∧ yX13_isWord.cls ≠ "java/lang/invoke/MethodHandle" ∧ yX13_isWord.cls ≠ "java/lang/invoke/VarHandle" ∧ (parseMethodDescriptor yX13_isWord.desc).map (fun d => d.parameters.length) = some 1 := by decide +kernel
theorem hdV_X13_eatsWord : yX13_eatsWord.cls = RX13 ∧ yX13_eatsWord.cls ≠ "java/lang/invoke/MethodHandle" ∧ yX13_eatsWord.cls ≠ "java/lang/invoke/VarHandle" ∧ (parseMethodDescriptor yX13_eatsWord.desc).map (fun d => d.parameters.length) = some 1 := by decide +kernel
theorem hdV_X13_eatsSign : yX13_eatsSign.cls = RX13 ∧ yX13_eatsSign.cls ≠ "java/lang/invoke/MethodHandle" ∧ yX13_eatsSign.cls ≠ "java/lang/invoke/VarHandle" ∧ (parseMethodDescriptor yX13_eatsSign.desc).map (fun d => d.parameters.length) = some 1 := by decide +kernel
theorem hdV_X13_needs : yX13_needs.cls = RX13 ∧ yX13_needs.cls ≠ "java/lang/invoke/MethodHandle" ∧ yX13_needs.cls ≠ "java/lang/invoke/VarHandle" ∧ (parseMethodDescriptor yX13_needs.desc).map (fun d => d.parameters.length) = some 1 := by decide +kernel
theorem hdV_X13_readWhole : yX13_readWhole.cls = RX13 ∧ yX13_readWhole.cls ≠ "java/lang/invoke/MethodHandle" ∧ yX13_readWhole.cls ≠ "java/lang/invoke/VarHandle" ∧ (parseMethodDescriptor yX13_readWhole.desc).map (fun d => d.parameters.length) = some 2 := by decide +kernel
theorem hdV_X13_readPart : yX13_readPart.cls = RX13 ∧ yX13_readPart.cls ≠ "java/lang/invoke/MethodHandle" ∧ yX13_readPart.cls ≠ "java/lang/invoke/VarHandle" ∧ (parseMethodDescriptor yX13_readPart.desc).map (fun d => d.parameters.length) = some 3 := by decide +kernel
theorem hdV_X13_isName : yX13_isName.cls = RX13 ∧ yX13_isName.cls ≠ "java/lang/invoke/MethodHandle" ∧ yX13_isName.cls ≠ "java/lang/invoke/VarHandle" ∧ (parseMethodDescriptor yX13_isName.desc).map (fun d => d.parameters.length) = some 0 := by decide +kernel
theorem hdV_X13_begins : yX13_begins.cls = RX13 ∧ yX13_begins.cls ≠ "java/lang/invoke/MethodHandle" ∧ yX13_begins.cls ≠ "java/lang/invoke/VarHandle" ∧ (parseMethodDescriptor yX13_begins.desc).map (fun d => d.parameters.length) = some 2 := by decide +kernel
theorem hdV_X13_readFresh : yX13_readFresh.cls = RX13 ∧ yX13_readFresh.cls ≠ "java/lang/invoke/MethodHandle" ∧ yX13_readFresh.cls ≠ "java/lang/invoke/VarHandle" ∧ (parseMethodDescriptor yX13_readFresh.desc).map (fun d => d.parameters.length) = some 2 := by decide +kernel
theorem hdV_X13_known : yX13_known.cls = RX13 ∧ yX13_known.cls ≠ "java/lang/invoke/MethodHandle" ∧ yX13_known.cls ≠ "java/lang/invoke/VarHandle" ∧ (parseMethodDescriptor yX13_known.desc).map (fun d => d.parameters.length) = some 1 := by decide +kernel
theorem hdV_X13_readKnown : yX13_readKnown.cls = RX13 ∧ yX13_readKnown.cls ≠ "java/lang/invoke/MethodHandle" ∧ yX13_readKnown.cls ≠ "java/lang/invoke/VarHandle" ∧ (parseMethodDescriptor yX13_readKnown.desc).map (fun d => d.parameters.length) = some 1 := by decide +kernel
theorem hdV_X13_isSlope : yX13_isSlope.cls = RX13 ∧ yX13_isSlope.cls ≠ "java/lang/invoke/MethodHandle" ∧ yX13_isSlope.cls ≠ "java/lang/invoke/VarHandle" ∧ (parseMethodDescriptor yX13_isSlope.desc).map (fun d => d.parameters.length) = some 0 := by decide +kernel
theorem hdV_X13_readSlope : yX13_readSlope.cls = RX13 ∧ yX13_readSlope.cls ≠ "java/lang/invoke/MethodHandle" ∧ yX13_readSlope.cls ≠ "java/lang/invoke/VarHandle" ∧ (parseMethodDescriptor yX13_readSlope.desc).map (fun d => d.parameters.length) = some 0 := by decide +kernel
theorem hdV_X13_readWay : yX13_readWay.cls = RX13 ∧ yX13_readWay.cls ≠ "java/lang/invoke/MethodHandle" ∧ yX13_readWay.cls ≠ "java/lang/invoke/VarHandle" ∧ (parseMethodDescriptor yX13_readWay.desc).map (fun d => d.parameters.length) = some 0 := by decide +kernel
theorem hdV_X13_readRoad : yX13_readRoad.cls = RX13 ∧ yX13_readRoad.cls ≠ "java/lang/invoke/MethodHandle" ∧ yX13_readRoad.cls ≠ "java/lang/invoke/VarHandle" ∧ (parseMethodDescriptor yX13_readRoad.desc).map (fun d => d.parameters.length) = some 0 := by decide +kernel
theorem hdV_X13_readStatue : yX13_readStatue.cls = RX13 ∧ yX13_readStatue.cls ≠ "java/lang/invoke/MethodHandle" ∧ yX13_readStatue.cls ≠ "java/lang/invoke/VarHandle" ∧ (parseMethodDescriptor yX13_readStatue.desc).map (fun d => d.parameters.length) = some 0 := by decide +kernel
theorem hdV_X13_readTrial : yX13_readTrial.cls = RX13 ∧ yX13_readTrial.cls ≠ "java/lang/invoke/MethodHandle" ∧ yX13_readTrial.cls ≠ "java/lang/invoke/VarHandle" ∧ (parseMethodDescriptor yX13_readTrial.desc).map (fun d => d.parameters.length) = some 0 := by decide +kernel
theorem hdV_X13_readLand : yX13_readLand.cls = RX13 ∧ yX13_readLand.cls ≠ "java/lang/invoke/MethodHandle" ∧ yX13_readLand.cls ≠ "java/lang/invoke/VarHandle" ∧ (parseMethodDescriptor yX13_readLand.desc).map (fun d => d.parameters.length) = some 0 := by decide +kernel
theorem hdV_X13_readFields : yX13_readFields.cls = RX13 ∧ yX13_readFields.cls ≠ "java/lang/invoke/MethodHandle" ∧ yX13_readFields.cls ≠ "java/lang/invoke/VarHandle" ∧ (parseMethodDescriptor yX13_readFields.desc).map (fun d => d.parameters.length) = some 0 := by decide +kernel
theorem hdV_X13_readHouses : yX13_readHouses.cls = RX13 ∧ yX13_readHouses.cls ≠ "java/lang/invoke/MethodHandle" ∧ yX13_readHouses.cls ≠ "java/lang/invoke/VarHandle" ∧ (parseMethodDescriptor yX13_readHouses.desc).map (fun d => d.parameters.length) = some 0 := by decide +kernel
theorem hdV_X13_readStory : yX13_readStory.cls = RX13 ∧ yX13_readStory.cls ≠ "java/lang/invoke/MethodHandle" ∧ yX13_readStory.cls ≠ "java/lang/invoke/VarHandle" ∧ (parseMethodDescriptor yX13_readStory.desc).map (fun d => d.parameters.length) = some 0 := by decide +kernel
theorem hdV_X13_readTeller : yX13_readTeller.cls = RX13 ∧ yX13_readTeller.cls ≠ "java/lang/invoke/MethodHandle" ∧ yX13_readTeller.cls ≠ "java/lang/invoke/VarHandle" ∧ (parseMethodDescriptor yX13_readTeller.desc).map (fun d => d.parameters.length) = some 0 := by decide +kernel
theorem hdV_X13_readTry : yX13_readTry.cls = RX13 ∧ yX13_readTry.cls ≠ "java/lang/invoke/MethodHandle" ∧ yX13_readTry.cls ≠ "java/lang/invoke/VarHandle" ∧ (parseMethodDescriptor yX13_readTry.desc).map (fun d => d.parameters.length) = some 0 := by decide +kernel
theorem hdV_X13_readLine : yX13_readLine.cls = RX13 ∧ yX13_readLine.cls ≠ "java/lang/invoke/MethodHandle" ∧ yX13_readLine.cls ≠ "java/lang/invoke/VarHandle" ∧ (parseMethodDescriptor yX13_readLine.desc).map (fun d => d.parameters.length) = some 0 := by decide +kernel
theorem hdV_X13_readIsland : yX13_readIsland.cls = RX13 ∧ yX13_readIsland.cls ≠ "java/lang/invoke/MethodHandle" ∧ yX13_readIsland.cls ≠ "java/lang/invoke/VarHandle" ∧ (parseMethodDescriptor yX13_readIsland.desc).map (fun d => d.parameters.length) = some 0 := by decide +kernel
set_option maxHeartbeats 4000000 in
set_option maxRecDepth 100000 in
theorem c_X12_find {l : Launch} {D : va_G} {ad : Nat → Nat} {cy : Nat → ClassId} {A : Nat → Prop} {g : CG} {q : SE} (M : MM) (a0 : Nat) (x1 : Int64) (k0 : ok g a0 12 0) {Z : Int32} (h : f_X12_find M a0 x1 = some Z) : Met l yX12_find wsX12_find ({ frames := 0, cells := 0, slots := 0, locals := 0 }) (va_Pc [.ref (ad a0), .long x1] (Wd D ad cy A g q M)) (va_Qi (fun r u => r = Z ∧ u = M) (Wd D ad cy A g q) A) 0 0 A := by
  refine Met.ofW (cc := cX12_find) (maxL := 4) (ret := (some .int)) (by decide) rfl ?_
  intro p e s m args below meth c s₁ B hml hv
  obtain ⟨rfl, hP, hK, hD, hT, hG⟩ := hv
  have hx := B.exec
  have hb := B.bytes
  have hr := B.returns
  have hts := atoms_spec (ws := wsX12_find) B.pre
  have hown : s.vm.findClass RX12 = some m.cls := findClass_of_methodNamed B.named
  have hlocks := B.notSynchronized
  have in12 : ∀ w ∈ u_ws RX12 TX12 48, w ∈ wsX12_find := fun w h => List.mem_cons_of_mem _ (List.mem_append_right _ h)
  have hS : va_S A s.heap s.heap [] := va_S.rf
  have hl := lv_entry ([.ref (ad a0), .long x1]) (n := 4) (Nat.le_of_ble_eq_true rfl)
  rw [lg_entry_eq]
  generalize (lg_sl ([.ref (ad a0), .long x1]) ++ List.replicate (4 - (lg_sl ([.ref (ad a0), .long x1])).length) Slot.unset).toArray = ls at hl ⊢
  have hl : lv_has ls 4 [(0, .ref (ad a0)), (1, .long x1)] := hl
  unfold f_X12_find at h
  refine lv_iconst (v := 0) hx hb dX12_find_0 rfl ?_
  refine lv_istore_n (lv' := [(3, .int 0), (0, .ref (ad a0)), (1, .long x1)]) hx hb dX12_find_1 rfl hl (by decide) rfl (fun ls hl => ?_)
  have L1 : ∀ n1 : Nat, ∀ (y1_0 : Nat) (y1_1 : Int64) (y1_3 : Int32) (ky1_0 : ok g y1_0 12 0) (H : Heap) (locs : List Loc), f_X12_find_L2 n1 M y1_0 y1_1 y1_3 = some Z → va_P D vwCl (wd ad cy g M) H → va_D A (wd ad cy g M) → WT g M → va_S A s.heap H locs → ∀ (ls : Array Slot), lv_has ls 4 [(0, .ref (ad y1_0)), (1, .long y1_1), (3, .int y1_3)] → W p l e ((headSpec wsX12_find ({ frames := 0, cells := 0, slots := 0, locals := 0 })).room) s m (([.ref (ad a0), .long x1] : List Value).toArray) below meth c H locs 0 0 (MQ below (va_Qi (fun r u => r = Z ∧ u = M) (Wd D ad cy A g q) A) ([.ref (ad a0), .long x1]).toArray s 0 0 A) (F0 m 2 ls []) := by
    intro n1
    induction n1 with
    | zero => intro y1_0 y1_1 y1_3 ky1_0 H locs h; exact absurd h (by simp [f_X12_find_L2])
    | succ n1 ih1 =>
      intro y1_0 y1_1 y1_3 ky1_0 H locs h hP hD hT hS ls hl
      rw [f_X12_find_L2] at h
      refine lv_iload_n hx hb dX12_find_2 rfl (lv_at hl 2 rfl) ?_
      refine lv_aload_n hx hb dX12_find_3 rfl (lv_at hl 0 rfl) ?_
      refine r_get (T := TX12) (v := .int (gI M y1_0 8)) hx hb hts in12 hown hK hP ky1_0 (by decide) rfl 8 (by decide) (hts (.fieldLink RX12 117 "StoneWalkModel$Island" "names" "I") (List.mem_of_getElem? (i := 1) (by decide +kernel))) rfl (t := 0) rfl rfl dX12_find_4 ?_
      refine lv_icmp_ge (tgt := 29) hx hb dX12_find_7 rfl (fun c2 => ?_) (fun c2 => ?_)
      · replace h := ite_t c2 h
        refine lv_iconst (v := (-1)) hx hb dX12_find_29 rfl ?_
        exact r_iret hx hb hr hlocks hP hK hD hT hG hS (Option.some.inj h) rfl dX12_find_30
      · replace h := ite_f c2 h
        refine lv_aload_n hx hb dX12_find_10 rfl (lv_at hl 0 rfl) ?_
        rcases hN3 : gR M y1_0 45 with _ | b3
        · exact absurd (oc_n hN3 h) (by simp)
        replace h := oc_s hN3 h
        have kb3 := hT.f ky1_0 (k := 45) (t := 16) (n := 35) rfl hN3
        refine r_get (T := TX12) (v := .ref (ad b3)) hx hb hts in12 hown hK hP ky1_0 (by decide) rfl 45 (by decide) (hts (.fieldLink RX12 107 "StoneWalkModel$Island" "name" "[J") (List.mem_of_getElem? (i := 2) (by decide +kernel))) rfl (t := 2) rfl (by show va_rf _ = _; rw [hN3]; rfl) dX12_find_11 ?_
        refine lv_iload_n hx hb dX12_find_14 rfl (lv_at hl 2 rfl) ?_
        obtain ⟨hn4, h⟩ := chk_some h
        refine r_lald hx hb hK hP kb3 hn4 dX12_find_15 ?_
        refine lv_lload_n hx hb dX12_find_16 rfl (lv_at hl 1 rfl) ?_
        refine W.lcmp hx hb dX12_find_17 ?_
        refine lv_if_ne (tgt := 23) hx hb dX12_find_18 rfl (fun c5 => ?_) (fun c5 => ?_)
        · replace h := ite_f c5 h
          refine lv_iinc (v := y1_3 + 1) (lv' := [(3, .int (y1_3 + 1)), (0, .ref (ad y1_0)), (1, .long y1_1)]) hx hb dX12_find_23 hl (k := 2) rfl rfl (by decide) rfl (fun ls hl => ?_)
          refine lv_goto (tgt := 2) hx hb dX12_find_26 rfl ?_
          exact ih1 y1_0 y1_1 (y1_3 + 1) ky1_0 _ _ h hP hD hT hS ls (lv_sub hl [1, 2, 0] rfl)
        · replace h := ite_t c5 h
          refine lv_iload_n hx hb dX12_find_21 rfl (lv_at hl 2 rfl) ?_
          exact r_iret hx hb hr hlocks hP hK hD hT hG hS (Option.some.inj h) rfl dX12_find_22
  exact L1 FU a0 x1 0 k0 _ _ h hP hD hT hS ls (lv_sub hl [1, 2, 0] rfl)
set_option maxHeartbeats 4000000 in
set_option maxRecDepth 100000 in
theorem c_X13_refused {l : Launch} {D : va_G} {ad : Nat → Nat} {cy : Nat → ClassId} {A : Nat → Prop} {g : CG} {q : SE} (M : MM) (a0 : Nat) (x1 : Int32) (k0 : ok g a0 13 0) {Z : (Int32 × MM)} (h : f_X13_refused M a0 x1 = some Z) : Met l yX13_refused wsX13_refused ({ frames := 0, cells := 0, slots := 0, locals := 0 }) (va_Pc [.ref (ad a0), .int x1] (Wd D ad cy A g q M)) (va_Qi (fun r u => r = Z.1 ∧ u = Z.2) (Wd D ad cy A g q) A) 0 0 A := by
  refine Met.ofW (cc := cX13_refused) (maxL := 2) (ret := (some .int)) (by decide) rfl ?_
  intro p e s m args below meth c s₁ B hml hv
  obtain ⟨rfl, hP, hK, hD, hT, hG⟩ := hv
  have hx := B.exec
  have hb := B.bytes
  have hr := B.returns
  have hts := atoms_spec (ws := wsX13_refused) B.pre
  have hown : s.vm.findClass RX13 = some m.cls := findClass_of_methodNamed B.named
  have hlocks := B.notSynchronized
  have in13 : ∀ w ∈ u_ws RX13 TX13 29, w ∈ wsX13_refused := fun w h => List.mem_cons_of_mem _ (List.mem_append_right _ h)
  have hS : va_S A s.heap s.heap [] := va_S.rf
  have hl := lv_entry ([.ref (ad a0), .int x1]) (n := 2) (Nat.le_of_ble_eq_true rfl)
  rw [lg_entry_eq]
  generalize (lg_sl ([.ref (ad a0), .int x1]) ++ List.replicate (2 - (lg_sl ([.ref (ad a0), .int x1])).length) Slot.unset).toArray = ls at hl ⊢
  have hl : lv_has ls 2 [(0, .ref (ad a0)), (1, .int x1)] := hl
  unfold f_X13_refused at h
  refine lv_aload_n hx hb dX13_refused_0 rfl (lv_at hl 0 rfl) ?_
  refine lv_iload_n hx hb dX13_refused_1 rfl (lv_at hl 1 rfl) ?_
  refine r_putI (T := TX13) (ty := .int) (v := x1) hx hb hts in13 tyX13 tyX13_ok nmX13 hown hK hP hD hT hS k0 (by decide) rfl 1 (by decide) (hts (.fieldLink RX13 33 "StoneWalkModel" "trouble" "I") (List.mem_of_getElem? (i := 1) (by decide +kernel))) rfl rfl (tyX13_ok 1 (by decide)) rfl rfl rfl dX13_refused_2 (fun H locs hP hD hT hS => ?_)
  generalize pI M a0 1 x1 = Mg1 at h hP hD hT ⊢
  refine lv_aload_n hx hb dX13_refused_5 rfl (lv_at hl 0 rfl) ?_
  refine lv_iconst (v := (-1)) hx hb dX13_refused_6 rfl ?_
  refine r_putI (T := TX13) (ty := .int) (v := (-1)) hx hb hts in13 tyX13 tyX13_ok nmX13 hown hK hP hD hT hS k0 (by decide) rfl 2 (by decide) (hts (.fieldLink RX13 9 "StoneWalkModel" "where" "I") (List.mem_of_getElem? (i := 2) (by decide +kernel))) rfl rfl (tyX13_ok 2 (by decide)) rfl rfl rfl dX13_refused_7 (fun H locs hP hD hT hS => ?_)
  generalize pI Mg1 a0 2 (-1) = Mg2 at h hP hD hT ⊢
  refine lv_iconst (v := (-1)) hx hb dX13_refused_10 rfl ?_
  have hZ := Option.some.inj h
  have hZ1 := congrArg Prod.fst hZ
  have hZ2 := congrArg Prod.snd hZ
  exact r_iret hx hb hr hlocks hP hK hD hT hG hS hZ1 hZ2 dX13_refused_11
set_option maxHeartbeats 4000000 in
set_option maxRecDepth 100000 in
theorem c_X13_done {l : Launch} {D : va_G} {ad : Nat → Nat} {cy : Nat → ClassId} {A : Nat → Prop} {g : CG} {q : SE} (M : MM) (a0 : Nat) (x1 : Int32) (k0 : ok g a0 13 0) {Z : (Int32 × MM)} (h : f_X13_done M a0 x1 = some Z) : Met l yX13_done wsX13_done ({ frames := 0, cells := 0, slots := 0, locals := 0 }) (va_Pc [.ref (ad a0), .int x1] (Wd D ad cy A g q M)) (va_Qi (fun r u => r = Z.1 ∧ u = Z.2) (Wd D ad cy A g q) A) 0 0 A := by
  refine Met.ofW (cc := cX13_done) (maxL := 2) (ret := (some .int)) (by decide) rfl ?_
  intro p e s m args below meth c s₁ B hml hv
  obtain ⟨rfl, hP, hK, hD, hT, hG⟩ := hv
  have hx := B.exec
  have hb := B.bytes
  have hr := B.returns
  have hts := atoms_spec (ws := wsX13_done) B.pre
  have hown : s.vm.findClass RX13 = some m.cls := findClass_of_methodNamed B.named
  have hlocks := B.notSynchronized
  have in13 : ∀ w ∈ u_ws RX13 TX13 29, w ∈ wsX13_done := fun w h => List.mem_cons_of_mem _ (List.mem_append_right _ h)
  have hS : va_S A s.heap s.heap [] := va_S.rf
  have hl := lv_entry ([.ref (ad a0), .int x1]) (n := 2) (Nat.le_of_ble_eq_true rfl)
  rw [lg_entry_eq]
  generalize (lg_sl ([.ref (ad a0), .int x1]) ++ List.replicate (2 - (lg_sl ([.ref (ad a0), .int x1])).length) Slot.unset).toArray = ls at hl ⊢
  have hl : lv_has ls 2 [(0, .ref (ad a0)), (1, .int x1)] := hl
  unfold f_X13_done at h
  refine lv_aload_n hx hb dX13_done_0 rfl (lv_at hl 0 rfl) ?_
  refine lv_iconst (v := 0) hx hb dX13_done_1 rfl ?_
  refine r_putI (T := TX13) (ty := .int) (v := 0) hx hb hts in13 tyX13 tyX13_ok nmX13 hown hK hP hD hT hS k0 (by decide) rfl 1 (by decide) (hts (.fieldLink RX13 33 "StoneWalkModel" "trouble" "I") (List.mem_of_getElem? (i := 1) (by decide +kernel))) rfl rfl (tyX13_ok 1 (by decide)) rfl rfl rfl dX13_done_2 (fun H locs hP hD hT hS => ?_)
  generalize pI M a0 1 0 = Mg1 at h hP hD hT ⊢
  refine lv_aload_n hx hb dX13_done_5 rfl (lv_at hl 0 rfl) ?_
  refine lv_iconst (v := (-1)) hx hb dX13_done_6 rfl ?_
  refine r_putI (T := TX13) (ty := .int) (v := (-1)) hx hb hts in13 tyX13 tyX13_ok nmX13 hown hK hP hD hT hS k0 (by decide) rfl 2 (by decide) (hts (.fieldLink RX13 9 "StoneWalkModel" "where" "I") (List.mem_of_getElem? (i := 2) (by decide +kernel))) rfl rfl (tyX13_ok 2 (by decide)) rfl rfl rfl dX13_done_7 (fun H locs hP hD hT hS => ?_)
  generalize pI Mg1 a0 2 (-1) = Mg2 at h hP hD hT ⊢
  refine lv_iload_n hx hb dX13_done_10 rfl (lv_at hl 1 rfl) ?_
  have hZ := Option.some.inj h
  have hZ1 := congrArg Prod.fst hZ
  have hZ2 := congrArg Prod.snd hZ
  exact r_iret hx hb hr hlocks hP hK hD hT hG hS hZ1 hZ2 dX13_done_11
set_option maxHeartbeats 4000000 in
set_option maxRecDepth 100000 in
theorem c_X13_in {l : Launch} {D : va_G} {ad : Nat → Nat} {cy : Nat → ClassId} {A : Nat → Prop} {g : CG} {q : SE} (M : MM) (x0 : Int32) (x1 : Int32) (x2 : Int32) {Z : Int32} (h : f_X13_in M x0 x1 x2 = some Z) : Met l yX13_in wsX13_in ({ frames := 0, cells := 0, slots := 0, locals := 0 }) (va_Pc [.int x0, .int x1, .int x2] (Wd D ad cy A g q M)) (va_Qi (fun r u => r = Z ∧ u = M ∧ zb r) (Wd D ad cy A g q) A) 0 0 A := by
  refine Met.ofW (cc := cX13_in) (maxL := 3) (ret := (some .boolean)) (by decide) rfl ?_
  intro p e s m args below meth c s₁ B hml hv
  obtain ⟨rfl, hP, hK, hD, hT, hG⟩ := hv
  have hx := B.exec
  have hb := B.bytes
  have hr := B.returns
  have hts := atoms_spec (ws := wsX13_in) B.pre
  have hown : s.vm.findClass RX13 = some m.cls := findClass_of_methodNamed B.named
  have hlocks := B.notSynchronized
  have hS : va_S A s.heap s.heap [] := va_S.rf
  have hl := lv_entry ([.int x0, .int x1, .int x2]) (n := 3) (Nat.le_of_ble_eq_true rfl)
  rw [lg_entry_eq]
  generalize (lg_sl ([.int x0, .int x1, .int x2]) ++ List.replicate (3 - (lg_sl ([.int x0, .int x1, .int x2])).length) Slot.unset).toArray = ls at hl ⊢
  have hl : lv_has ls 3 [(0, .int x0), (1, .int x1), (2, .int x2)] := hl
  unfold f_X13_in at h
  refine lv_iload_n hx hb dX13_in_0 rfl (lv_at hl 0 rfl) ?_
  refine lv_iload_n hx hb dX13_in_1 rfl (lv_at hl 1 rfl) ?_
  refine lv_icmp_lt (tgt := 14) hx hb dX13_in_2 rfl (fun c1 => ?_) (fun c1 => ?_)
  · replace h := ite_t c1 h
    refine lv_iconst (v := 0) hx hb dX13_in_14 rfl ?_
    exact r_zret hx hb hr hlocks hP hK hD hT hG hS zb_0 (Option.some.inj h) rfl dX13_in_15
  · replace h := ite_f c1 h
    refine lv_iload_n hx hb dX13_in_5 rfl (lv_at hl 0 rfl) ?_
    refine lv_iload_n hx hb dX13_in_6 rfl (lv_at hl 2 rfl) ?_
    refine lv_icmp_gt (tgt := 14) hx hb dX13_in_7 rfl (fun c2 => ?_) (fun c2 => ?_)
    · replace h := ite_t c2 h
      refine lv_iconst (v := 0) hx hb dX13_in_14 rfl ?_
      exact r_zret hx hb hr hlocks hP hK hD hT hG hS zb_0 (Option.some.inj h) rfl dX13_in_15
    · replace h := ite_f c2 h
      refine lv_iconst (v := 1) hx hb dX13_in_10 rfl ?_
      refine lv_goto (tgt := 15) hx hb dX13_in_11 rfl ?_
      exact r_zret hx hb hr hlocks hP hK hD hT hG hS zb_1 (Option.some.inj h) rfl dX13_in_15
set_option maxHeartbeats 4000000 in
set_option maxRecDepth 100000 in
theorem c_X13_byteAt {l : Launch} {D : va_G} {ad : Nat → Nat} {cy : Nat → ClassId} {A : Nat → Prop} {g : CG} {q : SE} (M : MM) (a0 : Nat) (x1 : Int32) (k0 : ok g a0 13 0) {Z : Int32} (h : f_X13_byteAt M a0 x1 = some Z) : Met l yX13_byteAt wsX13_byteAt ({ frames := 0, cells := 0, slots := 0, locals := 0 }) (va_Pc [.ref (ad a0), .int x1] (Wd D ad cy A g q M)) (va_Qi (fun r u => r = Z ∧ u = M) (Wd D ad cy A g q) A) 0 0 A := by
  refine Met.ofW (cc := cX13_byteAt) (maxL := 2) (ret := (some .int)) (by decide) rfl ?_
  intro p e s m args below meth c s₁ B hml hv
  obtain ⟨rfl, hP, hK, hD, hT, hG⟩ := hv
  have hx := B.exec
  have hb := B.bytes
  have hr := B.returns
  have hts := atoms_spec (ws := wsX13_byteAt) B.pre
  have hown : s.vm.findClass RX13 = some m.cls := findClass_of_methodNamed B.named
  have hlocks := B.notSynchronized
  have in13 : ∀ w ∈ u_ws RX13 TX13 29, w ∈ wsX13_byteAt := fun w h => List.mem_cons_of_mem _ (List.mem_append_right _ h)
  have hS : va_S A s.heap s.heap [] := va_S.rf
  have hl := lv_entry ([.ref (ad a0), .int x1]) (n := 2) (Nat.le_of_ble_eq_true rfl)
  rw [lg_entry_eq]
  generalize (lg_sl ([.ref (ad a0), .int x1]) ++ List.replicate (2 - (lg_sl ([.ref (ad a0), .int x1])).length) Slot.unset).toArray = ls at hl ⊢
  have hl : lv_has ls 2 [(0, .ref (ad a0)), (1, .int x1)] := hl
  unfold f_X13_byteAt at h
  refine lv_iload_n hx hb dX13_byteAt_0 rfl (lv_at hl 1 rfl) ?_
  refine lv_aload_n hx hb dX13_byteAt_1 rfl (lv_at hl 0 rfl) ?_
  refine r_get (T := TX13) (v := .int (gI M a0 7)) hx hb hts in13 hown hK hP k0 (by decide) rfl 7 (by decide) (hts (.fieldLink RX13 43 "StoneWalkModel" "size" "I") (List.mem_of_getElem? (i := 1) (by decide +kernel))) rfl (t := 0) rfl rfl dX13_byteAt_2 ?_
  refine lv_icmp_ge (tgt := 21) hx hb dX13_byteAt_5 rfl (fun c1 => ?_) (fun c1 => ?_)
  · replace h := ite_t c1 h
    refine lv_iconst (v := (-1)) hx hb dX13_byteAt_21 rfl ?_
    exact r_iret hx hb hr hlocks hP hK hD hT hG hS (Option.some.inj h) rfl dX13_byteAt_22
  · replace h := ite_f c1 h
    refine lv_aload_n hx hb dX13_byteAt_8 rfl (lv_at hl 0 rfl) ?_
    rcases hN2 : gR M a0 5 with _ | b2
    · exact absurd (oc_n hN2 h) (by simp)
    replace h := oc_s hN2 h
    have kb2 := hT.f k0 (k := 5) (t := 14) (n := 900) rfl hN2
    refine r_get (T := TX13) (v := .ref (ad b2)) hx hb hts in13 hown hK hP k0 (by decide) rfl 5 (by decide) (hts (.fieldLink RX13 13 "StoneWalkModel" "tape" "[B") (List.mem_of_getElem? (i := 2) (by decide +kernel))) rfl (t := 2) rfl (by show va_rf _ = _; rw [hN2]; rfl) dX13_byteAt_9 ?_
    refine lv_iload_n hx hb dX13_byteAt_12 rfl (lv_at hl 1 rfl) ?_
    obtain ⟨hn3, h⟩ := chk_some h
    refine r_bald hx hb hK hP kb2 hn3 dX13_byteAt_13 ?_
    refine lv_sipush (v := 255) hx hb dX13_byteAt_14 rfl ?_
    refine lv_iand hx hb dX13_byteAt_17 ?_
    refine lv_goto (tgt := 22) hx hb dX13_byteAt_18 rfl ?_
    exact r_iret hx hb hr hlocks hP hK hD hT hG hS (Option.some.inj h) rfl dX13_byteAt_22
set_option maxHeartbeats 4000000 in
set_option maxRecDepth 100000 in
theorem c_X13_isLetter {l : Launch} {D : va_G} {ad : Nat → Nat} {cy : Nat → ClassId} {A : Nat → Prop} {g : CG} {q : SE} (M : MM) (x0 : Int32) {Z : Int32} (h : f_X13_isLetter M x0 = some Z) : Met l yX13_isLetter wsX13_isLetter ({ frames := 0, cells := 0, slots := 0, locals := 0 }) (va_Pc [.int x0] (Wd D ad cy A g q M)) (va_Qi (fun r u => r = Z ∧ u = M ∧ zb r) (Wd D ad cy A g q) A) 0 0 A := by
  refine Met.ofW (cc := cX13_isLetter) (maxL := 1) (ret := (some .boolean)) (by decide) rfl ?_
  intro p e s m args below meth c s₁ B hml hv
  obtain ⟨rfl, hP, hK, hD, hT, hG⟩ := hv
  have hx := B.exec
  have hb := B.bytes
  have hr := B.returns
  have hts := atoms_spec (ws := wsX13_isLetter) B.pre
  have hown : s.vm.findClass RX13 = some m.cls := findClass_of_methodNamed B.named
  have hlocks := B.notSynchronized
  have hS : va_S A s.heap s.heap [] := va_S.rf
  have hl := lv_entry ([.int x0]) (n := 1) (Nat.le_of_ble_eq_true rfl)
  rw [lg_entry_eq]
  generalize (lg_sl ([.int x0]) ++ List.replicate (1 - (lg_sl ([.int x0])).length) Slot.unset).toArray = ls at hl ⊢
  have hl : lv_has ls 1 [(0, .int x0)] := hl
  unfold f_X13_isLetter at h
  refine lv_iload_n hx hb dX13_isLetter_0 rfl (lv_at hl 0 rfl) ?_
  refine lv_bipush (v := 97) hx hb dX13_isLetter_1 rfl ?_
  refine lv_icmp_lt (tgt := 16) hx hb dX13_isLetter_3 rfl (fun c1 => ?_) (fun c1 => ?_)
  · replace h := ite_t c1 h
    refine lv_iconst (v := 0) hx hb dX13_isLetter_16 rfl ?_
    exact r_zret hx hb hr hlocks hP hK hD hT hG hS zb_0 (Option.some.inj h) rfl dX13_isLetter_17
  · replace h := ite_f c1 h
    refine lv_iload_n hx hb dX13_isLetter_6 rfl (lv_at hl 0 rfl) ?_
    refine lv_bipush (v := 122) hx hb dX13_isLetter_7 rfl ?_
    refine lv_icmp_gt (tgt := 16) hx hb dX13_isLetter_9 rfl (fun c2 => ?_) (fun c2 => ?_)
    · replace h := ite_t c2 h
      refine lv_iconst (v := 0) hx hb dX13_isLetter_16 rfl ?_
      exact r_zret hx hb hr hlocks hP hK hD hT hG hS zb_0 (Option.some.inj h) rfl dX13_isLetter_17
    · replace h := ite_f c2 h
      refine lv_iconst (v := 1) hx hb dX13_isLetter_12 rfl ?_
      refine lv_goto (tgt := 17) hx hb dX13_isLetter_13 rfl ?_
      exact r_zret hx hb hr hlocks hP hK hD hT hG hS zb_1 (Option.some.inj h) rfl dX13_isLetter_17
set_option maxHeartbeats 4000000 in
set_option maxRecDepth 100000 in
theorem c_X13_isDigit {l : Launch} {D : va_G} {ad : Nat → Nat} {cy : Nat → ClassId} {A : Nat → Prop} {g : CG} {q : SE} (M : MM) (x0 : Int32) {Z : Int32} (h : f_X13_isDigit M x0 = some Z) : Met l yX13_isDigit wsX13_isDigit ({ frames := 0, cells := 0, slots := 0, locals := 0 }) (va_Pc [.int x0] (Wd D ad cy A g q M)) (va_Qi (fun r u => r = Z ∧ u = M ∧ zb r) (Wd D ad cy A g q) A) 0 0 A := by
  refine Met.ofW (cc := cX13_isDigit) (maxL := 1) (ret := (some .boolean)) (by decide) rfl ?_
  intro p e s m args below meth c s₁ B hml hv
  obtain ⟨rfl, hP, hK, hD, hT, hG⟩ := hv
  have hx := B.exec
  have hb := B.bytes
  have hr := B.returns
  have hts := atoms_spec (ws := wsX13_isDigit) B.pre
  have hown : s.vm.findClass RX13 = some m.cls := findClass_of_methodNamed B.named
  have hlocks := B.notSynchronized
  have hS : va_S A s.heap s.heap [] := va_S.rf
  have hl := lv_entry ([.int x0]) (n := 1) (Nat.le_of_ble_eq_true rfl)
  rw [lg_entry_eq]
  generalize (lg_sl ([.int x0]) ++ List.replicate (1 - (lg_sl ([.int x0])).length) Slot.unset).toArray = ls at hl ⊢
  have hl : lv_has ls 1 [(0, .int x0)] := hl
  unfold f_X13_isDigit at h
  refine lv_iload_n hx hb dX13_isDigit_0 rfl (lv_at hl 0 rfl) ?_
  refine lv_bipush (v := 48) hx hb dX13_isDigit_1 rfl ?_
  refine lv_icmp_lt (tgt := 16) hx hb dX13_isDigit_3 rfl (fun c1 => ?_) (fun c1 => ?_)
  · replace h := ite_t c1 h
    refine lv_iconst (v := 0) hx hb dX13_isDigit_16 rfl ?_
    exact r_zret hx hb hr hlocks hP hK hD hT hG hS zb_0 (Option.some.inj h) rfl dX13_isDigit_17
  · replace h := ite_f c1 h
    refine lv_iload_n hx hb dX13_isDigit_6 rfl (lv_at hl 0 rfl) ?_
    refine lv_bipush (v := 57) hx hb dX13_isDigit_7 rfl ?_
    refine lv_icmp_gt (tgt := 16) hx hb dX13_isDigit_9 rfl (fun c2 => ?_) (fun c2 => ?_)
    · replace h := ite_t c2 h
      refine lv_iconst (v := 0) hx hb dX13_isDigit_16 rfl ?_
      exact r_zret hx hb hr hlocks hP hK hD hT hG hS zb_0 (Option.some.inj h) rfl dX13_isDigit_17
    · replace h := ite_f c2 h
      refine lv_iconst (v := 1) hx hb dX13_isDigit_12 rfl ?_
      refine lv_goto (tgt := 17) hx hb dX13_isDigit_13 rfl ?_
      exact r_zret hx hb hr hlocks hP hK hD hT hG hS zb_1 (Option.some.inj h) rfl dX13_isDigit_17
set_option maxHeartbeats 4000000 in
set_option maxRecDepth 100000 in
theorem c_X13_wordOf {l : Launch} {D : va_G} {ad : Nat → Nat} {cy : Nat → ClassId} {A : Nat → Prop} {g : CG} {q : SE} (M : MM) (i0 : Nat) (k0 : i0 < nS) {Z : Int64} (h : f_X13_wordOf M i0 = some Z) : Met l yX13_wordOf wsX13_wordOf ({ frames := 4, cells := 0, slots := 0, locals := 85 }) (va_Pc [.ref (q.2.1 i0)] (Wd D ad cy A g q M)) (va_Ql (fun r u => r = Z ∧ u = M) (Wd D ad cy A g q) A) 0 0 A := by
  refine Met.ofW (cc := cX13_wordOf) (maxL := 4) (ret := (some .long)) (by decide) rfl ?_
  intro p e s m args below meth c s₁ B hml hv
  obtain ⟨rfl, hP, hK, hD, hT, hG⟩ := hv
  have hx := B.exec
  have hb := B.bytes
  have hr := B.returns
  have hts := atoms_spec (ws := wsX13_wordOf) B.pre
  have hown : s.vm.findClass RX13 = some m.cls := findClass_of_methodNamed B.named
  have hlocks := B.notSynchronized
  have hS : va_S A s.heap s.heap [] := va_S.rf
  have hl := lv_entry ([.ref (q.2.1 i0)]) (n := 4) (Nat.le_of_ble_eq_true rfl)
  rw [lg_entry_eq]
  generalize (lg_sl ([.ref (q.2.1 i0)]) ++ List.replicate (4 - (lg_sl ([.ref (q.2.1 i0)])).length) Slot.unset).toArray = ls at hl ⊢
  have hl : lv_has ls 4 [(0, .ref (q.2.1 i0))] := hl
  unfold f_X13_wordOf at h
  refine lv_lconst (v := 0) hx hb dX13_wordOf_0 rfl ?_
  refine lv_lstore_n (lv' := [(1, .long 0), (0, .ref (q.2.1 i0))]) hx hb dX13_wordOf_1 rfl hl (by decide) rfl (fun ls hl => ?_)
  refine lv_iconst (v := 0) hx hb dX13_wordOf_2 rfl ?_
  refine lv_istore_n (lv' := [(3, .int 0), (1, .long 0), (0, .ref (q.2.1 i0))]) hx hb dX13_wordOf_3 rfl hl (by decide) rfl (fun ls hl => ?_)
  have L1 : ∀ n1 : Nat, ∀ (y1_0 : Nat) (y1_1 : Int64) (y1_3 : Int32) (ky1_0 : y1_0 < nS) (H : Heap) (locs : List Loc), f_X13_wordOf_L4 n1 M y1_0 y1_1 y1_3 = some Z → va_P D vwCl (wd ad cy g M) H → va_D A (wd ad cy g M) → WT g M → va_S A s.heap H locs → ∀ (ls : Array Slot), lv_has ls 4 [(0, .ref (q.2.1 y1_0)), (1, .long y1_1), (3, .int y1_3)] → W p l e ((headSpec wsX13_wordOf ({ frames := 4, cells := 0, slots := 0, locals := 85 })).room) s m (([.ref (q.2.1 i0)] : List Value).toArray) below meth c H locs 0 0 (MQ below (va_Ql (fun r u => r = Z ∧ u = M) (Wd D ad cy A g q) A) ([.ref (q.2.1 i0)]).toArray s 0 0 A) (F0 m 4 ls []) := by
    intro n1
    induction n1 with
    | zero => intro y1_0 y1_1 y1_3 ky1_0 H locs h; exact absurd h (by simp [f_X13_wordOf_L4])
    | succ n1 ih1 =>
      intro y1_0 y1_1 y1_3 ky1_0 H locs h hP hD hT hS ls hl
      rw [f_X13_wordOf_L4] at h
      refine lv_iload_n hx hb dX13_wordOf_4 rfl (lv_at hl 2 rfl) ?_
      refine lv_aload_n hx hb dX13_wordOf_5 rfl (lv_at hl 0 rfl) ?_
      obtain ⟨z2, h2, h⟩ := ob_some h
      refine k_i (va_runV (As := []) (rest := [.int y1_3]) ⟨hx, hb, hml, hown, hts⟩ (c_J0_length_8abf5 (l := l) M y1_0 ky1_0 h2) (cwV 0 hts gX13_wordOf_J0_length_8abf5 rfl rfl rfl hdV_J0_length_8abf5 ⟨Nat.le_of_ble_eq_true rfl, Nat.le_of_ble_eq_true rfl⟩) (pT hP hK hD hT hG hS ky1_0) rfl rfl hl.1 rfl (lv_room (Nat.le_of_ble_eq_true rfl)) dX13_wordOf_6 ⟨Nat.zero_le _, Nat.zero_le _⟩) hS (fun H locs hP hD hT hS => ?_)
      refine lv_icmp_ge (tgt := 36) hx hb dX13_wordOf_9 rfl (fun c3 => ?_) (fun c3 => ?_)
      · replace h := ite_t c3 h
        refine lv_lload_n hx hb dX13_wordOf_36 rfl (lv_at hl 1 rfl) ?_
        exact r_lret hx hb hr hlocks hP hK hD hT hG hS (Option.some.inj h) rfl dX13_wordOf_37
      · replace h := ite_f c3 h
        refine lv_ldc2 hx hb hown (hts (.constantLong RX13 52 (32)) (List.mem_of_getElem? (i := 1) (by decide +kernel))) dX13_wordOf_12 ?_
        refine lv_lload_n hx hb dX13_wordOf_15 rfl (lv_at hl 1 rfl) ?_
        refine lv_lmul hx hb dX13_wordOf_16 ?_
        refine lv_aload_n hx hb dX13_wordOf_17 rfl (lv_at hl 0 rfl) ?_
        refine lv_iload_n hx hb dX13_wordOf_18 rfl (lv_at hl 2 rfl) ?_
        obtain ⟨z4, h4, h⟩ := ob_some h
        refine k_c (va_runV (As := [.int y1_3]) (rest := [.long (32 * y1_1)]) ⟨hx, hb, hml, hown, hts⟩ (c_J0_charAt_5068e (l := l) M y1_0 y1_3 ky1_0 h4) (cwV 1 hts gX13_wordOf_J0_charAt_5068e rfl rfl rfl hdV_J0_charAt_5068e ⟨Nat.le_of_ble_eq_true rfl, Nat.le_of_ble_eq_true rfl⟩) (pT hP hK hD hT hG hS ky1_0) rfl rfl hl.1 rfl (lv_room (Nat.le_of_ble_eq_true rfl)) dX13_wordOf_19 ⟨Nat.zero_le _, Nat.zero_le _⟩) hS (fun H locs hz4 hP hD hT hS => ?_)
        refine lv_bipush (v := 97) hx hb dX13_wordOf_22 rfl ?_
        refine lv_isub hx hb dX13_wordOf_24 ?_
        refine lv_iconst (v := 1) hx hb dX13_wordOf_25 rfl ?_
        refine lv_iadd hx hb dX13_wordOf_26 ?_
        refine lv_i2l hx hb dX13_wordOf_27 rfl ?_
        refine lv_ladd hx hb dX13_wordOf_28 ?_
        refine lv_lstore_n (lv' := [(1, .long ((32 * y1_1) + (((z4 - 97) + 1).toInt64))), (0, .ref (q.2.1 y1_0)), (3, .int y1_3)]) hx hb dX13_wordOf_29 rfl hl (by decide) rfl (fun ls hl => ?_)
        refine lv_iinc (v := y1_3 + 1) (lv' := [(3, .int (y1_3 + 1)), (1, .long ((32 * y1_1) + (((z4 - 97) + 1).toInt64))), (0, .ref (q.2.1 y1_0))]) hx hb dX13_wordOf_30 hl (k := 2) rfl rfl (by decide) rfl (fun ls hl => ?_)
        refine lv_goto (tgt := 4) hx hb dX13_wordOf_33 rfl ?_
        exact ih1 y1_0 ((32 * y1_1) + (((z4 - 97) + 1).toInt64)) (y1_3 + 1) ky1_0 _ _ h hP hD hT hS ls (lv_sub hl [2, 1, 0] rfl)
  exact L1 FU i0 0 0 k0 _ _ h hP hD hT hS ls (lv_sub hl [2, 1, 0] rfl)
set_option maxHeartbeats 4000000 in
set_option maxRecDepth 100000 in
theorem c_X13_goesOn {l : Launch} {D : va_G} {ad : Nat → Nat} {cy : Nat → ClassId} {A : Nat → Prop} {g : CG} {q : SE} (M : MM) (a0 : Nat) (k0 : ok g a0 13 0) {Z : MM} (h : f_X13_goesOn M a0 = some Z) : Met l yX13_goesOn wsX13_goesOn ({ frames := 1, cells := 0, slots := 0, locals := 21 }) (va_Pc [.ref (ad a0)] (Wd D ad cy A g q M)) (va_Qv (fun u => u = Z) (Wd D ad cy A g q) A) 0 0 A := by
  refine Met.ofW (cc := cX13_goesOn) (maxL := 3) (ret := none) (by decide) rfl ?_
  intro p e s m args below meth c s₁ B hml hv
  obtain ⟨rfl, hP, hK, hD, hT, hG⟩ := hv
  have hx := B.exec
  have hb := B.bytes
  have hr := B.returns
  have hts := atoms_spec (ws := wsX13_goesOn) B.pre
  have hown : s.vm.findClass RX13 = some m.cls := findClass_of_methodNamed B.named
  have hlocks := B.notSynchronized
  have in13 : ∀ w ∈ u_ws RX13 TX13 29, w ∈ wsX13_goesOn := fun w h => List.mem_cons_of_mem _ (List.mem_append_right _ h)
  have hS : va_S A s.heap s.heap [] := va_S.rf
  have hl := lv_entry ([.ref (ad a0)]) (n := 3) (Nat.le_of_ble_eq_true rfl)
  rw [lg_entry_eq]
  generalize (lg_sl ([.ref (ad a0)]) ++ List.replicate (3 - (lg_sl ([.ref (ad a0)])).length) Slot.unset).toArray = ls at hl ⊢
  have hl : lv_has ls 3 [(0, .ref (ad a0))] := hl
  unfold f_X13_goesOn at h
  refine lv_aload_n hx hb dX13_goesOn_0 rfl (lv_at hl 0 rfl) ?_
  refine r_get (T := TX13) (v := .int (gI M a0 9)) hx hb hts in13 hown hK hP k0 (by decide) rfl 9 (by decide) (hts (.fieldLink RX13 58 "StoneWalkModel" "sort" "I") (List.mem_of_getElem? (i := 1) (by decide +kernel))) rfl (t := 0) rfl rfl dX13_goesOn_1 ?_
  refine lv_iconst (v := 5) hx hb dX13_goesOn_4 rfl ?_
  refine lv_icmp_ne (tgt := 9) hx hb dX13_goesOn_5 rfl (fun c1 => ?_) (fun c1 => ?_)
  · replace h := ite_f c1 h
    have L2 : ∀ n2 : Nat, ∀ (M2 : MM) (y2_0 : Nat) (ky2_0 : ok g y2_0 13 0) (H : Heap) (locs : List Loc), f_X13_goesOn_L9 n2 M2 y2_0 = some Z → va_P D vwCl (wd ad cy g M2) H → va_D A (wd ad cy g M2) → WT g M2 → va_S A s.heap H locs → ∀ (ls : Array Slot), lv_has ls 3 [(0, .ref (ad y2_0))] → W p l e ((headSpec wsX13_goesOn ({ frames := 1, cells := 0, slots := 0, locals := 21 })).room) s m (([.ref (ad a0)] : List Value).toArray) below meth c H locs 0 0 (MQ below (va_Qv (fun u => u = Z) (Wd D ad cy A g q) A) ([.ref (ad a0)]).toArray s 0 0 A) (F0 m 9 ls []) := by
      intro n2
      induction n2 with
      | zero => intro M2 y2_0 ky2_0 H locs h; exact absurd h (by simp [f_X13_goesOn_L9])
      | succ n2 ih2 =>
        intro M2 y2_0 ky2_0 H locs h hP hD hT hS ls hl
        rw [f_X13_goesOn_L9] at h
        refine lv_aload_n hx hb dX13_goesOn_9 rfl (lv_at hl 0 rfl) ?_
        refine lv_aload_n hx hb dX13_goesOn_10 rfl (lv_at hl 0 rfl) ?_
        refine r_get (T := TX13) (v := .int (gI M2 y2_0 8)) hx hb hts in13 hown hK hP ky2_0 (by decide) rfl 8 (by decide) (hts (.fieldLink RX13 61 "StoneWalkModel" "at" "I") (List.mem_of_getElem? (i := 2) (by decide +kernel))) rfl (t := 0) rfl rfl dX13_goesOn_11 ?_
        obtain ⟨z3, h3, h⟩ := ob_some h
        refine k_i (va_runV (As := [.int (gI M2 y2_0 8)]) (rest := []) ⟨hx, hb, hml, hown, hts⟩ (c_X13_byteAt (l := l) M2 y2_0 (gI M2 y2_0 8) ky2_0 h3) (cwV 1 hts gX13_goesOn_X13_byteAt rfl rfl rfl hdV_X13_byteAt ⟨Nat.le_of_ble_eq_true rfl, Nat.le_of_ble_eq_true rfl⟩) (pV (T := TX13) hP hK hD hT hG hS ky2_0 (by decide) rfl) rfl rfl hl.1 rfl (lv_room (Nat.le_of_ble_eq_true rfl)) dX13_goesOn_14 ⟨Nat.zero_le _, Nat.zero_le _⟩) hS (fun H locs hP hD hT hS => ?_)
        refine lv_bipush (v := 32) hx hb dX13_goesOn_17 rfl ?_
        refine lv_icmp_ne (tgt := 35) hx hb dX13_goesOn_19 rfl (fun c4 => ?_) (fun c4 => ?_)
        · replace h := ite_f c4 h
          refine lv_aload_n hx hb dX13_goesOn_35 rfl (lv_at hl 0 rfl) ?_
          refine lv_aload_n hx hb dX13_goesOn_36 rfl (lv_at hl 0 rfl) ?_
          refine r_get (T := TX13) (v := .int (gI M2 y2_0 8)) hx hb hts in13 hown hK hP ky2_0 (by decide) rfl 8 (by decide) (hts (.fieldLink RX13 61 "StoneWalkModel" "at" "I") (List.mem_of_getElem? (i := 2) (by decide +kernel))) rfl (t := 0) rfl rfl dX13_goesOn_37 ?_
          refine r_putI (T := TX13) (ty := .int) (v := gI M2 y2_0 8) hx hb hts in13 tyX13 tyX13_ok nmX13 hown hK hP hD hT hS ky2_0 (by decide) rfl 10 (by decide) (hts (.fieldLink RX13 67 "StoneWalkModel" "place" "I") (List.mem_of_getElem? (i := 3) (by decide +kernel))) rfl rfl (tyX13_ok 10 (by decide)) rfl rfl rfl dX13_goesOn_40 (fun H locs hP hD hT hS => ?_)
          generalize pI M2 y2_0 10 (gI M2 y2_0 8) = Mg1 at h hP hD hT ⊢
          refine lv_aload_n hx hb dX13_goesOn_43 rfl (lv_at hl 0 rfl) ?_
          refine lv_iconst (v := 0) hx hb dX13_goesOn_44 rfl ?_
          refine r_putI (T := TX13) (ty := .int) (v := 0) hx hb hts in13 tyX13 tyX13_ok nmX13 hown hK hP hD hT hS ky2_0 (by decide) rfl 9 (by decide) (hts (.fieldLink RX13 58 "StoneWalkModel" "sort" "I") (List.mem_of_getElem? (i := 1) (by decide +kernel))) rfl rfl (tyX13_ok 9 (by decide)) rfl rfl rfl dX13_goesOn_45 (fun H locs hP hD hT hS => ?_)
          generalize pI Mg1 y2_0 9 0 = Mg2 at h hP hD hT ⊢
          refine lv_aload_n hx hb dX13_goesOn_48 rfl (lv_at hl 0 rfl) ?_
          refine lv_iconst (v := 0) hx hb dX13_goesOn_49 rfl ?_
          refine r_putI (T := TX13) (ty := .int) (v := 0) hx hb hts in13 tyX13 tyX13_ok nmX13 hown hK hP hD hT hS ky2_0 (by decide) rfl 11 (by decide) (hts (.fieldLink RX13 70 "StoneWalkModel" "mark" "I") (List.mem_of_getElem? (i := 4) (by decide +kernel))) rfl rfl (tyX13_ok 11 (by decide)) rfl rfl rfl dX13_goesOn_50 (fun H locs hP hD hT hS => ?_)
          generalize pI Mg2 y2_0 11 0 = Mg3 at h hP hD hT ⊢
          refine lv_aload_n hx hb dX13_goesOn_53 rfl (lv_at hl 0 rfl) ?_
          refine lv_aload_n hx hb dX13_goesOn_54 rfl (lv_at hl 0 rfl) ?_
          refine r_get (T := TX13) (v := .int (gI Mg3 y2_0 8)) hx hb hts in13 hown hK hP ky2_0 (by decide) rfl 8 (by decide) (hts (.fieldLink RX13 61 "StoneWalkModel" "at" "I") (List.mem_of_getElem? (i := 2) (by decide +kernel))) rfl (t := 0) rfl rfl dX13_goesOn_55 ?_
          obtain ⟨z5, h5, h⟩ := ob_some h
          refine k_i (va_runV (As := [.int (gI Mg3 y2_0 8)]) (rest := []) ⟨hx, hb, hml, hown, hts⟩ (c_X13_byteAt (l := l) Mg3 y2_0 (gI Mg3 y2_0 8) ky2_0 h5) (cwV 1 hts gX13_goesOn_X13_byteAt rfl rfl rfl hdV_X13_byteAt ⟨Nat.le_of_ble_eq_true rfl, Nat.le_of_ble_eq_true rfl⟩) (pV (T := TX13) hP hK hD hT hG hS ky2_0 (by decide) rfl) rfl rfl hl.1 rfl (lv_room (Nat.le_of_ble_eq_true rfl)) dX13_goesOn_58 ⟨Nat.zero_le _, Nat.zero_le _⟩) hS (fun H locs hP hD hT hS => ?_)
          refine lv_istore_n (lv' := [(1, .int z5), (0, .ref (ad y2_0))]) hx hb dX13_goesOn_61 rfl hl (by decide) rfl (fun ls hl => ?_)
          refine lv_iconst (v := 0) hx hb dX13_goesOn_62 rfl ?_
          refine lv_istore_n (lv' := [(2, .int 0), (1, .int z5), (0, .ref (ad y2_0))]) hx hb dX13_goesOn_63 rfl hl (by decide) rfl (fun ls hl => ?_)
          refine lv_iload_n hx hb dX13_goesOn_64 rfl (lv_at hl 1 rfl) ?_
          refine lv_iconst (v := (-1)) hx hb dX13_goesOn_65 rfl ?_
          refine lv_icmp_ne (tgt := 77) hx hb dX13_goesOn_66 rfl (fun c6 => ?_) (fun c6 => ?_)
          · replace h := ite_f c6 h
            refine lv_iload_n hx hb dX13_goesOn_77 rfl (lv_at hl 1 rfl) ?_
            obtain ⟨z7, h7, h⟩ := ob_some h
            refine k_z (va_runS (As := [.int z5]) (rest := []) ⟨hx, hb, hml, hown, hts⟩ (c_X13_isLetter (l := l) Mg3 z5 h7) (va_cwS 1 hts gX13_goesOn_X13_isLetter rfl rfl rfl hdS_X13_isLetter ⟨Nat.le_of_ble_eq_true rfl, Nat.le_of_ble_eq_true rfl⟩) (pS hP hK hD hT hG hS) rfl rfl hl.1 rfl (lv_room (Nat.le_of_ble_eq_true rfl)) dX13_goesOn_78 ⟨Nat.zero_le _, Nat.zero_le _⟩) hS (fun H locs hz7 hP hD hT hS => ?_)
            refine lv_if_eq (tgt := 166) hx hb dX13_goesOn_81 rfl (fun c8 => ?_) (fun c8 => ?_)
            · replace h := ite_t c8 h
              refine lv_iload_n hx hb dX13_goesOn_166 rfl (lv_at hl 1 rfl) ?_
              obtain ⟨z9, h9, h⟩ := ob_some h
              refine k_z (va_runS (As := [.int z5]) (rest := []) ⟨hx, hb, hml, hown, hts⟩ (c_X13_isDigit (l := l) Mg3 z5 h9) (va_cwS 1 hts gX13_goesOn_X13_isDigit rfl rfl rfl hdS_X13_isDigit ⟨Nat.le_of_ble_eq_true rfl, Nat.le_of_ble_eq_true rfl⟩) (pS hP hK hD hT hG hS) rfl rfl hl.1 rfl (lv_room (Nat.le_of_ble_eq_true rfl)) dX13_goesOn_167 ⟨Nat.zero_le _, Nat.zero_le _⟩) hS (fun H locs hz9 hP hD hT hS => ?_)
              refine lv_if_eq (tgt := 249) hx hb dX13_goesOn_170 rfl (fun c10 => ?_) (fun c10 => ?_)
              · replace h := ite_t c10 h
                refine lv_iload_n hx hb dX13_goesOn_249 rfl (lv_at hl 1 rfl) ?_
                refine lv_bipush (v := 59) hx hb dX13_goesOn_250 rfl ?_
                refine lv_icmp_eq (tgt := 261) hx hb dX13_goesOn_252 rfl (fun c11 => ?_) (fun c11 => ?_)
                · replace h := ite_t c11 h
                  refine lv_aload_n hx hb dX13_goesOn_261 rfl (lv_at hl 2 rfl) ?_
                  refine lv_iconst (v := 4) hx hb dX13_goesOn_262 rfl ?_
                  refine r_putI (T := TX13) (ty := .int) (v := 4) hx hb hts in13 tyX13 tyX13_ok nmX13 hown hK hP hD hT hS ky2_0 (by decide) rfl 9 (by decide) (hts (.fieldLink RX13 58 "StoneWalkModel" "sort" "I") (List.mem_of_getElem? (i := 1) (by decide +kernel))) rfl rfl (tyX13_ok 9 (by decide)) rfl rfl rfl dX13_goesOn_263 (fun H locs hP hD hT hS => ?_)
                  generalize pI Mg3 y2_0 9 4 = Mg4 at h hP hD hT ⊢
                  refine lv_aload_n hx hb dX13_goesOn_266 rfl (lv_at hl 2 rfl) ?_
                  refine lv_iload_n hx hb dX13_goesOn_267 rfl (lv_at hl 1 rfl) ?_
                  refine r_putI (T := TX13) (ty := .int) (v := z5) hx hb hts in13 tyX13 tyX13_ok nmX13 hown hK hP hD hT hS ky2_0 (by decide) rfl 11 (by decide) (hts (.fieldLink RX13 70 "StoneWalkModel" "mark" "I") (List.mem_of_getElem? (i := 4) (by decide +kernel))) rfl rfl (tyX13_ok 11 (by decide)) rfl rfl rfl dX13_goesOn_268 (fun H locs hP hD hT hS => ?_)
                  generalize pI Mg4 y2_0 11 z5 = Mg5 at h hP hD hT ⊢
                  refine lv_aload_n hx hb dX13_goesOn_271 rfl (lv_at hl 2 rfl) ?_
                  refine lv_dup hx hb dX13_goesOn_272 rfl ?_
                  refine r_get (T := TX13) (v := .int (gI Mg5 y2_0 8)) hx hb hts in13 hown hK hP ky2_0 (by decide) rfl 8 (by decide) (hts (.fieldLink RX13 61 "StoneWalkModel" "at" "I") (List.mem_of_getElem? (i := 2) (by decide +kernel))) rfl (t := 0) rfl rfl dX13_goesOn_273 ?_
                  refine lv_iconst (v := 1) hx hb dX13_goesOn_276 rfl ?_
                  refine lv_iadd hx hb dX13_goesOn_277 ?_
                  refine r_putI (T := TX13) (ty := .int) (v := (gI Mg5 y2_0 8) + 1) hx hb hts in13 tyX13 tyX13_ok nmX13 hown hK hP hD hT hS ky2_0 (by decide) rfl 8 (by decide) (hts (.fieldLink RX13 61 "StoneWalkModel" "at" "I") (List.mem_of_getElem? (i := 2) (by decide +kernel))) rfl rfl (tyX13_ok 8 (by decide)) rfl rfl rfl dX13_goesOn_278 (fun H locs hP hD hT hS => ?_)
                  generalize pI Mg5 y2_0 8 ((gI Mg5 y2_0 8) + 1) = Mg6 at h hP hD hT ⊢
                  exact r_vret hx hb hr hlocks hP hK hD hT hG hS (Option.some.inj h) dX13_goesOn_281
                · replace h := ite_f c11 h
                  refine lv_iload_n hx hb dX13_goesOn_255 rfl (lv_at hl 1 rfl) ?_
                  refine lv_bipush (v := 44) hx hb dX13_goesOn_256 rfl ?_
                  refine lv_icmp_ne (tgt := 281) hx hb dX13_goesOn_258 rfl (fun c12 => ?_) (fun c12 => ?_)
                  · replace h := ite_f c12 h
                    exact r_vret hx hb hr hlocks hP hK hD hT hG hS (Option.some.inj h) dX13_goesOn_281
                  · replace h := ite_t c12 h
                    refine lv_aload_n hx hb dX13_goesOn_261 rfl (lv_at hl 2 rfl) ?_
                    refine lv_iconst (v := 4) hx hb dX13_goesOn_262 rfl ?_
                    refine r_putI (T := TX13) (ty := .int) (v := 4) hx hb hts in13 tyX13 tyX13_ok nmX13 hown hK hP hD hT hS ky2_0 (by decide) rfl 9 (by decide) (hts (.fieldLink RX13 58 "StoneWalkModel" "sort" "I") (List.mem_of_getElem? (i := 1) (by decide +kernel))) rfl rfl (tyX13_ok 9 (by decide)) rfl rfl rfl dX13_goesOn_263 (fun H locs hP hD hT hS => ?_)
                    generalize pI Mg3 y2_0 9 4 = Mg7 at h hP hD hT ⊢
                    refine lv_aload_n hx hb dX13_goesOn_266 rfl (lv_at hl 2 rfl) ?_
                    refine lv_iload_n hx hb dX13_goesOn_267 rfl (lv_at hl 1 rfl) ?_
                    refine r_putI (T := TX13) (ty := .int) (v := z5) hx hb hts in13 tyX13 tyX13_ok nmX13 hown hK hP hD hT hS ky2_0 (by decide) rfl 11 (by decide) (hts (.fieldLink RX13 70 "StoneWalkModel" "mark" "I") (List.mem_of_getElem? (i := 4) (by decide +kernel))) rfl rfl (tyX13_ok 11 (by decide)) rfl rfl rfl dX13_goesOn_268 (fun H locs hP hD hT hS => ?_)
                    generalize pI Mg7 y2_0 11 z5 = Mg8 at h hP hD hT ⊢
                    refine lv_aload_n hx hb dX13_goesOn_271 rfl (lv_at hl 2 rfl) ?_
                    refine lv_dup hx hb dX13_goesOn_272 rfl ?_
                    refine r_get (T := TX13) (v := .int (gI Mg8 y2_0 8)) hx hb hts in13 hown hK hP ky2_0 (by decide) rfl 8 (by decide) (hts (.fieldLink RX13 61 "StoneWalkModel" "at" "I") (List.mem_of_getElem? (i := 2) (by decide +kernel))) rfl (t := 0) rfl rfl dX13_goesOn_273 ?_
                    refine lv_iconst (v := 1) hx hb dX13_goesOn_276 rfl ?_
                    refine lv_iadd hx hb dX13_goesOn_277 ?_
                    refine r_putI (T := TX13) (ty := .int) (v := (gI Mg8 y2_0 8) + 1) hx hb hts in13 tyX13 tyX13_ok nmX13 hown hK hP hD hT hS ky2_0 (by decide) rfl 8 (by decide) (hts (.fieldLink RX13 61 "StoneWalkModel" "at" "I") (List.mem_of_getElem? (i := 2) (by decide +kernel))) rfl rfl (tyX13_ok 8 (by decide)) rfl rfl rfl dX13_goesOn_278 (fun H locs hP hD hT hS => ?_)
                    generalize pI Mg8 y2_0 8 ((gI Mg8 y2_0 8) + 1) = Mg9 at h hP hD hT ⊢
                    exact r_vret hx hb hr hlocks hP hK hD hT hG hS (Option.some.inj h) dX13_goesOn_281
              · replace h := ite_f c10 h
                refine lv_aload_n hx hb dX13_goesOn_173 rfl (lv_at hl 2 rfl) ?_
                refine lv_iconst (v := 0) hx hb dX13_goesOn_174 rfl ?_
                refine r_putI (T := TX13) (ty := .int) (v := 0) hx hb hts in13 tyX13 tyX13_ok nmX13 hown hK hP hD hT hS ky2_0 (by decide) rfl 12 (by decide) (hts (.fieldLink RX13 84 "StoneWalkModel" "number" "I") (List.mem_of_getElem? (i := 7) (by decide +kernel))) rfl rfl (tyX13_ok 12 (by decide)) rfl rfl rfl dX13_goesOn_175 (fun H locs hP hD hT hS => ?_)
                generalize pI Mg3 y2_0 12 0 = Mg10 at h hP hD hT ⊢
                have L13 : ∀ n13 : Nat, ∀ (M13 : MM) (y13_0 : Nat) (y13_2 : Int32) (ky13_0 : ok g y13_0 13 0) (H : Heap) (locs : List Loc), f_X13_goesOn_L178 (fun M y2_0 => f_X13_goesOn_L9 n2 M y2_0) n13 M13 y13_0 y13_2 = some Z → va_P D vwCl (wd ad cy g M13) H → va_D A (wd ad cy g M13) → WT g M13 → va_S A s.heap H locs → ∀ (ls : Array Slot), lv_has ls 3 [(0, .ref (ad y13_0)), (2, .int y13_2)] → W p l e ((headSpec wsX13_goesOn ({ frames := 1, cells := 0, slots := 0, locals := 21 })).room) s m (([.ref (ad a0)] : List Value).toArray) below meth c H locs 0 0 (MQ below (va_Qv (fun u => u = Z) (Wd D ad cy A g q) A) ([.ref (ad a0)]).toArray s 0 0 A) (F0 m 178 ls []) := by
                  intro n13
                  induction n13 with
                  | zero => intro M13 y13_0 y13_2 ky13_0 H locs h; exact absurd h (by simp [f_X13_goesOn_L178])
                  | succ n13 ih13 =>
                    intro M13 y13_0 y13_2 ky13_0 H locs h hP hD hT hS ls hl
                    rw [f_X13_goesOn_L178] at h
                    refine lv_aload_n hx hb dX13_goesOn_178 rfl (lv_at hl 0 rfl) ?_
                    refine lv_aload_n hx hb dX13_goesOn_179 rfl (lv_at hl 0 rfl) ?_
                    refine r_get (T := TX13) (v := .int (gI M13 y13_0 8)) hx hb hts in13 hown hK hP ky13_0 (by decide) rfl 8 (by decide) (hts (.fieldLink RX13 61 "StoneWalkModel" "at" "I") (List.mem_of_getElem? (i := 2) (by decide +kernel))) rfl (t := 0) rfl rfl dX13_goesOn_180 ?_
                    obtain ⟨z14, h14, h⟩ := ob_some h
                    refine k_i (va_runV (As := [.int (gI M13 y13_0 8)]) (rest := []) ⟨hx, hb, hml, hown, hts⟩ (c_X13_byteAt (l := l) M13 y13_0 (gI M13 y13_0 8) ky13_0 h14) (cwV 1 hts gX13_goesOn_X13_byteAt rfl rfl rfl hdV_X13_byteAt ⟨Nat.le_of_ble_eq_true rfl, Nat.le_of_ble_eq_true rfl⟩) (pV (T := TX13) hP hK hD hT hG hS ky13_0 (by decide) rfl) rfl rfl hl.1 rfl (lv_room (Nat.le_of_ble_eq_true rfl)) dX13_goesOn_183 ⟨Nat.zero_le _, Nat.zero_le _⟩) hS (fun H locs hP hD hT hS => ?_)
                    obtain ⟨z15, h15, h⟩ := ob_some h
                    refine k_z (va_runS (As := [.int z14]) (rest := []) ⟨hx, hb, hml, hown, hts⟩ (c_X13_isDigit (l := l) M13 z14 h15) (va_cwS 1 hts gX13_goesOn_X13_isDigit rfl rfl rfl hdS_X13_isDigit ⟨Nat.le_of_ble_eq_true rfl, Nat.le_of_ble_eq_true rfl⟩) (pS hP hK hD hT hG hS) rfl rfl hl.1 rfl (lv_room (Nat.le_of_ble_eq_true rfl)) dX13_goesOn_186 ⟨Nat.zero_le _, Nat.zero_le _⟩) hS (fun H locs hz15 hP hD hT hS => ?_)
                    refine lv_if_eq (tgt := 236) hx hb dX13_goesOn_189 rfl (fun c16 => ?_) (fun c16 => ?_)
                    · replace h := ite_t c16 h
                      refine lv_iload_n hx hb dX13_goesOn_236 rfl (lv_at hl 1 rfl) ?_
                      refine lv_iconst (v := 3) hx hb dX13_goesOn_237 rfl ?_
                      refine lv_icmp_gt (tgt := 281) hx hb dX13_goesOn_238 rfl (fun c17 => ?_) (fun c17 => ?_)
                      · replace h := ite_t c17 h
                        exact r_vret hx hb hr hlocks hP hK hD hT hG hS (Option.some.inj h) dX13_goesOn_281
                      · replace h := ite_f c17 h
                        refine lv_aload_n hx hb dX13_goesOn_241 rfl (lv_at hl 0 rfl) ?_
                        refine lv_iconst (v := 3) hx hb dX13_goesOn_242 rfl ?_
                        refine r_putI (T := TX13) (ty := .int) (v := 3) hx hb hts in13 tyX13 tyX13_ok nmX13 hown hK hP hD hT hS ky13_0 (by decide) rfl 9 (by decide) (hts (.fieldLink RX13 58 "StoneWalkModel" "sort" "I") (List.mem_of_getElem? (i := 1) (by decide +kernel))) rfl rfl (tyX13_ok 9 (by decide)) rfl rfl rfl dX13_goesOn_243 (fun H locs hP hD hT hS => ?_)
                        generalize pI M13 y13_0 9 3 = Mg11 at h hP hD hT ⊢
                        refine lv_goto (tgt := 281) hx hb dX13_goesOn_246 rfl ?_
                        exact r_vret hx hb hr hlocks hP hK hD hT hG hS (Option.some.inj h) dX13_goesOn_281
                    · replace h := ite_f c16 h
                      refine lv_iload_n hx hb dX13_goesOn_192 rfl (lv_at hl 1 rfl) ?_
                      refine lv_iconst (v := 3) hx hb dX13_goesOn_193 rfl ?_
                      refine lv_icmp_ge (tgt := 220) hx hb dX13_goesOn_194 rfl (fun c18 => ?_) (fun c18 => ?_)
                      · replace h := ite_t c18 h
                        refine lv_iinc (v := y13_2 + 1) (lv' := [(2, .int (y13_2 + 1)), (0, .ref (ad y13_0))]) hx hb dX13_goesOn_220 hl (k := 1) rfl rfl (by decide) rfl (fun ls hl => ?_)
                        refine lv_aload_n hx hb dX13_goesOn_223 rfl (lv_at hl 1 rfl) ?_
                        refine lv_dup hx hb dX13_goesOn_224 rfl ?_
                        refine r_get (T := TX13) (v := .int (gI M13 y13_0 8)) hx hb hts in13 hown hK hP ky13_0 (by decide) rfl 8 (by decide) (hts (.fieldLink RX13 61 "StoneWalkModel" "at" "I") (List.mem_of_getElem? (i := 2) (by decide +kernel))) rfl (t := 0) rfl rfl dX13_goesOn_225 ?_
                        refine lv_iconst (v := 1) hx hb dX13_goesOn_228 rfl ?_
                        refine lv_iadd hx hb dX13_goesOn_229 ?_
                        refine r_putI (T := TX13) (ty := .int) (v := (gI M13 y13_0 8) + 1) hx hb hts in13 tyX13 tyX13_ok nmX13 hown hK hP hD hT hS ky13_0 (by decide) rfl 8 (by decide) (hts (.fieldLink RX13 61 "StoneWalkModel" "at" "I") (List.mem_of_getElem? (i := 2) (by decide +kernel))) rfl rfl (tyX13_ok 8 (by decide)) rfl rfl rfl dX13_goesOn_230 (fun H locs hP hD hT hS => ?_)
                        generalize pI M13 y13_0 8 ((gI M13 y13_0 8) + 1) = Mg12 at h hP hD hT ⊢
                        refine lv_goto (tgt := 178) hx hb dX13_goesOn_233 rfl ?_
                        exact ih13 Mg12 y13_0 (y13_2 + 1) ky13_0 _ _ h hP hD hT hS ls (lv_sub hl [1, 0] rfl)
                      · replace h := ite_f c18 h
                        refine lv_aload_n hx hb dX13_goesOn_197 rfl (lv_at hl 0 rfl) ?_
                        refine lv_bipush (v := 10) hx hb dX13_goesOn_198 rfl ?_
                        refine lv_aload_n hx hb dX13_goesOn_200 rfl (lv_at hl 0 rfl) ?_
                        refine r_get (T := TX13) (v := .int (gI M13 y13_0 12)) hx hb hts in13 hown hK hP ky13_0 (by decide) rfl 12 (by decide) (hts (.fieldLink RX13 84 "StoneWalkModel" "number" "I") (List.mem_of_getElem? (i := 7) (by decide +kernel))) rfl (t := 0) rfl rfl dX13_goesOn_201 ?_
                        refine lv_imul hx hb dX13_goesOn_204 ?_
                        refine lv_aload_n hx hb dX13_goesOn_205 rfl (lv_at hl 0 rfl) ?_
                        refine lv_aload_n hx hb dX13_goesOn_206 rfl (lv_at hl 0 rfl) ?_
                        refine r_get (T := TX13) (v := .int (gI M13 y13_0 8)) hx hb hts in13 hown hK hP ky13_0 (by decide) rfl 8 (by decide) (hts (.fieldLink RX13 61 "StoneWalkModel" "at" "I") (List.mem_of_getElem? (i := 2) (by decide +kernel))) rfl (t := 0) rfl rfl dX13_goesOn_207 ?_
                        obtain ⟨z19, h19, h⟩ := ob_some h
                        refine k_i (va_runV (As := [.int (gI M13 y13_0 8)]) (rest := [.int (10 * (gI M13 y13_0 12)), .ref (ad y13_0)]) ⟨hx, hb, hml, hown, hts⟩ (c_X13_byteAt (l := l) M13 y13_0 (gI M13 y13_0 8) ky13_0 h19) (cwV 1 hts gX13_goesOn_X13_byteAt rfl rfl rfl hdV_X13_byteAt ⟨Nat.le_of_ble_eq_true rfl, Nat.le_of_ble_eq_true rfl⟩) (pV (T := TX13) hP hK hD hT hG hS ky13_0 (by decide) rfl) rfl rfl hl.1 rfl (lv_room (Nat.le_of_ble_eq_true rfl)) dX13_goesOn_210 ⟨Nat.zero_le _, Nat.zero_le _⟩) hS (fun H locs hP hD hT hS => ?_)
                        refine lv_iadd hx hb dX13_goesOn_213 ?_
                        refine lv_bipush (v := 48) hx hb dX13_goesOn_214 rfl ?_
                        refine lv_isub hx hb dX13_goesOn_216 ?_
                        refine r_putI (T := TX13) (ty := .int) (v := ((10 * (gI M13 y13_0 12)) + z19) - 48) hx hb hts in13 tyX13 tyX13_ok nmX13 hown hK hP hD hT hS ky13_0 (by decide) rfl 12 (by decide) (hts (.fieldLink RX13 84 "StoneWalkModel" "number" "I") (List.mem_of_getElem? (i := 7) (by decide +kernel))) rfl rfl (tyX13_ok 12 (by decide)) rfl rfl rfl dX13_goesOn_217 (fun H locs hP hD hT hS => ?_)
                        generalize pI M13 y13_0 12 (((10 * (gI M13 y13_0 12)) + z19) - 48) = Mg13 at h hP hD hT ⊢
                        refine lv_iinc (v := y13_2 + 1) (lv' := [(2, .int (y13_2 + 1)), (0, .ref (ad y13_0))]) hx hb dX13_goesOn_220 hl (k := 1) rfl rfl (by decide) rfl (fun ls hl => ?_)
                        refine lv_aload_n hx hb dX13_goesOn_223 rfl (lv_at hl 1 rfl) ?_
                        refine lv_dup hx hb dX13_goesOn_224 rfl ?_
                        refine r_get (T := TX13) (v := .int (gI Mg13 y13_0 8)) hx hb hts in13 hown hK hP ky13_0 (by decide) rfl 8 (by decide) (hts (.fieldLink RX13 61 "StoneWalkModel" "at" "I") (List.mem_of_getElem? (i := 2) (by decide +kernel))) rfl (t := 0) rfl rfl dX13_goesOn_225 ?_
                        refine lv_iconst (v := 1) hx hb dX13_goesOn_228 rfl ?_
                        refine lv_iadd hx hb dX13_goesOn_229 ?_
                        refine r_putI (T := TX13) (ty := .int) (v := (gI Mg13 y13_0 8) + 1) hx hb hts in13 tyX13 tyX13_ok nmX13 hown hK hP hD hT hS ky13_0 (by decide) rfl 8 (by decide) (hts (.fieldLink RX13 61 "StoneWalkModel" "at" "I") (List.mem_of_getElem? (i := 2) (by decide +kernel))) rfl rfl (tyX13_ok 8 (by decide)) rfl rfl rfl dX13_goesOn_230 (fun H locs hP hD hT hS => ?_)
                        generalize pI Mg13 y13_0 8 ((gI Mg13 y13_0 8) + 1) = Mg14 at h hP hD hT ⊢
                        refine lv_goto (tgt := 178) hx hb dX13_goesOn_233 rfl ?_
                        exact ih13 Mg14 y13_0 (y13_2 + 1) ky13_0 _ _ h hP hD hT hS ls (lv_sub hl [1, 0] rfl)
                exact L13 FU Mg10 y2_0 0 ky2_0 _ _ h hP hD hT hS ls (lv_sub hl [2, 0] rfl)
            · replace h := ite_f c8 h
              refine lv_aload_n hx hb dX13_goesOn_84 rfl (lv_at hl 2 rfl) ?_
              refine lv_lconst (v := 0) hx hb dX13_goesOn_85 rfl ?_
              refine r_putL (T := TX13) (v := 0) hx hb hts in13 tyX13 tyX13_ok nmX13 hown hK hP hD hT hS ky2_0 (by decide) rfl 15 (by decide) (hts (.fieldLink RX13 77 "StoneWalkModel" "word" "J") (List.mem_of_getElem? (i := 5) (by decide +kernel))) rfl rfl (tyX13_ok 15 (by decide)) rfl dX13_goesOn_86 (fun H locs hP hD hT hS => ?_)
              generalize pL Mg3 y2_0 15 0 = Mg15 at h hP hD hT ⊢
              have L20 : ∀ n20 : Nat, ∀ (M20 : MM) (y20_0 : Nat) (y20_2 : Int32) (ky20_0 : ok g y20_0 13 0) (H : Heap) (locs : List Loc), f_X13_goesOn_L89 (fun M y2_0 => f_X13_goesOn_L9 n2 M y2_0) n20 M20 y20_0 y20_2 = some Z → va_P D vwCl (wd ad cy g M20) H → va_D A (wd ad cy g M20) → WT g M20 → va_S A s.heap H locs → ∀ (ls : Array Slot), lv_has ls 3 [(0, .ref (ad y20_0)), (2, .int y20_2)] → W p l e ((headSpec wsX13_goesOn ({ frames := 1, cells := 0, slots := 0, locals := 21 })).room) s m (([.ref (ad a0)] : List Value).toArray) below meth c H locs 0 0 (MQ below (va_Qv (fun u => u = Z) (Wd D ad cy A g q) A) ([.ref (ad a0)]).toArray s 0 0 A) (F0 m 89 ls []) := by
                intro n20
                induction n20 with
                | zero => intro M20 y20_0 y20_2 ky20_0 H locs h; exact absurd h (by simp [f_X13_goesOn_L89])
                | succ n20 ih20 =>
                  intro M20 y20_0 y20_2 ky20_0 H locs h hP hD hT hS ls hl
                  rw [f_X13_goesOn_L89] at h
                  refine lv_aload_n hx hb dX13_goesOn_89 rfl (lv_at hl 0 rfl) ?_
                  refine lv_aload_n hx hb dX13_goesOn_90 rfl (lv_at hl 0 rfl) ?_
                  refine r_get (T := TX13) (v := .int (gI M20 y20_0 8)) hx hb hts in13 hown hK hP ky20_0 (by decide) rfl 8 (by decide) (hts (.fieldLink RX13 61 "StoneWalkModel" "at" "I") (List.mem_of_getElem? (i := 2) (by decide +kernel))) rfl (t := 0) rfl rfl dX13_goesOn_91 ?_
                  obtain ⟨z21, h21, h⟩ := ob_some h
                  refine k_i (va_runV (As := [.int (gI M20 y20_0 8)]) (rest := []) ⟨hx, hb, hml, hown, hts⟩ (c_X13_byteAt (l := l) M20 y20_0 (gI M20 y20_0 8) ky20_0 h21) (cwV 1 hts gX13_goesOn_X13_byteAt rfl rfl rfl hdV_X13_byteAt ⟨Nat.le_of_ble_eq_true rfl, Nat.le_of_ble_eq_true rfl⟩) (pV (T := TX13) hP hK hD hT hG hS ky20_0 (by decide) rfl) rfl rfl hl.1 rfl (lv_room (Nat.le_of_ble_eq_true rfl)) dX13_goesOn_94 ⟨Nat.zero_le _, Nat.zero_le _⟩) hS (fun H locs hP hD hT hS => ?_)
                  obtain ⟨z22, h22, h⟩ := ob_some h
                  refine k_z (va_runS (As := [.int z21]) (rest := []) ⟨hx, hb, hml, hown, hts⟩ (c_X13_isLetter (l := l) M20 z21 h22) (va_cwS 1 hts gX13_goesOn_X13_isLetter rfl rfl rfl hdS_X13_isLetter ⟨Nat.le_of_ble_eq_true rfl, Nat.le_of_ble_eq_true rfl⟩) (pS hP hK hD hT hG hS) rfl rfl hl.1 rfl (lv_room (Nat.le_of_ble_eq_true rfl)) dX13_goesOn_97 ⟨Nat.zero_le _, Nat.zero_le _⟩) hS (fun H locs hz22 hP hD hT hS => ?_)
                  refine lv_if_eq (tgt := 152) hx hb dX13_goesOn_100 rfl (fun c23 => ?_) (fun c23 => ?_)
                  · replace h := ite_t c23 h
                    refine lv_iload_n hx hb dX13_goesOn_152 rfl (lv_at hl 1 rfl) ?_
                    refine lv_bipush (v := 8) hx hb dX13_goesOn_153 rfl ?_
                    refine lv_icmp_gt (tgt := 281) hx hb dX13_goesOn_155 rfl (fun c24 => ?_) (fun c24 => ?_)
                    · replace h := ite_t c24 h
                      exact r_vret hx hb hr hlocks hP hK hD hT hG hS (Option.some.inj h) dX13_goesOn_281
                    · replace h := ite_f c24 h
                      refine lv_aload_n hx hb dX13_goesOn_158 rfl (lv_at hl 0 rfl) ?_
                      refine lv_iconst (v := 2) hx hb dX13_goesOn_159 rfl ?_
                      refine r_putI (T := TX13) (ty := .int) (v := 2) hx hb hts in13 tyX13 tyX13_ok nmX13 hown hK hP hD hT hS ky20_0 (by decide) rfl 9 (by decide) (hts (.fieldLink RX13 58 "StoneWalkModel" "sort" "I") (List.mem_of_getElem? (i := 1) (by decide +kernel))) rfl rfl (tyX13_ok 9 (by decide)) rfl rfl rfl dX13_goesOn_160 (fun H locs hP hD hT hS => ?_)
                      generalize pI M20 y20_0 9 2 = Mg16 at h hP hD hT ⊢
                      refine lv_goto (tgt := 281) hx hb dX13_goesOn_163 rfl ?_
                      exact r_vret hx hb hr hlocks hP hK hD hT hG hS (Option.some.inj h) dX13_goesOn_281
                  · replace h := ite_f c23 h
                    refine lv_iload_n hx hb dX13_goesOn_103 rfl (lv_at hl 1 rfl) ?_
                    refine lv_bipush (v := 8) hx hb dX13_goesOn_104 rfl ?_
                    refine lv_icmp_ge (tgt := 136) hx hb dX13_goesOn_106 rfl (fun c25 => ?_) (fun c25 => ?_)
                    · replace h := ite_t c25 h
                      refine lv_iinc (v := y20_2 + 1) (lv' := [(2, .int (y20_2 + 1)), (0, .ref (ad y20_0))]) hx hb dX13_goesOn_136 hl (k := 1) rfl rfl (by decide) rfl (fun ls hl => ?_)
                      refine lv_aload_n hx hb dX13_goesOn_139 rfl (lv_at hl 1 rfl) ?_
                      refine lv_dup hx hb dX13_goesOn_140 rfl ?_
                      refine r_get (T := TX13) (v := .int (gI M20 y20_0 8)) hx hb hts in13 hown hK hP ky20_0 (by decide) rfl 8 (by decide) (hts (.fieldLink RX13 61 "StoneWalkModel" "at" "I") (List.mem_of_getElem? (i := 2) (by decide +kernel))) rfl (t := 0) rfl rfl dX13_goesOn_141 ?_
                      refine lv_iconst (v := 1) hx hb dX13_goesOn_144 rfl ?_
                      refine lv_iadd hx hb dX13_goesOn_145 ?_
                      refine r_putI (T := TX13) (ty := .int) (v := (gI M20 y20_0 8) + 1) hx hb hts in13 tyX13 tyX13_ok nmX13 hown hK hP hD hT hS ky20_0 (by decide) rfl 8 (by decide) (hts (.fieldLink RX13 61 "StoneWalkModel" "at" "I") (List.mem_of_getElem? (i := 2) (by decide +kernel))) rfl rfl (tyX13_ok 8 (by decide)) rfl rfl rfl dX13_goesOn_146 (fun H locs hP hD hT hS => ?_)
                      generalize pI M20 y20_0 8 ((gI M20 y20_0 8) + 1) = Mg17 at h hP hD hT ⊢
                      refine lv_goto (tgt := 89) hx hb dX13_goesOn_149 rfl ?_
                      exact ih20 Mg17 y20_0 (y20_2 + 1) ky20_0 _ _ h hP hD hT hS ls (lv_sub hl [1, 0] rfl)
                    · replace h := ite_f c25 h
                      refine lv_aload_n hx hb dX13_goesOn_109 rfl (lv_at hl 0 rfl) ?_
                      refine lv_ldc2 hx hb hown (hts (.constantLong RX13 52 (32)) (List.mem_of_getElem? (i := 6) (by decide +kernel))) dX13_goesOn_110 ?_
                      refine lv_aload_n hx hb dX13_goesOn_113 rfl (lv_at hl 0 rfl) ?_
                      refine r_get (T := TX13) (v := .long (gL M20 y20_0 15)) hx hb hts in13 hown hK hP ky20_0 (by decide) rfl 15 (by decide) (hts (.fieldLink RX13 77 "StoneWalkModel" "word" "J") (List.mem_of_getElem? (i := 5) (by decide +kernel))) rfl (t := 1) rfl rfl dX13_goesOn_114 ?_
                      refine lv_lmul hx hb dX13_goesOn_117 ?_
                      refine lv_aload_n hx hb dX13_goesOn_118 rfl (lv_at hl 0 rfl) ?_
                      refine lv_aload_n hx hb dX13_goesOn_119 rfl (lv_at hl 0 rfl) ?_
                      refine r_get (T := TX13) (v := .int (gI M20 y20_0 8)) hx hb hts in13 hown hK hP ky20_0 (by decide) rfl 8 (by decide) (hts (.fieldLink RX13 61 "StoneWalkModel" "at" "I") (List.mem_of_getElem? (i := 2) (by decide +kernel))) rfl (t := 0) rfl rfl dX13_goesOn_120 ?_
                      obtain ⟨z26, h26, h⟩ := ob_some h
                      refine k_i (va_runV (As := [.int (gI M20 y20_0 8)]) (rest := [.long (32 * (gL M20 y20_0 15)), .ref (ad y20_0)]) ⟨hx, hb, hml, hown, hts⟩ (c_X13_byteAt (l := l) M20 y20_0 (gI M20 y20_0 8) ky20_0 h26) (cwV 1 hts gX13_goesOn_X13_byteAt rfl rfl rfl hdV_X13_byteAt ⟨Nat.le_of_ble_eq_true rfl, Nat.le_of_ble_eq_true rfl⟩) (pV (T := TX13) hP hK hD hT hG hS ky20_0 (by decide) rfl) rfl rfl hl.1 rfl (lv_room (Nat.le_of_ble_eq_true rfl)) dX13_goesOn_123 ⟨Nat.zero_le _, Nat.zero_le _⟩) hS (fun H locs hP hD hT hS => ?_)
                      refine lv_bipush (v := 97) hx hb dX13_goesOn_126 rfl ?_
                      refine lv_isub hx hb dX13_goesOn_128 ?_
                      refine lv_iconst (v := 1) hx hb dX13_goesOn_129 rfl ?_
                      refine lv_iadd hx hb dX13_goesOn_130 ?_
                      refine lv_i2l hx hb dX13_goesOn_131 rfl ?_
                      refine lv_ladd hx hb dX13_goesOn_132 ?_
                      refine r_putL (T := TX13) (v := (32 * (gL M20 y20_0 15)) + (((z26 - 97) + 1).toInt64)) hx hb hts in13 tyX13 tyX13_ok nmX13 hown hK hP hD hT hS ky20_0 (by decide) rfl 15 (by decide) (hts (.fieldLink RX13 77 "StoneWalkModel" "word" "J") (List.mem_of_getElem? (i := 5) (by decide +kernel))) rfl rfl (tyX13_ok 15 (by decide)) rfl dX13_goesOn_133 (fun H locs hP hD hT hS => ?_)
                      generalize pL M20 y20_0 15 ((32 * (gL M20 y20_0 15)) + (((z26 - 97) + 1).toInt64)) = Mg18 at h hP hD hT ⊢
                      refine lv_iinc (v := y20_2 + 1) (lv' := [(2, .int (y20_2 + 1)), (0, .ref (ad y20_0))]) hx hb dX13_goesOn_136 hl (k := 1) rfl rfl (by decide) rfl (fun ls hl => ?_)
                      refine lv_aload_n hx hb dX13_goesOn_139 rfl (lv_at hl 1 rfl) ?_
                      refine lv_dup hx hb dX13_goesOn_140 rfl ?_
                      refine r_get (T := TX13) (v := .int (gI Mg18 y20_0 8)) hx hb hts in13 hown hK hP ky20_0 (by decide) rfl 8 (by decide) (hts (.fieldLink RX13 61 "StoneWalkModel" "at" "I") (List.mem_of_getElem? (i := 2) (by decide +kernel))) rfl (t := 0) rfl rfl dX13_goesOn_141 ?_
                      refine lv_iconst (v := 1) hx hb dX13_goesOn_144 rfl ?_
                      refine lv_iadd hx hb dX13_goesOn_145 ?_
                      refine r_putI (T := TX13) (ty := .int) (v := (gI Mg18 y20_0 8) + 1) hx hb hts in13 tyX13 tyX13_ok nmX13 hown hK hP hD hT hS ky20_0 (by decide) rfl 8 (by decide) (hts (.fieldLink RX13 61 "StoneWalkModel" "at" "I") (List.mem_of_getElem? (i := 2) (by decide +kernel))) rfl rfl (tyX13_ok 8 (by decide)) rfl rfl rfl dX13_goesOn_146 (fun H locs hP hD hT hS => ?_)
                      generalize pI Mg18 y20_0 8 ((gI Mg18 y20_0 8) + 1) = Mg19 at h hP hD hT ⊢
                      refine lv_goto (tgt := 89) hx hb dX13_goesOn_149 rfl ?_
                      exact ih20 Mg19 y20_0 (y20_2 + 1) ky20_0 _ _ h hP hD hT hS ls (lv_sub hl [1, 0] rfl)
              exact L20 FU Mg15 y2_0 0 ky2_0 _ _ h hP hD hT hS ls (lv_sub hl [2, 0] rfl)
          · replace h := ite_t c6 h
            refine lv_aload_n hx hb dX13_goesOn_69 rfl (lv_at hl 2 rfl) ?_
            refine lv_iconst (v := 1) hx hb dX13_goesOn_70 rfl ?_
            refine r_putI (T := TX13) (ty := .int) (v := 1) hx hb hts in13 tyX13 tyX13_ok nmX13 hown hK hP hD hT hS ky2_0 (by decide) rfl 9 (by decide) (hts (.fieldLink RX13 58 "StoneWalkModel" "sort" "I") (List.mem_of_getElem? (i := 1) (by decide +kernel))) rfl rfl (tyX13_ok 9 (by decide)) rfl rfl rfl dX13_goesOn_71 (fun H locs hP hD hT hS => ?_)
            generalize pI Mg3 y2_0 9 1 = Mg20 at h hP hD hT ⊢
            refine lv_goto (tgt := 281) hx hb dX13_goesOn_74 rfl ?_
            exact r_vret hx hb hr hlocks hP hK hD hT hG hS (Option.some.inj h) dX13_goesOn_281
        · replace h := ite_t c4 h
          refine lv_aload_n hx hb dX13_goesOn_22 rfl (lv_at hl 0 rfl) ?_
          refine lv_dup hx hb dX13_goesOn_23 rfl ?_
          refine r_get (T := TX13) (v := .int (gI M2 y2_0 8)) hx hb hts in13 hown hK hP ky2_0 (by decide) rfl 8 (by decide) (hts (.fieldLink RX13 61 "StoneWalkModel" "at" "I") (List.mem_of_getElem? (i := 2) (by decide +kernel))) rfl (t := 0) rfl rfl dX13_goesOn_24 ?_
          refine lv_iconst (v := 1) hx hb dX13_goesOn_27 rfl ?_
          refine lv_iadd hx hb dX13_goesOn_28 ?_
          refine r_putI (T := TX13) (ty := .int) (v := (gI M2 y2_0 8) + 1) hx hb hts in13 tyX13 tyX13_ok nmX13 hown hK hP hD hT hS ky2_0 (by decide) rfl 8 (by decide) (hts (.fieldLink RX13 61 "StoneWalkModel" "at" "I") (List.mem_of_getElem? (i := 2) (by decide +kernel))) rfl rfl (tyX13_ok 8 (by decide)) rfl rfl rfl dX13_goesOn_29 (fun H locs hP hD hT hS => ?_)
          generalize pI M2 y2_0 8 ((gI M2 y2_0 8) + 1) = Mg21 at h hP hD hT ⊢
          refine lv_goto (tgt := 9) hx hb dX13_goesOn_32 rfl ?_
          exact ih2 Mg21 y2_0 ky2_0 _ _ h hP hD hT hS ls (lv_sub hl [0] rfl)
    exact L2 FU M a0 k0 _ _ h hP hD hT hS ls (lv_sub hl [0] rfl)
  · replace h := ite_t c1 h
    exact r_vret hx hb hr hlocks hP hK hD hT hG hS (Option.some.inj h) dX13_goesOn_8
set_option maxHeartbeats 4000000 in
set_option maxRecDepth 100000 in
theorem c_X13_wrong {l : Launch} {D : va_G} {ad : Nat → Nat} {cy : Nat → ClassId} {A : Nat → Prop} {g : CG} {q : SE} (M : MM) (a0 : Nat) (x1 : Int32) (k0 : ok g a0 13 0) {Z : MM} (h : f_X13_wrong M a0 x1 = some Z) : Met l yX13_wrong wsX13_wrong ({ frames := 0, cells := 0, slots := 0, locals := 0 }) (va_Pc [.ref (ad a0), .int x1] (Wd D ad cy A g q M)) (va_Qv (fun u => u = Z) (Wd D ad cy A g q) A) 0 0 A := by
  refine Met.ofW (cc := cX13_wrong) (maxL := 2) (ret := none) (by decide) rfl ?_
  intro p e s m args below meth c s₁ B hml hv
  obtain ⟨rfl, hP, hK, hD, hT, hG⟩ := hv
  have hx := B.exec
  have hb := B.bytes
  have hr := B.returns
  have hts := atoms_spec (ws := wsX13_wrong) B.pre
  have hown : s.vm.findClass RX13 = some m.cls := findClass_of_methodNamed B.named
  have hlocks := B.notSynchronized
  have in13 : ∀ w ∈ u_ws RX13 TX13 29, w ∈ wsX13_wrong := fun w h => List.mem_cons_of_mem _ (List.mem_append_right _ h)
  have hS : va_S A s.heap s.heap [] := va_S.rf
  have hl := lv_entry ([.ref (ad a0), .int x1]) (n := 2) (Nat.le_of_ble_eq_true rfl)
  rw [lg_entry_eq]
  generalize (lg_sl ([.ref (ad a0), .int x1]) ++ List.replicate (2 - (lg_sl ([.ref (ad a0), .int x1])).length) Slot.unset).toArray = ls at hl ⊢
  have hl : lv_has ls 2 [(0, .ref (ad a0)), (1, .int x1)] := hl
  unfold f_X13_wrong at h
  refine lv_aload_n hx hb dX13_wrong_0 rfl (lv_at hl 0 rfl) ?_
  refine r_get (T := TX13) (v := .int (gI M a0 9)) hx hb hts in13 hown hK hP k0 (by decide) rfl 9 (by decide) (hts (.fieldLink RX13 58 "StoneWalkModel" "sort" "I") (List.mem_of_getElem? (i := 1) (by decide +kernel))) rfl (t := 0) rfl rfl dX13_wrong_1 ?_
  refine lv_iconst (v := 5) hx hb dX13_wrong_4 rfl ?_
  refine lv_icmp_ne (tgt := 9) hx hb dX13_wrong_5 rfl (fun c1 => ?_) (fun c1 => ?_)
  · replace h := ite_f c1 h
    refine lv_aload_n hx hb dX13_wrong_9 rfl (lv_at hl 0 rfl) ?_
    refine lv_iload_n hx hb dX13_wrong_10 rfl (lv_at hl 1 rfl) ?_
    refine r_putI (T := TX13) (ty := .int) (v := x1) hx hb hts in13 tyX13 tyX13_ok nmX13 hown hK hP hD hT hS k0 (by decide) rfl 13 (by decide) (hts (.fieldLink RX13 87 "StoneWalkModel" "fault" "I") (List.mem_of_getElem? (i := 2) (by decide +kernel))) rfl rfl (tyX13_ok 13 (by decide)) rfl rfl rfl dX13_wrong_11 (fun H locs hP hD hT hS => ?_)
    generalize pI M a0 13 x1 = Mg1 at h hP hD hT ⊢
    refine lv_aload_n hx hb dX13_wrong_14 rfl (lv_at hl 0 rfl) ?_
    refine lv_aload_n hx hb dX13_wrong_15 rfl (lv_at hl 0 rfl) ?_
    refine r_get (T := TX13) (v := .int (gI Mg1 a0 10)) hx hb hts in13 hown hK hP k0 (by decide) rfl 10 (by decide) (hts (.fieldLink RX13 67 "StoneWalkModel" "place" "I") (List.mem_of_getElem? (i := 3) (by decide +kernel))) rfl (t := 0) rfl rfl dX13_wrong_16 ?_
    refine r_putI (T := TX13) (ty := .int) (v := gI Mg1 a0 10) hx hb hts in13 tyX13 tyX13_ok nmX13 hown hK hP hD hT hS k0 (by decide) rfl 14 (by decide) (hts (.fieldLink RX13 90 "StoneWalkModel" "wrongAt" "I") (List.mem_of_getElem? (i := 4) (by decide +kernel))) rfl rfl (tyX13_ok 14 (by decide)) rfl rfl rfl dX13_wrong_19 (fun H locs hP hD hT hS => ?_)
    generalize pI Mg1 a0 14 (gI Mg1 a0 10) = Mg2 at h hP hD hT ⊢
    refine lv_aload_n hx hb dX13_wrong_22 rfl (lv_at hl 0 rfl) ?_
    refine lv_iconst (v := 5) hx hb dX13_wrong_23 rfl ?_
    refine r_putI (T := TX13) (ty := .int) (v := 5) hx hb hts in13 tyX13 tyX13_ok nmX13 hown hK hP hD hT hS k0 (by decide) rfl 9 (by decide) (hts (.fieldLink RX13 58 "StoneWalkModel" "sort" "I") (List.mem_of_getElem? (i := 1) (by decide +kernel))) rfl rfl (tyX13_ok 9 (by decide)) rfl rfl rfl dX13_wrong_24 (fun H locs hP hD hT hS => ?_)
    generalize pI Mg2 a0 9 5 = Mg3 at h hP hD hT ⊢
    exact r_vret hx hb hr hlocks hP hK hD hT hG hS (Option.some.inj h) dX13_wrong_27
  · replace h := ite_t c1 h
    exact r_vret hx hb hr hlocks hP hK hD hT hG hS (Option.some.inj h) dX13_wrong_8
set_option maxHeartbeats 4000000 in
set_option maxRecDepth 100000 in
theorem c_X13_isWord {l : Launch} {D : va_G} {ad : Nat → Nat} {cy : Nat → ClassId} {A : Nat → Prop} {g : CG} {q : SE} (M : MM) (a0 : Nat) (i1 : Nat) (k0 : ok g a0 13 0) (k1 : i1 < nS) {Z : Int32} (h : f_X13_isWord M a0 i1 = some Z) : Met l yX13_isWord wsX13_isWord ({ frames := 5, cells := 0, slots := 0, locals := 108 }) (va_Pc [.ref (ad a0), .ref (q.2.1 i1)] (Wd D ad cy A g q M)) (va_Qi (fun r u => r = Z ∧ u = M ∧ zb r) (Wd D ad cy A g q) A) 0 0 A := by
  refine Met.ofW (cc := cX13_isWord) (maxL := 2) (ret := (some .boolean)) (by decide) rfl ?_
  intro p e s m args below meth c s₁ B hml hv
  obtain ⟨rfl, hP, hK, hD, hT, hG⟩ := hv
  have hx := B.exec
  have hb := B.bytes
  have hr := B.returns
  have hts := atoms_spec (ws := wsX13_isWord) B.pre
  have hown : s.vm.findClass RX13 = some m.cls := findClass_of_methodNamed B.named
  have hlocks := B.notSynchronized
  have in13 : ∀ w ∈ u_ws RX13 TX13 29, w ∈ wsX13_isWord := fun w h => List.mem_cons_of_mem _ (List.mem_append_right _ h)
  have hS : va_S A s.heap s.heap [] := va_S.rf
  have hl := lv_entry ([.ref (ad a0), .ref (q.2.1 i1)]) (n := 2) (Nat.le_of_ble_eq_true rfl)
  rw [lg_entry_eq]
  generalize (lg_sl ([.ref (ad a0), .ref (q.2.1 i1)]) ++ List.replicate (2 - (lg_sl ([.ref (ad a0), .ref (q.2.1 i1)])).length) Slot.unset).toArray = ls at hl ⊢
  have hl : lv_has ls 2 [(0, .ref (ad a0)), (1, .ref (q.2.1 i1))] := hl
  unfold f_X13_isWord at h
  refine lv_aload_n hx hb dX13_isWord_0 rfl (lv_at hl 0 rfl) ?_
  refine r_get (T := TX13) (v := .int (gI M a0 9)) hx hb hts in13 hown hK hP k0 (by decide) rfl 9 (by decide) (hts (.fieldLink RX13 58 "StoneWalkModel" "sort" "I") (List.mem_of_getElem? (i := 1) (by decide +kernel))) rfl (t := 0) rfl rfl dX13_isWord_1 ?_
  refine lv_iconst (v := 2) hx hb dX13_isWord_4 rfl ?_
  refine lv_icmp_ne (tgt := 24) hx hb dX13_isWord_5 rfl (fun c1 => ?_) (fun c1 => ?_)
  · replace h := ite_f c1 h
    refine lv_iconst (v := 0) hx hb dX13_isWord_24 rfl ?_
    exact r_zret hx hb hr hlocks hP hK hD hT hG hS zb_0 (Option.some.inj h) rfl dX13_isWord_25
  · replace h := ite_t c1 h
    refine lv_aload_n hx hb dX13_isWord_8 rfl (lv_at hl 0 rfl) ?_
    refine r_get (T := TX13) (v := .long (gL M a0 15)) hx hb hts in13 hown hK hP k0 (by decide) rfl 15 (by decide) (hts (.fieldLink RX13 77 "StoneWalkModel" "word" "J") (List.mem_of_getElem? (i := 2) (by decide +kernel))) rfl (t := 1) rfl rfl dX13_isWord_9 ?_
    refine lv_aload_n hx hb dX13_isWord_12 rfl (lv_at hl 1 rfl) ?_
    obtain ⟨z2, h2, h⟩ := ob_some h
    refine k_l (va_runS (As := [.ref (q.2.1 i1)]) (rest := [.long (gL M a0 15)]) ⟨hx, hb, hml, hown, hts⟩ (c_X13_wordOf (l := l) M i1 k1 h2) (va_cwS 1 hts gX13_isWord_X13_wordOf rfl rfl rfl hdS_X13_wordOf ⟨Nat.le_of_ble_eq_true rfl, Nat.le_of_ble_eq_true rfl⟩) (pS hP hK hD hT hG hS) rfl rfl hl.1 rfl (lv_room (Nat.le_of_ble_eq_true rfl)) dX13_isWord_13 ⟨Nat.zero_le _, Nat.zero_le _⟩) hS (fun H locs hP hD hT hS => ?_)
    refine W.lcmp hx hb dX13_isWord_16 ?_
    refine lv_if_ne (tgt := 24) hx hb dX13_isWord_17 rfl (fun c3 => ?_) (fun c3 => ?_)
    · replace h := ite_f c3 h
      refine lv_iconst (v := 0) hx hb dX13_isWord_24 rfl ?_
      exact r_zret hx hb hr hlocks hP hK hD hT hG hS zb_0 (Option.some.inj h) rfl dX13_isWord_25
    · replace h := ite_t c3 h
      refine lv_iconst (v := 1) hx hb dX13_isWord_20 rfl ?_
      refine lv_goto (tgt := 25) hx hb dX13_isWord_21 rfl ?_
      exact r_zret hx hb hr hlocks hP hK hD hT hG hS zb_1 (Option.some.inj h) rfl dX13_isWord_25
set_option maxHeartbeats 4000000 in
set_option maxRecDepth 100000 in
theorem c_X13_eatsWord {l : Launch} {D : va_G} {ad : Nat → Nat} {cy : Nat → ClassId} {A : Nat → Prop} {g : CG} {q : SE} (M : MM) (a0 : Nat) (i1 : Nat) (k0 : ok g a0 13 0) (k1 : i1 < nS) {Z : (Int32 × MM)} (h : f_X13_eatsWord M a0 i1 = some Z) : Met l yX13_eatsWord wsX13_eatsWord ({ frames := 6, cells := 0, slots := 0, locals := 129 }) (va_Pc [.ref (ad a0), .ref (q.2.1 i1)] (Wd D ad cy A g q M)) (va_Qi (fun r u => r = Z.1 ∧ u = Z.2 ∧ zb r) (Wd D ad cy A g q) A) 0 0 A := by
  refine Met.ofW (cc := cX13_eatsWord) (maxL := 3) (ret := (some .boolean)) (by decide) rfl ?_
  intro p e s m args below meth c s₁ B hml hv
  obtain ⟨rfl, hP, hK, hD, hT, hG⟩ := hv
  have hx := B.exec
  have hb := B.bytes
  have hr := B.returns
  have hts := atoms_spec (ws := wsX13_eatsWord) B.pre
  have hown : s.vm.findClass RX13 = some m.cls := findClass_of_methodNamed B.named
  have hlocks := B.notSynchronized
  have hS : va_S A s.heap s.heap [] := va_S.rf
  have hl := lv_entry ([.ref (ad a0), .ref (q.2.1 i1)]) (n := 3) (Nat.le_of_ble_eq_true rfl)
  rw [lg_entry_eq]
  generalize (lg_sl ([.ref (ad a0), .ref (q.2.1 i1)]) ++ List.replicate (3 - (lg_sl ([.ref (ad a0), .ref (q.2.1 i1)])).length) Slot.unset).toArray = ls at hl ⊢
  have hl : lv_has ls 3 [(0, .ref (ad a0)), (1, .ref (q.2.1 i1))] := hl
  unfold f_X13_eatsWord at h
  refine lv_aload_n hx hb dX13_eatsWord_0 rfl (lv_at hl 0 rfl) ?_
  refine lv_aload_n hx hb dX13_eatsWord_1 rfl (lv_at hl 1 rfl) ?_
  obtain ⟨z1, h1, h⟩ := ob_some h
  refine k_z (va_runV (As := [.ref (q.2.1 i1)]) (rest := []) ⟨hx, hb, hml, hown, hts⟩ (c_X13_isWord (l := l) M a0 i1 k0 k1 h1) (cwV 1 hts gX13_eatsWord_X13_isWord rfl rfl rfl hdV_X13_isWord ⟨Nat.le_of_ble_eq_true rfl, Nat.le_of_ble_eq_true rfl⟩) (pV (T := TX13) hP hK hD hT hG hS k0 (by decide) rfl) rfl rfl hl.1 rfl (lv_room (Nat.le_of_ble_eq_true rfl)) dX13_eatsWord_2 ⟨Nat.zero_le _, Nat.zero_le _⟩) hS (fun H locs hz1 hP hD hT hS => ?_)
  refine lv_istore_n (lv' := [(2, .int z1), (0, .ref (ad a0)), (1, .ref (q.2.1 i1))]) hx hb dX13_eatsWord_5 rfl hl (by decide) rfl (fun ls hl => ?_)
  refine lv_iload_n hx hb dX13_eatsWord_6 rfl (lv_at hl 0 rfl) ?_
  refine lv_if_eq (tgt := 14) hx hb dX13_eatsWord_7 rfl (fun c2 => ?_) (fun c2 => ?_)
  · replace h := ite_t c2 h
    refine lv_iload_n hx hb dX13_eatsWord_14 rfl (lv_at hl 0 rfl) ?_
    have hZ := Option.some.inj h
    have hZ1 := congrArg Prod.fst hZ
    have hZ2 := congrArg Prod.snd hZ
    exact r_zret hx hb hr hlocks hP hK hD hT hG hS hz1 hZ1 hZ2 dX13_eatsWord_15
  · replace h := ite_f c2 h
    refine lv_aload_n hx hb dX13_eatsWord_10 rfl (lv_at hl 1 rfl) ?_
    obtain ⟨z3, h3, h⟩ := ob_some h
    refine k_v (va_runV (As := []) (rest := []) ⟨hx, hb, hml, hown, hts⟩ (c_X13_goesOn (l := l) M a0 k0 h3) (cwV 0 hts gX13_eatsWord_X13_goesOn rfl rfl rfl hdV_X13_goesOn ⟨Nat.le_of_ble_eq_true rfl, Nat.le_of_ble_eq_true rfl⟩) (pV (T := TX13) hP hK hD hT hG hS k0 (by decide) rfl) rfl rfl hl.1 rfl (lv_room (Nat.le_of_ble_eq_true rfl)) dX13_eatsWord_11 ⟨Nat.zero_le _, Nat.zero_le _⟩) hS (fun H locs hP hD hT hS => ?_)
    refine lv_iload_n hx hb dX13_eatsWord_14 rfl (lv_at hl 0 rfl) ?_
    have hZ := Option.some.inj h
    have hZ1 := congrArg Prod.fst hZ
    have hZ2 := congrArg Prod.snd hZ
    exact r_zret hx hb hr hlocks hP hK hD hT hG hS hz1 hZ1 hZ2 dX13_eatsWord_15
set_option maxHeartbeats 4000000 in
set_option maxRecDepth 100000 in
theorem c_X13_eatsSign {l : Launch} {D : va_G} {ad : Nat → Nat} {cy : Nat → ClassId} {A : Nat → Prop} {g : CG} {q : SE} (M : MM) (a0 : Nat) (x1 : Int32) (k0 : ok g a0 13 0) {Z : (Int32 × MM)} (h : f_X13_eatsSign M a0 x1 = some Z) : Met l yX13_eatsSign wsX13_eatsSign ({ frames := 2, cells := 0, slots := 0, locals := 43 }) (va_Pc [.ref (ad a0), .int x1] (Wd D ad cy A g q M)) (va_Qi (fun r u => r = Z.1 ∧ u = Z.2 ∧ zb r) (Wd D ad cy A g q) A) 0 0 A := by
  refine Met.ofW (cc := cX13_eatsSign) (maxL := 3) (ret := (some .boolean)) (by decide) rfl ?_
  intro p e s m args below meth c s₁ B hml hv
  obtain ⟨rfl, hP, hK, hD, hT, hG⟩ := hv
  have hx := B.exec
  have hb := B.bytes
  have hr := B.returns
  have hts := atoms_spec (ws := wsX13_eatsSign) B.pre
  have hown : s.vm.findClass RX13 = some m.cls := findClass_of_methodNamed B.named
  have hlocks := B.notSynchronized
  have in13 : ∀ w ∈ u_ws RX13 TX13 29, w ∈ wsX13_eatsSign := fun w h => List.mem_cons_of_mem _ (List.mem_append_right _ h)
  have hS : va_S A s.heap s.heap [] := va_S.rf
  have hl := lv_entry ([.ref (ad a0), .int x1]) (n := 3) (Nat.le_of_ble_eq_true rfl)
  rw [lg_entry_eq]
  generalize (lg_sl ([.ref (ad a0), .int x1]) ++ List.replicate (3 - (lg_sl ([.ref (ad a0), .int x1])).length) Slot.unset).toArray = ls at hl ⊢
  have hl : lv_has ls 3 [(0, .ref (ad a0)), (1, .int x1)] := hl
  unfold f_X13_eatsSign at h
  refine lv_aload_n hx hb dX13_eatsSign_0 rfl (lv_at hl 0 rfl) ?_
  refine r_get (T := TX13) (v := .int (gI M a0 9)) hx hb hts in13 hown hK hP k0 (by decide) rfl 9 (by decide) (hts (.fieldLink RX13 58 "StoneWalkModel" "sort" "I") (List.mem_of_getElem? (i := 1) (by decide +kernel))) rfl (t := 0) rfl rfl dX13_eatsSign_1 ?_
  refine lv_iconst (v := 4) hx hb dX13_eatsSign_4 rfl ?_
  refine lv_icmp_ne (tgt := 20) hx hb dX13_eatsSign_5 rfl (fun c1 => ?_) (fun c1 => ?_)
  · replace h := ite_f c1 h
    refine lv_iconst (v := 0) hx hb dX13_eatsSign_20 rfl ?_
    refine lv_istore_n (lv' := [(2, .int 0), (0, .ref (ad a0)), (1, .int x1)]) hx hb dX13_eatsSign_21 rfl hl (by decide) rfl (fun ls hl => ?_)
    refine lv_iload_n hx hb dX13_eatsSign_22 rfl (lv_at hl 0 rfl) ?_
    refine lv_if_eq (tgt := 30) hx hb dX13_eatsSign_23 rfl (fun _ => ?_) (fun c2 => absurd c2 (by decide))
    refine lv_iload_n hx hb dX13_eatsSign_30 rfl (lv_at hl 0 rfl) ?_
    have hZ := Option.some.inj h
    have hZ1 := congrArg Prod.fst hZ
    have hZ2 := congrArg Prod.snd hZ
    exact r_zret hx hb hr hlocks hP hK hD hT hG hS zb_0 hZ1 hZ2 dX13_eatsSign_31
  · replace h := ite_t c1 h
    refine lv_aload_n hx hb dX13_eatsSign_8 rfl (lv_at hl 0 rfl) ?_
    refine r_get (T := TX13) (v := .int (gI M a0 11)) hx hb hts in13 hown hK hP k0 (by decide) rfl 11 (by decide) (hts (.fieldLink RX13 70 "StoneWalkModel" "mark" "I") (List.mem_of_getElem? (i := 2) (by decide +kernel))) rfl (t := 0) rfl rfl dX13_eatsSign_9 ?_
    refine lv_iload_n hx hb dX13_eatsSign_12 rfl (lv_at hl 1 rfl) ?_
    refine lv_icmp_ne (tgt := 20) hx hb dX13_eatsSign_13 rfl (fun c3 => ?_) (fun c3 => ?_)
    · replace h := ite_f c3 h
      refine lv_iconst (v := 0) hx hb dX13_eatsSign_20 rfl ?_
      refine lv_istore_n (lv' := [(2, .int 0), (0, .ref (ad a0)), (1, .int x1)]) hx hb dX13_eatsSign_21 rfl hl (by decide) rfl (fun ls hl => ?_)
      refine lv_iload_n hx hb dX13_eatsSign_22 rfl (lv_at hl 0 rfl) ?_
      refine lv_if_eq (tgt := 30) hx hb dX13_eatsSign_23 rfl (fun _ => ?_) (fun c4 => absurd c4 (by decide))
      refine lv_iload_n hx hb dX13_eatsSign_30 rfl (lv_at hl 0 rfl) ?_
      have hZ := Option.some.inj h
      have hZ1 := congrArg Prod.fst hZ
      have hZ2 := congrArg Prod.snd hZ
      exact r_zret hx hb hr hlocks hP hK hD hT hG hS zb_0 hZ1 hZ2 dX13_eatsSign_31
    · replace h := ite_t c3 h
      refine lv_iconst (v := 1) hx hb dX13_eatsSign_16 rfl ?_
      refine lv_goto (tgt := 21) hx hb dX13_eatsSign_17 rfl ?_
      refine lv_istore_n (lv' := [(2, .int 1), (0, .ref (ad a0)), (1, .int x1)]) hx hb dX13_eatsSign_21 rfl hl (by decide) rfl (fun ls hl => ?_)
      refine lv_iload_n hx hb dX13_eatsSign_22 rfl (lv_at hl 0 rfl) ?_
      refine lv_if_eq (tgt := 30) hx hb dX13_eatsSign_23 rfl (fun c5 => absurd c5 (by decide)) (fun _ => ?_)
      refine lv_aload_n hx hb dX13_eatsSign_26 rfl (lv_at hl 1 rfl) ?_
      obtain ⟨z6, h6, h⟩ := ob_some h
      refine k_v (va_runV (As := []) (rest := []) ⟨hx, hb, hml, hown, hts⟩ (c_X13_goesOn (l := l) M a0 k0 h6) (cwV 0 hts gX13_eatsSign_X13_goesOn rfl rfl rfl hdV_X13_goesOn ⟨Nat.le_of_ble_eq_true rfl, Nat.le_of_ble_eq_true rfl⟩) (pV (T := TX13) hP hK hD hT hG hS k0 (by decide) rfl) rfl rfl hl.1 rfl (lv_room (Nat.le_of_ble_eq_true rfl)) dX13_eatsSign_27 ⟨Nat.zero_le _, Nat.zero_le _⟩) hS (fun H locs hP hD hT hS => ?_)
      refine lv_iload_n hx hb dX13_eatsSign_30 rfl (lv_at hl 0 rfl) ?_
      have hZ := Option.some.inj h
      have hZ1 := congrArg Prod.fst hZ
      have hZ2 := congrArg Prod.snd hZ
      exact r_zret hx hb hr hlocks hP hK hD hT hG hS zb_1 hZ1 hZ2 dX13_eatsSign_31
