set_option maxHeartbeats 4000000 in
set_option maxRecDepth 100000 in
theorem c_X13_isSlope {l : Launch} {D : va_G} {ad : Nat → Nat} {cy : Nat → ClassId} {A : Nat → Prop} {g : CG} {q : SE} (M : MM) (a0 : Nat) (k0 : ok g a0 13 0) {Z : Int32} (h : f_X13_isSlope M a0 = some Z) : Met l yX13_isSlope wsX13_isSlope ({ frames := 6, cells := 0, slots := 0, locals := 129 }) (va_Pc [.ref (ad a0)] (Wd D ad cy A g q M)) (va_Qi (fun r u => r = Z ∧ u = M ∧ zb r) (Wd D ad cy A g q) A) 0 0 A := by
  refine Met.ofW (cc := cX13_isSlope) (maxL := 1) (ret := (some .boolean)) (by decide) rfl ?_
  intro p e s m args below meth c s₁ B hml hv
  obtain ⟨rfl, hP, hK, hD, hT, hG⟩ := hv
  have hx := B.exec
  have hb := B.bytes
  have hr := B.returns
  have hts := atoms_spec (ws := wsX13_isSlope) B.pre
  have hown : s.vm.findClass RX13 = some m.cls := findClass_of_methodNamed B.named
  have hlocks := B.notSynchronized
  have hS : va_S A s.heap s.heap [] := va_S.rf
  have hl := lv_entry ([.ref (ad a0)]) (n := 1) (Nat.le_of_ble_eq_true rfl)
  rw [lg_entry_eq]
  generalize (lg_sl ([.ref (ad a0)]) ++ List.replicate (1 - (lg_sl ([.ref (ad a0)])).length) Slot.unset).toArray = ls at hl ⊢
  have hl : lv_has ls 1 [(0, .ref (ad a0))] := hl
  unfold f_X13_isSlope at h
  refine lv_aload_n hx hb dX13_isSlope_0 rfl (lv_at hl 0 rfl) ?_
  refine r_ldcS (tx := "up") (i := 40) hx hb hG hown (by decide +kernel) dX13_isSlope_1 ?_
  obtain ⟨z1, h1, h⟩ := ob_some h
  refine k_z (va_runV (As := [.ref (q.2.1 40)]) (rest := []) ⟨hx, hb, hml, hown, hts⟩ (c_X13_isWord (l := l) M a0 40 k0 (by decide) h1) (cwV 1 hts gX13_isSlope_X13_isWord rfl rfl rfl hdV_X13_isWord ⟨Nat.le_of_ble_eq_true rfl, Nat.le_of_ble_eq_true rfl⟩) (pV (T := TX13) hP hK hD hT hG hS k0 (by decide) rfl) rfl rfl hl.1 rfl (lv_room (Nat.le_of_ble_eq_true rfl)) dX13_isSlope_3 ⟨Nat.zero_le _, Nat.zero_le _⟩) hS (fun H locs hz1 hP hD hT hS => ?_)
  refine lv_if_ne (tgt := 18) hx hb dX13_isSlope_6 rfl (fun c2 => ?_) (fun c2 => ?_)
  · replace h := ite_f c2 h
    refine lv_iconst (v := 1) hx hb dX13_isSlope_18 rfl ?_
    refine lv_goto (tgt := 23) hx hb dX13_isSlope_19 rfl ?_
    exact r_zret hx hb hr hlocks hP hK hD hT hG hS zb_1 (Option.some.inj h) rfl dX13_isSlope_23
  · replace h := ite_t c2 h
    refine lv_aload_n hx hb dX13_isSlope_9 rfl (lv_at hl 0 rfl) ?_
    refine r_ldcS (tx := "down") (i := 41) hx hb hG hown (by decide +kernel) dX13_isSlope_10 ?_
    obtain ⟨z3, h3, h⟩ := ob_some h
    refine k_z (va_runV (As := [.ref (q.2.1 41)]) (rest := []) ⟨hx, hb, hml, hown, hts⟩ (c_X13_isWord (l := l) M a0 41 k0 (by decide) h3) (cwV 1 hts gX13_isSlope_X13_isWord rfl rfl rfl hdV_X13_isWord ⟨Nat.le_of_ble_eq_true rfl, Nat.le_of_ble_eq_true rfl⟩) (pV (T := TX13) hP hK hD hT hG hS k0 (by decide) rfl) rfl rfl hl.1 rfl (lv_room (Nat.le_of_ble_eq_true rfl)) dX13_isSlope_12 ⟨Nat.zero_le _, Nat.zero_le _⟩) hS (fun H locs hz3 hP hD hT hS => ?_)
    refine lv_if_eq (tgt := 22) hx hb dX13_isSlope_15 rfl (fun c4 => ?_) (fun c4 => ?_)
    · replace h := ite_t c4 h
      refine lv_iconst (v := 0) hx hb dX13_isSlope_22 rfl ?_
      exact r_zret hx hb hr hlocks hP hK hD hT hG hS zb_0 (Option.some.inj h) rfl dX13_isSlope_23
    · replace h := ite_f c4 h
      refine lv_iconst (v := 1) hx hb dX13_isSlope_18 rfl ?_
      refine lv_goto (tgt := 23) hx hb dX13_isSlope_19 rfl ?_
      exact r_zret hx hb hr hlocks hP hK hD hT hG hS zb_1 (Option.some.inj h) rfl dX13_isSlope_23
set_option maxHeartbeats 4000000 in
set_option maxRecDepth 100000 in
theorem c_X13_readSlope {l : Launch} {D : va_G} {ad : Nat → Nat} {cy : Nat → ClassId} {A : Nat → Prop} {g : CG} {q : SE} (M : MM) (a0 : Nat) (k0 : ok g a0 13 0) {Z : (Int32 × MM)} (h : f_X13_readSlope M a0 = some Z) : Met l yX13_readSlope wsX13_readSlope ({ frames := 7, cells := 0, slots := 0, locals := 149 }) (va_Pc [.ref (ad a0)] (Wd D ad cy A g q M)) (va_Qi (fun r u => r = Z.1 ∧ u = Z.2) (Wd D ad cy A g q) A) 0 0 A := by
  refine Met.ofW (cc := cX13_readSlope) (maxL := 3) (ret := (some .int)) (by decide) rfl ?_
  intro p e s m args below meth c s₁ B hml hv
  obtain ⟨rfl, hP, hK, hD, hT, hG⟩ := hv
  have hx := B.exec
  have hb := B.bytes
  have hr := B.returns
  have hts := atoms_spec (ws := wsX13_readSlope) B.pre
  have hown : s.vm.findClass RX13 = some m.cls := findClass_of_methodNamed B.named
  have hlocks := B.notSynchronized
  have hS : va_S A s.heap s.heap [] := va_S.rf
  have hl := lv_entry ([.ref (ad a0)]) (n := 3) (Nat.le_of_ble_eq_true rfl)
  rw [lg_entry_eq]
  generalize (lg_sl ([.ref (ad a0)]) ++ List.replicate (3 - (lg_sl ([.ref (ad a0)])).length) Slot.unset).toArray = ls at hl ⊢
  have hl : lv_has ls 3 [(0, .ref (ad a0))] := hl
  unfold f_X13_readSlope at h
  refine lv_aload_n hx hb dX13_readSlope_0 rfl (lv_at hl 0 rfl) ?_
  refine r_ldcS (tx := "down") (i := 41) hx hb hG hown (by decide +kernel) dX13_readSlope_1 ?_
  obtain ⟨z1, h1, h⟩ := ob_some h
  refine k_z (va_runV (As := [.ref (q.2.1 41)]) (rest := []) ⟨hx, hb, hml, hown, hts⟩ (c_X13_isWord (l := l) M a0 41 k0 (by decide) h1) (cwV 1 hts gX13_readSlope_X13_isWord rfl rfl rfl hdV_X13_isWord ⟨Nat.le_of_ble_eq_true rfl, Nat.le_of_ble_eq_true rfl⟩) (pV (T := TX13) hP hK hD hT hG hS k0 (by decide) rfl) rfl rfl hl.1 rfl (lv_room (Nat.le_of_ble_eq_true rfl)) dX13_readSlope_3 ⟨Nat.zero_le _, Nat.zero_le _⟩) hS (fun H locs hz1 hP hD hT hS => ?_)
  refine lv_istore_n (lv' := [(1, .int z1), (0, .ref (ad a0))]) hx hb dX13_readSlope_6 rfl hl (by decide) rfl (fun ls hl => ?_)
  refine lv_aload_n hx hb dX13_readSlope_7 rfl (lv_at hl 1 rfl) ?_
  obtain ⟨z2, h2, h⟩ := ob_some h
  refine k_z (va_runV (As := []) (rest := []) ⟨hx, hb, hml, hown, hts⟩ (c_X13_isSlope (l := l) M a0 k0 h2) (cwV 0 hts gX13_readSlope_X13_isSlope rfl rfl rfl hdV_X13_isSlope ⟨Nat.le_of_ble_eq_true rfl, Nat.le_of_ble_eq_true rfl⟩) (pV (T := TX13) hP hK hD hT hG hS k0 (by decide) rfl) rfl rfl hl.1 rfl (lv_room (Nat.le_of_ble_eq_true rfl)) dX13_readSlope_8 ⟨Nat.zero_le _, Nat.zero_le _⟩) hS (fun H locs hz2 hP hD hT hS => ?_)
  refine lv_if_ne (tgt := 19) hx hb dX13_readSlope_11 rfl (fun c3 => ?_) (fun c3 => ?_)
  · replace h := ite_f c3 h
    refine lv_aload_n hx hb dX13_readSlope_19 rfl (lv_at hl 1 rfl) ?_
    obtain ⟨z4, h4, h⟩ := ob_some h
    refine k_v (va_runV (As := []) (rest := []) ⟨hx, hb, hml, hown, hts⟩ (c_X13_goesOn (l := l) M a0 k0 h4) (cwV 0 hts gX13_readSlope_X13_goesOn rfl rfl rfl hdV_X13_goesOn ⟨Nat.le_of_ble_eq_true rfl, Nat.le_of_ble_eq_true rfl⟩) (pV (T := TX13) hP hK hD hT hG hS k0 (by decide) rfl) rfl rfl hl.1 rfl (lv_room (Nat.le_of_ble_eq_true rfl)) dX13_readSlope_20 ⟨Nat.zero_le _, Nat.zero_le _⟩) hS (fun H locs hP hD hT hS => ?_)
    refine lv_aload_n hx hb dX13_readSlope_23 rfl (lv_at hl 1 rfl) ?_
    refine lv_iconst (v := 0) hx hb dX13_readSlope_24 rfl ?_
    refine lv_bipush (v := 20) hx hb dX13_readSlope_25 rfl ?_
    obtain ⟨z5, h5, h⟩ := ob_some h
    refine k_i (va_runV (As := [.int 0, .int 20]) (rest := []) ⟨hx, hb, hml, hown, hts⟩ (c_X13_readWhole (l := l) z4 a0 0 20 k0 h5) (cwV 2 hts gX13_readSlope_X13_readWhole rfl rfl rfl hdV_X13_readWhole ⟨Nat.le_of_ble_eq_true rfl, Nat.le_of_ble_eq_true rfl⟩) (pV (T := TX13) hP hK hD hT hG hS k0 (by decide) rfl) rfl rfl hl.1 rfl (lv_room (Nat.le_of_ble_eq_true rfl)) dX13_readSlope_27 ⟨Nat.zero_le _, Nat.zero_le _⟩) hS (fun H locs hP hD hT hS => ?_)
    refine lv_istore_n (lv' := [(2, .int z5.1), (1, .int z1), (0, .ref (ad a0))]) hx hb dX13_readSlope_30 rfl hl (by decide) rfl (fun ls hl => ?_)
    refine lv_iload_n hx hb dX13_readSlope_31 rfl (lv_at hl 1 rfl) ?_
    refine lv_if_eq (tgt := 40) hx hb dX13_readSlope_32 rfl (fun c6 => ?_) (fun c6 => ?_)
    · replace h := ite_t c6 h
      refine lv_iload_n hx hb dX13_readSlope_40 rfl (lv_at hl 0 rfl) ?_
      have hZ := Option.some.inj h
      have hZ1 := congrArg Prod.fst hZ
      have hZ2 := congrArg Prod.snd hZ
      exact r_iret hx hb hr hlocks hP hK hD hT hG hS hZ1 hZ2 dX13_readSlope_41
    · replace h := ite_f c6 h
      refine lv_iload_n hx hb dX13_readSlope_35 rfl (lv_at hl 0 rfl) ?_
      refine lv_ineg hx hb dX13_readSlope_36 ?_
      refine lv_goto (tgt := 41) hx hb dX13_readSlope_37 rfl ?_
      have hZ := Option.some.inj h
      have hZ1 := congrArg Prod.fst hZ
      have hZ2 := congrArg Prod.snd hZ
      exact r_iret hx hb hr hlocks hP hK hD hT hG hS hZ1 hZ2 dX13_readSlope_41
  · replace h := ite_t c3 h
    refine lv_aload_n hx hb dX13_readSlope_14 rfl (lv_at hl 1 rfl) ?_
    refine lv_iconst (v := 1) hx hb dX13_readSlope_15 rfl ?_
    obtain ⟨z7, h7, h⟩ := ob_some h
    refine k_v (va_runV (As := [.int 1]) (rest := []) ⟨hx, hb, hml, hown, hts⟩ (c_X13_wrong (l := l) M a0 1 k0 h7) (cwV 1 hts gX13_readSlope_X13_wrong rfl rfl rfl hdV_X13_wrong ⟨Nat.le_of_ble_eq_true rfl, Nat.le_of_ble_eq_true rfl⟩) (pV (T := TX13) hP hK hD hT hG hS k0 (by decide) rfl) rfl rfl hl.1 rfl (lv_room (Nat.le_of_ble_eq_true rfl)) dX13_readSlope_16 ⟨Nat.zero_le _, Nat.zero_le _⟩) hS (fun H locs hP hD hT hS => ?_)
    refine lv_aload_n hx hb dX13_readSlope_19 rfl (lv_at hl 1 rfl) ?_
    obtain ⟨z8, h8, h⟩ := ob_some h
    refine k_v (va_runV (As := []) (rest := []) ⟨hx, hb, hml, hown, hts⟩ (c_X13_goesOn (l := l) z7 a0 k0 h8) (cwV 0 hts gX13_readSlope_X13_goesOn rfl rfl rfl hdV_X13_goesOn ⟨Nat.le_of_ble_eq_true rfl, Nat.le_of_ble_eq_true rfl⟩) (pV (T := TX13) hP hK hD hT hG hS k0 (by decide) rfl) rfl rfl hl.1 rfl (lv_room (Nat.le_of_ble_eq_true rfl)) dX13_readSlope_20 ⟨Nat.zero_le _, Nat.zero_le _⟩) hS (fun H locs hP hD hT hS => ?_)
    refine lv_aload_n hx hb dX13_readSlope_23 rfl (lv_at hl 1 rfl) ?_
    refine lv_iconst (v := 0) hx hb dX13_readSlope_24 rfl ?_
    refine lv_bipush (v := 20) hx hb dX13_readSlope_25 rfl ?_
    obtain ⟨z9, h9, h⟩ := ob_some h
    refine k_i (va_runV (As := [.int 0, .int 20]) (rest := []) ⟨hx, hb, hml, hown, hts⟩ (c_X13_readWhole (l := l) z8 a0 0 20 k0 h9) (cwV 2 hts gX13_readSlope_X13_readWhole rfl rfl rfl hdV_X13_readWhole ⟨Nat.le_of_ble_eq_true rfl, Nat.le_of_ble_eq_true rfl⟩) (pV (T := TX13) hP hK hD hT hG hS k0 (by decide) rfl) rfl rfl hl.1 rfl (lv_room (Nat.le_of_ble_eq_true rfl)) dX13_readSlope_27 ⟨Nat.zero_le _, Nat.zero_le _⟩) hS (fun H locs hP hD hT hS => ?_)
    refine lv_istore_n (lv' := [(2, .int z9.1), (1, .int z1), (0, .ref (ad a0))]) hx hb dX13_readSlope_30 rfl hl (by decide) rfl (fun ls hl => ?_)
    refine lv_iload_n hx hb dX13_readSlope_31 rfl (lv_at hl 1 rfl) ?_
    refine lv_if_eq (tgt := 40) hx hb dX13_readSlope_32 rfl (fun c10 => ?_) (fun c10 => ?_)
    · replace h := ite_t c10 h
      refine lv_iload_n hx hb dX13_readSlope_40 rfl (lv_at hl 0 rfl) ?_
      have hZ := Option.some.inj h
      have hZ1 := congrArg Prod.fst hZ
      have hZ2 := congrArg Prod.snd hZ
      exact r_iret hx hb hr hlocks hP hK hD hT hG hS hZ1 hZ2 dX13_readSlope_41
    · replace h := ite_f c10 h
      refine lv_iload_n hx hb dX13_readSlope_35 rfl (lv_at hl 0 rfl) ?_
      refine lv_ineg hx hb dX13_readSlope_36 ?_
      refine lv_goto (tgt := 41) hx hb dX13_readSlope_37 rfl ?_
      have hZ := Option.some.inj h
      have hZ1 := congrArg Prod.fst hZ
      have hZ2 := congrArg Prod.snd hZ
      exact r_iret hx hb hr hlocks hP hK hD hT hG hS hZ1 hZ2 dX13_readSlope_41
set_option maxHeartbeats 4000000 in
set_option maxRecDepth 100000 in
theorem c_X13_readWay {l : Launch} {D : va_G} {ad : Nat → Nat} {cy : Nat → ClassId} {A : Nat → Prop} {g : CG} {q : SE} (M : MM) (a0 : Nat) (k0 : ok g a0 13 0) {Z : MM} (h : f_X13_readWay M a0 = some Z) : Met l yX13_readWay wsX13_readWay ({ frames := 8, cells := 0, slots := 0, locals := 173 }) (va_Pc [.ref (ad a0)] (Wd D ad cy A g q M)) (va_Qv (fun u => u = Z) (Wd D ad cy A g q) A) 0 0 A := by
  refine Met.ofW (cc := cX13_readWay) (maxL := 4) (ret := none) (by decide) rfl ?_
  intro p e s m args below meth c s₁ B hml hv
  obtain ⟨rfl, hP, hK, hD, hT, hG⟩ := hv
  have hx := B.exec
  have hb := B.bytes
  have hr := B.returns
  have hts := atoms_spec (ws := wsX13_readWay) B.pre
  have hown : s.vm.findClass RX13 = some m.cls := findClass_of_methodNamed B.named
  have hlocks := B.notSynchronized
  have in12 : ∀ w ∈ u_ws RX12 TX12 48, w ∈ wsX13_readWay := fun w h => List.mem_cons_of_mem _ (List.mem_append_right _ h)
  have in13 : ∀ w ∈ u_ws RX13 TX13 29, w ∈ wsX13_readWay := fun w h => List.mem_cons_of_mem _ (List.mem_append_left _ (List.mem_append_right _ h))
  have hS : va_S A s.heap s.heap [] := va_S.rf
  have hl := lv_entry ([.ref (ad a0)]) (n := 4) (Nat.le_of_ble_eq_true rfl)
  rw [lg_entry_eq]
  generalize (lg_sl ([.ref (ad a0)]) ++ List.replicate (4 - (lg_sl ([.ref (ad a0)])).length) Slot.unset).toArray = ls at hl ⊢
  have hl : lv_has ls 4 [(0, .ref (ad a0))] := hl
  unfold f_X13_readWay at h
  have J1 : ∀ (M1 : MM) (y1_0 : Nat) (w1_0 : Int32) (ky1_0 : ok g y1_0 13 0) (H : Heap) (locs : List Loc), f_X13_readWay_J77 M1 y1_0 w1_0 = some Z → va_P D vwCl (wd ad cy g M1) H → va_D A (wd ad cy g M1) → WT g M1 → va_S A s.heap H locs → ∀ (ls : Array Slot), lv_has ls 4 [(0, .ref (ad y1_0))] → W p l e ((headSpec wsX13_readWay ({ frames := 8, cells := 0, slots := 0, locals := 173 })).room) s m (([.ref (ad a0)] : List Value).toArray) below meth c H locs 0 0 (MQ below (va_Qv (fun u => u = Z) (Wd D ad cy A g q) A) ([.ref (ad a0)]).toArray s 0 0 A) (F0 m 77 ls [.int w1_0]) := by
    intro M1 y1_0 w1_0 ky1_0 H locs h hP hD hT hS ls hl
    unfold f_X13_readWay_J77 at h
    have J2 : ∀ (M2 : MM) (y2_0 : Nat) (y2_1 : Int32) (ky2_0 : ok g y2_0 13 0) (H : Heap) (locs : List Loc), f_X13_readWay_J88 M2 y2_0 y2_1 = some Z → va_P D vwCl (wd ad cy g M2) H → va_D A (wd ad cy g M2) → WT g M2 → va_S A s.heap H locs → ∀ (ls : Array Slot), lv_has ls 4 [(0, .ref (ad y2_0)), (1, .int y2_1)] → W p l e ((headSpec wsX13_readWay ({ frames := 8, cells := 0, slots := 0, locals := 173 })).room) s m (([.ref (ad a0)] : List Value).toArray) below meth c H locs 0 0 (MQ below (va_Qv (fun u => u = Z) (Wd D ad cy A g q) A) ([.ref (ad a0)]).toArray s 0 0 A) (F0 m 88 ls []) := by
      intro M2 y2_0 y2_1 ky2_0 H locs h hP hD hT hS ls hl
      unfold f_X13_readWay_J88 at h
      refine lv_aload_n hx hb dX13_readWay_88 rfl (lv_at hl 0 rfl) ?_
      obtain ⟨z3, h3, h⟩ := ob_some h
      refine k_v (va_runV (As := []) (rest := []) ⟨hx, hb, hml, hown, hts⟩ (c_X13_goesOn (l := l) M2 y2_0 ky2_0 h3) (cwV 0 hts gX13_readWay_X13_goesOn rfl rfl rfl hdV_X13_goesOn ⟨Nat.le_of_ble_eq_true rfl, Nat.le_of_ble_eq_true rfl⟩) (pV (T := TX13) hP hK hD hT hG hS ky2_0 (by decide) rfl) rfl rfl hl.1 rfl (lv_room (Nat.le_of_ble_eq_true rfl)) dX13_readWay_89 ⟨Nat.zero_le _, Nat.zero_le _⟩) hS (fun H locs hP hD hT hS => ?_)
      refine lv_aload_n hx hb dX13_readWay_92 rfl (lv_at hl 0 rfl) ?_
      refine r_ldcS (tx := "weighs") (i := 2) hx hb hG hown (by decide +kernel) dX13_readWay_93 ?_
      refine lv_iconst (v := 1) hx hb dX13_readWay_95 rfl ?_
      refine lv_bipush (v := 99) hx hb dX13_readWay_96 rfl ?_
      obtain ⟨z4, h4, h⟩ := ob_some h
      refine k_i (va_runV (As := [.ref (q.2.1 2), .int 1, .int 99]) (rest := []) ⟨hx, hb, hml, hown, hts⟩ (c_X13_readPart (l := l) z3 y2_0 2 1 99 ky2_0 (by decide) h4) (cwV 3 hts gX13_readWay_X13_readPart rfl rfl rfl hdV_X13_readPart ⟨Nat.le_of_ble_eq_true rfl, Nat.le_of_ble_eq_true rfl⟩) (pV (T := TX13) hP hK hD hT hG hS ky2_0 (by decide) rfl) rfl rfl hl.1 rfl (lv_room (Nat.le_of_ble_eq_true rfl)) dX13_readWay_98 ⟨Nat.zero_le _, Nat.zero_le _⟩) hS (fun H locs hP hD hT hS => ?_)
      refine lv_istore_n (lv' := [(2, .int z4.1), (0, .ref (ad y2_0)), (1, .int y2_1)]) hx hb dX13_readWay_101 rfl hl (by decide) rfl (fun ls hl => ?_)
      refine lv_aload_n hx hb dX13_readWay_102 rfl (lv_at hl 1 rfl) ?_
      refine r_ldcS (tx := "pull") (i := 3) hx hb hG hown (by decide +kernel) dX13_readWay_103 ?_
      refine lv_iconst (v := 1) hx hb dX13_readWay_105 rfl ?_
      refine lv_bipush (v := 20) hx hb dX13_readWay_106 rfl ?_
      obtain ⟨z5, h5, h⟩ := ob_some h
      refine k_i (va_runV (As := [.ref (q.2.1 3), .int 1, .int 20]) (rest := []) ⟨hx, hb, hml, hown, hts⟩ (c_X13_readPart (l := l) z4.2 y2_0 3 1 20 ky2_0 (by decide) h5) (cwV 3 hts gX13_readWay_X13_readPart rfl rfl rfl hdV_X13_readPart ⟨Nat.le_of_ble_eq_true rfl, Nat.le_of_ble_eq_true rfl⟩) (pV (T := TX13) hP hK hD hT hG hS ky2_0 (by decide) rfl) rfl rfl hl.1 rfl (lv_room (Nat.le_of_ble_eq_true rfl)) dX13_readWay_108 ⟨Nat.zero_le _, Nat.zero_le _⟩) hS (fun H locs hP hD hT hS => ?_)
      refine lv_istore_n (lv' := [(3, .int z5.1), (2, .int z4.1), (0, .ref (ad y2_0)), (1, .int y2_1)]) hx hb dX13_readWay_111 rfl hl (by decide) rfl (fun ls hl => ?_)
      refine lv_aload_n hx hb dX13_readWay_112 rfl (lv_at hl 2 rfl) ?_
      refine r_get (T := TX13) (v := .int (gI z5.2 y2_0 9)) hx hb hts in13 hown hK hP ky2_0 (by decide) rfl 9 (by decide) (hts (.fieldLink RX13 58 "StoneWalkModel" "sort" "I") (List.mem_of_getElem? (i := 2) (by decide +kernel))) rfl (t := 0) rfl rfl dX13_readWay_113 ?_
      refine lv_iconst (v := 5) hx hb dX13_readWay_116 rfl ?_
      refine lv_icmp_ne (tgt := 121) hx hb dX13_readWay_117 rfl (fun c6 => ?_) (fun c6 => ?_)
      · replace h := ite_f c6 h
        refine lv_aload_n hx hb dX13_readWay_121 rfl (lv_at hl 2 rfl) ?_
        rcases hN7 : gR z5.2 y2_0 4 with _ | b7
        · replace h := oc_n hN7 h
          refine r_get (T := TX13) (v := .null) hx hb hts in13 hown hK hP ky2_0 (by decide) rfl 4 (by decide) (hts (.fieldLink RX13 150 "StoneWalkModel" "read" "LStoneWalkModel$Island;") (List.mem_of_getElem? (i := 1) (by decide +kernel))) rfl (t := 2) rfl (by show va_rf _ = _; rw [hN7]; rfl) dX13_readWay_122 ?_
          exact absurd h (by simp)
        · replace h := oc_s hN7 h
          have kb7 := hT.f ky2_0 (k := 4) (t := 12) (n := 0) rfl hN7
          refine r_get (T := TX13) (v := .ref (ad b7)) hx hb hts in13 hown hK hP ky2_0 (by decide) rfl 4 (by decide) (hts (.fieldLink RX13 150 "StoneWalkModel" "read" "LStoneWalkModel$Island;") (List.mem_of_getElem? (i := 1) (by decide +kernel))) rfl (t := 2) rfl (by show va_rf _ = _; rw [hN7]; rfl) dX13_readWay_122 ?_
          rcases hN8 : gR z5.2 b7 9 with _ | b8
          · exact absurd (oc_n hN8 h) (by simp)
          replace h := oc_s hN8 h
          have kb8 := hT.f kb7 (k := 9) (t := 15) (n := 4) rfl hN8
          refine r_getN (T := TX12) (v := .ref (ad b8)) hx hb hts in12 hown hK hP kb7 (by decide) rfl 9 (by decide) (hG.2.2.1 _ (List.mem_of_getElem? (i := 8) rfl)) rfl (t := 2) rfl (by show va_rf _ = _; rw [hN8]; rfl) dX13_readWay_125 ?_
          refine lv_aload_n hx hb dX13_readWay_128 rfl (lv_at hl 2 rfl) ?_
          rcases hN9 : gR z5.2 y2_0 4 with _ | b9
          · replace h := oc_n hN9 h
            refine r_get (T := TX13) (v := .null) hx hb hts in13 hown hK hP ky2_0 (by decide) rfl 4 (by decide) (hts (.fieldLink RX13 150 "StoneWalkModel" "read" "LStoneWalkModel$Island;") (List.mem_of_getElem? (i := 1) (by decide +kernel))) rfl (t := 2) rfl (by show va_rf _ = _; rw [hN9]; rfl) dX13_readWay_129 ?_
            exact absurd h (by simp)
          · replace h := oc_s hN9 h
            have kb9 := hT.f ky2_0 (k := 4) (t := 12) (n := 0) rfl hN9
            refine r_get (T := TX13) (v := .ref (ad b9)) hx hb hts in13 hown hK hP ky2_0 (by decide) rfl 4 (by decide) (hts (.fieldLink RX13 150 "StoneWalkModel" "read" "LStoneWalkModel$Island;") (List.mem_of_getElem? (i := 1) (by decide +kernel))) rfl (t := 2) rfl (by show va_rf _ = _; rw [hN9]; rfl) dX13_readWay_129 ?_
            refine r_getN (T := TX12) (v := .int (gI z5.2 b9 0)) hx hb hts in12 hown hK hP kb9 (by decide) rfl 0 (by decide) (hG.2.2.1 _ (List.mem_of_getElem? (i := 5) rfl)) rfl (t := 0) rfl rfl dX13_readWay_132 ?_
            refine lv_iload_n hx hb dX13_readWay_135 rfl (lv_at hl 3 rfl) ?_
            obtain ⟨hn10, h⟩ := chk_some h
            refine r_iast hx hb hK hP hD hT hS kb8 hn10 dX13_readWay_136 (fun H locs hP hD hT hS => ?_)
            refine lv_aload_n hx hb dX13_readWay_137 rfl (lv_at hl 2 rfl) ?_
            rcases hN11 : gR (pI z5.2 b8 (ix (gI z5.2 b9 0)) y2_1) y2_0 4 with _ | b11
            · replace h := oc_n hN11 h
              refine r_get (T := TX13) (v := .null) hx hb hts in13 hown hK hP ky2_0 (by decide) rfl 4 (by decide) (hts (.fieldLink RX13 150 "StoneWalkModel" "read" "LStoneWalkModel$Island;") (List.mem_of_getElem? (i := 1) (by decide +kernel))) rfl (t := 2) rfl (by show va_rf _ = _; rw [hN11]; rfl) dX13_readWay_138 ?_
              exact absurd h (by simp)
            · replace h := oc_s hN11 h
              have kb11 := hT.f ky2_0 (k := 4) (t := 12) (n := 0) rfl hN11
              refine r_get (T := TX13) (v := .ref (ad b11)) hx hb hts in13 hown hK hP ky2_0 (by decide) rfl 4 (by decide) (hts (.fieldLink RX13 150 "StoneWalkModel" "read" "LStoneWalkModel$Island;") (List.mem_of_getElem? (i := 1) (by decide +kernel))) rfl (t := 2) rfl (by show va_rf _ = _; rw [hN11]; rfl) dX13_readWay_138 ?_
              rcases hN12 : gR (pI z5.2 b8 (ix (gI z5.2 b9 0)) y2_1) b11 10 with _ | b12
              · exact absurd (oc_n hN12 h) (by simp)
              replace h := oc_s hN12 h
              have kb12 := hT.f kb11 (k := 10) (t := 15) (n := 4) rfl hN12
              refine r_getN (T := TX12) (v := .ref (ad b12)) hx hb hts in12 hown hK hP kb11 (by decide) rfl 10 (by decide) (hG.2.2.1 _ (List.mem_of_getElem? (i := 9) rfl)) rfl (t := 2) rfl (by show va_rf _ = _; rw [hN12]; rfl) dX13_readWay_141 ?_
              refine lv_aload_n hx hb dX13_readWay_144 rfl (lv_at hl 2 rfl) ?_
              rcases hN13 : gR (pI z5.2 b8 (ix (gI z5.2 b9 0)) y2_1) y2_0 4 with _ | b13
              · replace h := oc_n hN13 h
                refine r_get (T := TX13) (v := .null) hx hb hts in13 hown hK hP ky2_0 (by decide) rfl 4 (by decide) (hts (.fieldLink RX13 150 "StoneWalkModel" "read" "LStoneWalkModel$Island;") (List.mem_of_getElem? (i := 1) (by decide +kernel))) rfl (t := 2) rfl (by show va_rf _ = _; rw [hN13]; rfl) dX13_readWay_145 ?_
                exact absurd h (by simp)
              · replace h := oc_s hN13 h
                have kb13 := hT.f ky2_0 (k := 4) (t := 12) (n := 0) rfl hN13
                refine r_get (T := TX13) (v := .ref (ad b13)) hx hb hts in13 hown hK hP ky2_0 (by decide) rfl 4 (by decide) (hts (.fieldLink RX13 150 "StoneWalkModel" "read" "LStoneWalkModel$Island;") (List.mem_of_getElem? (i := 1) (by decide +kernel))) rfl (t := 2) rfl (by show va_rf _ = _; rw [hN13]; rfl) dX13_readWay_145 ?_
                refine r_getN (T := TX12) (v := .int (gI (pI z5.2 b8 (ix (gI z5.2 b9 0)) y2_1) b13 0)) hx hb hts in12 hown hK hP kb13 (by decide) rfl 0 (by decide) (hG.2.2.1 _ (List.mem_of_getElem? (i := 5) rfl)) rfl (t := 0) rfl rfl dX13_readWay_148 ?_
                refine lv_iload_n hx hb dX13_readWay_151 rfl (lv_at hl 1 rfl) ?_
                obtain ⟨hn14, h⟩ := chk_some h
                refine r_iast hx hb hK hP hD hT hS kb12 hn14 dX13_readWay_152 (fun H locs hP hD hT hS => ?_)
                refine lv_aload_n hx hb dX13_readWay_153 rfl (lv_at hl 2 rfl) ?_
                rcases hN15 : gR (pI (pI z5.2 b8 (ix (gI z5.2 b9 0)) y2_1) b12 (ix (gI (pI z5.2 b8 (ix (gI z5.2 b9 0)) y2_1) b13 0)) z4.1) y2_0 4 with _ | b15
                · replace h := oc_n hN15 h
                  refine r_get (T := TX13) (v := .null) hx hb hts in13 hown hK hP ky2_0 (by decide) rfl 4 (by decide) (hts (.fieldLink RX13 150 "StoneWalkModel" "read" "LStoneWalkModel$Island;") (List.mem_of_getElem? (i := 1) (by decide +kernel))) rfl (t := 2) rfl (by show va_rf _ = _; rw [hN15]; rfl) dX13_readWay_154 ?_
                  exact absurd h (by simp)
                · replace h := oc_s hN15 h
                  have kb15 := hT.f ky2_0 (k := 4) (t := 12) (n := 0) rfl hN15
                  refine r_get (T := TX13) (v := .ref (ad b15)) hx hb hts in13 hown hK hP ky2_0 (by decide) rfl 4 (by decide) (hts (.fieldLink RX13 150 "StoneWalkModel" "read" "LStoneWalkModel$Island;") (List.mem_of_getElem? (i := 1) (by decide +kernel))) rfl (t := 2) rfl (by show va_rf _ = _; rw [hN15]; rfl) dX13_readWay_154 ?_
                  rcases hN16 : gR (pI (pI z5.2 b8 (ix (gI z5.2 b9 0)) y2_1) b12 (ix (gI (pI z5.2 b8 (ix (gI z5.2 b9 0)) y2_1) b13 0)) z4.1) b15 11 with _ | b16
                  · exact absurd (oc_n hN16 h) (by simp)
                  replace h := oc_s hN16 h
                  have kb16 := hT.f kb15 (k := 11) (t := 15) (n := 4) rfl hN16
                  refine r_getN (T := TX12) (v := .ref (ad b16)) hx hb hts in12 hown hK hP kb15 (by decide) rfl 11 (by decide) (hG.2.2.1 _ (List.mem_of_getElem? (i := 10) rfl)) rfl (t := 2) rfl (by show va_rf _ = _; rw [hN16]; rfl) dX13_readWay_157 ?_
                  refine lv_aload_n hx hb dX13_readWay_160 rfl (lv_at hl 2 rfl) ?_
                  rcases hN17 : gR (pI (pI z5.2 b8 (ix (gI z5.2 b9 0)) y2_1) b12 (ix (gI (pI z5.2 b8 (ix (gI z5.2 b9 0)) y2_1) b13 0)) z4.1) y2_0 4 with _ | b17
                  · replace h := oc_n hN17 h
                    refine r_get (T := TX13) (v := .null) hx hb hts in13 hown hK hP ky2_0 (by decide) rfl 4 (by decide) (hts (.fieldLink RX13 150 "StoneWalkModel" "read" "LStoneWalkModel$Island;") (List.mem_of_getElem? (i := 1) (by decide +kernel))) rfl (t := 2) rfl (by show va_rf _ = _; rw [hN17]; rfl) dX13_readWay_161 ?_
                    exact absurd h (by simp)
                  · replace h := oc_s hN17 h
                    have kb17 := hT.f ky2_0 (k := 4) (t := 12) (n := 0) rfl hN17
                    refine r_get (T := TX13) (v := .ref (ad b17)) hx hb hts in13 hown hK hP ky2_0 (by decide) rfl 4 (by decide) (hts (.fieldLink RX13 150 "StoneWalkModel" "read" "LStoneWalkModel$Island;") (List.mem_of_getElem? (i := 1) (by decide +kernel))) rfl (t := 2) rfl (by show va_rf _ = _; rw [hN17]; rfl) dX13_readWay_161 ?_
                    refine r_getN (T := TX12) (v := .int (gI (pI (pI z5.2 b8 (ix (gI z5.2 b9 0)) y2_1) b12 (ix (gI (pI z5.2 b8 (ix (gI z5.2 b9 0)) y2_1) b13 0)) z4.1) b17 0)) hx hb hts in12 hown hK hP kb17 (by decide) rfl 0 (by decide) (hG.2.2.1 _ (List.mem_of_getElem? (i := 5) rfl)) rfl (t := 0) rfl rfl dX13_readWay_164 ?_
                    refine lv_iload_n hx hb dX13_readWay_167 rfl (lv_at hl 0 rfl) ?_
                    obtain ⟨hn18, h⟩ := chk_some h
                    refine r_iast hx hb hK hP hD hT hS kb16 hn18 dX13_readWay_168 (fun H locs hP hD hT hS => ?_)
                    refine lv_aload_n hx hb dX13_readWay_169 rfl (lv_at hl 2 rfl) ?_
                    rcases hN19 : gR (pI (pI (pI z5.2 b8 (ix (gI z5.2 b9 0)) y2_1) b12 (ix (gI (pI z5.2 b8 (ix (gI z5.2 b9 0)) y2_1) b13 0)) z4.1) b16 (ix (gI (pI (pI z5.2 b8 (ix (gI z5.2 b9 0)) y2_1) b12 (ix (gI (pI z5.2 b8 (ix (gI z5.2 b9 0)) y2_1) b13 0)) z4.1) b17 0)) z5.1) y2_0 4 with _ | b19
                    · replace h := oc_n hN19 h
                      refine r_get (T := TX13) (v := .null) hx hb hts in13 hown hK hP ky2_0 (by decide) rfl 4 (by decide) (hts (.fieldLink RX13 150 "StoneWalkModel" "read" "LStoneWalkModel$Island;") (List.mem_of_getElem? (i := 1) (by decide +kernel))) rfl (t := 2) rfl (by show va_rf _ = _; rw [hN19]; rfl) dX13_readWay_170 ?_
                      refine lv_dup hx hb dX13_readWay_173 rfl ?_
                      exact absurd h (by simp)
                    · replace h := oc_s hN19 h
                      have kb19 := hT.f ky2_0 (k := 4) (t := 12) (n := 0) rfl hN19
                      refine r_get (T := TX13) (v := .ref (ad b19)) hx hb hts in13 hown hK hP ky2_0 (by decide) rfl 4 (by decide) (hts (.fieldLink RX13 150 "StoneWalkModel" "read" "LStoneWalkModel$Island;") (List.mem_of_getElem? (i := 1) (by decide +kernel))) rfl (t := 2) rfl (by show va_rf _ = _; rw [hN19]; rfl) dX13_readWay_170 ?_
                      refine lv_dup hx hb dX13_readWay_173 rfl ?_
                      refine r_getN (T := TX12) (v := .int (gI (pI (pI (pI z5.2 b8 (ix (gI z5.2 b9 0)) y2_1) b12 (ix (gI (pI z5.2 b8 (ix (gI z5.2 b9 0)) y2_1) b13 0)) z4.1) b16 (ix (gI (pI (pI z5.2 b8 (ix (gI z5.2 b9 0)) y2_1) b12 (ix (gI (pI z5.2 b8 (ix (gI z5.2 b9 0)) y2_1) b13 0)) z4.1) b17 0)) z5.1) b19 0)) hx hb hts in12 hown hK hP kb19 (by decide) rfl 0 (by decide) (hG.2.2.1 _ (List.mem_of_getElem? (i := 5) rfl)) rfl (t := 0) rfl rfl dX13_readWay_174 ?_
                      refine lv_iconst (v := 1) hx hb dX13_readWay_177 rfl ?_
                      refine lv_iadd hx hb dX13_readWay_178 ?_
                      refine r_putIN (T := TX12) (ty := .int) (v := (gI (pI (pI (pI z5.2 b8 (ix (gI z5.2 b9 0)) y2_1) b12 (ix (gI (pI z5.2 b8 (ix (gI z5.2 b9 0)) y2_1) b13 0)) z4.1) b16 (ix (gI (pI (pI z5.2 b8 (ix (gI z5.2 b9 0)) y2_1) b12 (ix (gI (pI z5.2 b8 (ix (gI z5.2 b9 0)) y2_1) b13 0)) z4.1) b17 0)) z5.1) b19 0) + 1) hx hb hts in12 tyX12 tyX12_ok nmX12 hown hK hP hD hT hS kb19 (by decide) rfl 0 (by decide) (hG.2.2.1 _ (List.mem_of_getElem? (i := 5) rfl)) rfl rfl (tyX12_ok 0 (by decide)) rfl rfl rfl dX13_readWay_179 (fun H locs hP hD hT hS => ?_)
                      exact r_vret hx hb hr hlocks hP hK hD hT hG hS (Option.some.inj h) dX13_readWay_182
      · replace h := ite_t c6 h
        exact r_vret hx hb hr hlocks hP hK hD hT hG hS (Option.some.inj h) dX13_readWay_120
    refine lv_istore_n (lv' := [(1, .int w1_0), (0, .ref (ad y1_0))]) hx hb dX13_readWay_77 rfl hl (by decide) rfl (fun ls hl => ?_)
    refine lv_iload_n hx hb dX13_readWay_78 rfl (lv_at hl 0 rfl) ?_
    refine lv_iconst (v := (-1)) hx hb dX13_readWay_79 rfl ?_
    refine lv_icmp_ne (tgt := 88) hx hb dX13_readWay_80 rfl (fun c20 => ?_) (fun c20 => ?_)
    · replace h := ite_f c20 h
      exact J2 M1 y1_0 w1_0 ky1_0 _ _ h hP hD hT hS ls (lv_sub hl [1, 0] rfl)
    · replace h := ite_t c20 h
      refine lv_aload_n hx hb dX13_readWay_83 rfl (lv_at hl 1 rfl) ?_
      refine lv_iconst (v := 1) hx hb dX13_readWay_84 rfl ?_
      obtain ⟨z21, h21, h⟩ := ob_some h
      refine k_v (va_runV (As := [.int 1]) (rest := []) ⟨hx, hb, hml, hown, hts⟩ (c_X13_wrong (l := l) M1 y1_0 1 ky1_0 h21) (cwV 1 hts gX13_readWay_X13_wrong rfl rfl rfl hdV_X13_wrong ⟨Nat.le_of_ble_eq_true rfl, Nat.le_of_ble_eq_true rfl⟩) (pV (T := TX13) hP hK hD hT hG hS ky1_0 (by decide) rfl) rfl rfl hl.1 rfl (lv_room (Nat.le_of_ble_eq_true rfl)) dX13_readWay_85 ⟨Nat.zero_le _, Nat.zero_le _⟩) hS (fun H locs hP hD hT hS => ?_)
      exact J2 z21 y1_0 w1_0 ky1_0 _ _ h hP hD hT hS ls (lv_sub hl [1, 0] rfl)
  refine lv_aload_n hx hb dX13_readWay_0 rfl (lv_at hl 0 rfl) ?_
  refine lv_aload_n hx hb dX13_readWay_1 rfl (lv_at hl 0 rfl) ?_
  rcases hN22 : gR M a0 4 with _ | b22
  · replace h := oc_n hN22 h
    refine r_get (T := TX13) (v := .null) hx hb hts in13 hown hK hP k0 (by decide) rfl 4 (by decide) (hts (.fieldLink RX13 150 "StoneWalkModel" "read" "LStoneWalkModel$Island;") (List.mem_of_getElem? (i := 1) (by decide +kernel))) rfl (t := 2) rfl (by show va_rf _ = _; rw [hN22]; rfl) dX13_readWay_2 ?_
    exact absurd h (by simp)
  · replace h := oc_s hN22 h
    have kb22 := hT.f k0 (k := 4) (t := 12) (n := 0) rfl hN22
    refine r_get (T := TX13) (v := .ref (ad b22)) hx hb hts in13 hown hK hP k0 (by decide) rfl 4 (by decide) (hts (.fieldLink RX13 150 "StoneWalkModel" "read" "LStoneWalkModel$Island;") (List.mem_of_getElem? (i := 1) (by decide +kernel))) rfl (t := 2) rfl (by show va_rf _ = _; rw [hN22]; rfl) dX13_readWay_2 ?_
    refine r_getN (T := TX12) (v := .int (gI M b22 0)) hx hb hts in12 hown hK hP kb22 (by decide) rfl 0 (by decide) (hG.2.2.1 _ (List.mem_of_getElem? (i := 5) rfl)) rfl (t := 0) rfl rfl dX13_readWay_5 ?_
    refine lv_iconst (v := 4) hx hb dX13_readWay_8 rfl ?_
    obtain ⟨z23, h23, h⟩ := ob_some h
    refine k_v (va_runV (As := [.int (gI M b22 0), .int 4]) (rest := []) ⟨hx, hb, hml, hown, hts⟩ (c_X13_begins (l := l) M a0 (gI M b22 0) 4 k0 h23) (cwV 2 hts gX13_readWay_X13_begins rfl rfl rfl hdV_X13_begins ⟨Nat.le_of_ble_eq_true rfl, Nat.le_of_ble_eq_true rfl⟩) (pV (T := TX13) hP hK hD hT hG hS k0 (by decide) rfl) rfl rfl hl.1 rfl (lv_room (Nat.le_of_ble_eq_true rfl)) dX13_readWay_9 ⟨Nat.zero_le _, Nat.zero_le _⟩) hS (fun H locs hP hD hT hS => ?_)
    refine lv_aload_n hx hb dX13_readWay_12 rfl (lv_at hl 0 rfl) ?_
    refine lv_iconst (v := 0) hx hb dX13_readWay_13 rfl ?_
    refine lv_aload_n hx hb dX13_readWay_14 rfl (lv_at hl 0 rfl) ?_
    rcases hN24 : gR z23 a0 4 with _ | b24
    · replace h := oc_n hN24 h
      refine r_get (T := TX13) (v := .null) hx hb hts in13 hown hK hP k0 (by decide) rfl 4 (by decide) (hts (.fieldLink RX13 150 "StoneWalkModel" "read" "LStoneWalkModel$Island;") (List.mem_of_getElem? (i := 1) (by decide +kernel))) rfl (t := 2) rfl (by show va_rf _ = _; rw [hN24]; rfl) dX13_readWay_15 ?_
      exact absurd h (by simp)
    · replace h := oc_s hN24 h
      have kb24 := hT.f k0 (k := 4) (t := 12) (n := 0) rfl hN24
      refine r_get (T := TX13) (v := .ref (ad b24)) hx hb hts in13 hown hK hP k0 (by decide) rfl 4 (by decide) (hts (.fieldLink RX13 150 "StoneWalkModel" "read" "LStoneWalkModel$Island;") (List.mem_of_getElem? (i := 1) (by decide +kernel))) rfl (t := 2) rfl (by show va_rf _ = _; rw [hN24]; rfl) dX13_readWay_15 ?_
      refine r_getN (T := TX12) (v := .int (gI z23 b24 0)) hx hb hts in12 hown hK hP kb24 (by decide) rfl 0 (by decide) (hG.2.2.1 _ (List.mem_of_getElem? (i := 5) rfl)) rfl (t := 0) rfl rfl dX13_readWay_18 ?_
      obtain ⟨z25, h25, h⟩ := ob_some h
      refine k_v (va_runV (As := [.int 0, .int (gI z23 b24 0)]) (rest := []) ⟨hx, hb, hml, hown, hts⟩ (c_X13_readFresh (l := l) z23 a0 0 (gI z23 b24 0) k0 h25) (cwV 2 hts gX13_readWay_X13_readFresh rfl rfl rfl hdV_X13_readFresh ⟨Nat.le_of_ble_eq_true rfl, Nat.le_of_ble_eq_true rfl⟩) (pV (T := TX13) hP hK hD hT hG hS k0 (by decide) rfl) rfl rfl hl.1 rfl (lv_room (Nat.le_of_ble_eq_true rfl)) dX13_readWay_21 ⟨Nat.zero_le _, Nat.zero_le _⟩) hS (fun H locs hP hD hT hS => ?_)
      refine lv_aload_n hx hb dX13_readWay_24 rfl (lv_at hl 0 rfl) ?_
      refine r_ldcS (tx := "walked") (i := 42) hx hb hG hown (by decide +kernel) dX13_readWay_25 ?_
      obtain ⟨z26, h26, h⟩ := ob_some h
      refine k_z (va_runV (As := [.ref (q.2.1 42)]) (rest := []) ⟨hx, hb, hml, hown, hts⟩ (c_X13_isWord (l := l) z25 a0 42 k0 (by decide) h26) (cwV 1 hts gX13_readWay_X13_isWord rfl rfl rfl hdV_X13_isWord ⟨Nat.le_of_ble_eq_true rfl, Nat.le_of_ble_eq_true rfl⟩) (pV (T := TX13) hP hK hD hT hG hS k0 (by decide) rfl) rfl rfl hl.1 rfl (lv_room (Nat.le_of_ble_eq_true rfl)) dX13_readWay_27 ⟨Nat.zero_le _, Nat.zero_le _⟩) hS (fun H locs hz26 hP hD hT hS => ?_)
      refine lv_if_eq (tgt := 37) hx hb dX13_readWay_30 rfl (fun c27 => ?_) (fun c27 => ?_)
      · replace h := ite_t c27 h
        refine lv_aload_n hx hb dX13_readWay_37 rfl (lv_at hl 0 rfl) ?_
        refine r_ldcS (tx := "sled") (i := 43) hx hb hG hown (by decide +kernel) dX13_readWay_38 ?_
        obtain ⟨z28, h28, h⟩ := ob_some h
        refine k_z (va_runV (As := [.ref (q.2.1 43)]) (rest := []) ⟨hx, hb, hml, hown, hts⟩ (c_X13_isWord (l := l) z25 a0 43 k0 (by decide) h28) (cwV 1 hts gX13_readWay_X13_isWord rfl rfl rfl hdV_X13_isWord ⟨Nat.le_of_ble_eq_true rfl, Nat.le_of_ble_eq_true rfl⟩) (pV (T := TX13) hP hK hD hT hG hS k0 (by decide) rfl) rfl rfl hl.1 rfl (lv_room (Nat.le_of_ble_eq_true rfl)) dX13_readWay_40 ⟨Nat.zero_le _, Nat.zero_le _⟩) hS (fun H locs hz28 hP hD hT hS => ?_)
        refine lv_if_eq (tgt := 50) hx hb dX13_readWay_43 rfl (fun c29 => ?_) (fun c29 => ?_)
        · replace h := ite_t c29 h
          refine lv_aload_n hx hb dX13_readWay_50 rfl (lv_at hl 0 rfl) ?_
          refine r_ldcS (tx := "rolled") (i := 44) hx hb hG hown (by decide +kernel) dX13_readWay_51 ?_
          obtain ⟨z30, h30, h⟩ := ob_some h
          refine k_z (va_runV (As := [.ref (q.2.1 44)]) (rest := []) ⟨hx, hb, hml, hown, hts⟩ (c_X13_isWord (l := l) z25 a0 44 k0 (by decide) h30) (cwV 1 hts gX13_readWay_X13_isWord rfl rfl rfl hdV_X13_isWord ⟨Nat.le_of_ble_eq_true rfl, Nat.le_of_ble_eq_true rfl⟩) (pV (T := TX13) hP hK hD hT hG hS k0 (by decide) rfl) rfl rfl hl.1 rfl (lv_room (Nat.le_of_ble_eq_true rfl)) dX13_readWay_53 ⟨Nat.zero_le _, Nat.zero_le _⟩) hS (fun H locs hz30 hP hD hT hS => ?_)
          refine lv_if_eq (tgt := 63) hx hb dX13_readWay_56 rfl (fun c31 => ?_) (fun c31 => ?_)
          · replace h := ite_t c31 h
            refine lv_aload_n hx hb dX13_readWay_63 rfl (lv_at hl 0 rfl) ?_
            refine r_ldcS (tx := "dragged") (i := 45) hx hb hG hown (by decide +kernel) dX13_readWay_64 ?_
            obtain ⟨z32, h32, h⟩ := ob_some h
            refine k_z (va_runV (As := [.ref (q.2.1 45)]) (rest := []) ⟨hx, hb, hml, hown, hts⟩ (c_X13_isWord (l := l) z25 a0 45 k0 (by decide) h32) (cwV 1 hts gX13_readWay_X13_isWord rfl rfl rfl hdV_X13_isWord ⟨Nat.le_of_ble_eq_true rfl, Nat.le_of_ble_eq_true rfl⟩) (pV (T := TX13) hP hK hD hT hG hS k0 (by decide) rfl) rfl rfl hl.1 rfl (lv_room (Nat.le_of_ble_eq_true rfl)) dX13_readWay_66 ⟨Nat.zero_le _, Nat.zero_le _⟩) hS (fun H locs hz32 hP hD hT hS => ?_)
            refine lv_if_eq (tgt := 76) hx hb dX13_readWay_69 rfl (fun c33 => ?_) (fun c33 => ?_)
            · replace h := ite_t c33 h
              refine lv_iconst (v := (-1)) hx hb dX13_readWay_76 rfl ?_
              exact J1 z25 a0 (-1) k0 _ _ h hP hD hT hS ls (lv_sub hl [0] rfl)
            · replace h := ite_f c33 h
              refine lv_iconst (v := 3) hx hb dX13_readWay_72 rfl ?_
              refine lv_goto (tgt := 77) hx hb dX13_readWay_73 rfl ?_
              exact J1 z25 a0 3 k0 _ _ h hP hD hT hS ls (lv_sub hl [0] rfl)
          · replace h := ite_f c31 h
            refine lv_iconst (v := 2) hx hb dX13_readWay_59 rfl ?_
            refine lv_goto (tgt := 77) hx hb dX13_readWay_60 rfl ?_
            exact J1 z25 a0 2 k0 _ _ h hP hD hT hS ls (lv_sub hl [0] rfl)
        · replace h := ite_f c29 h
          refine lv_iconst (v := 1) hx hb dX13_readWay_46 rfl ?_
          refine lv_goto (tgt := 77) hx hb dX13_readWay_47 rfl ?_
          exact J1 z25 a0 1 k0 _ _ h hP hD hT hS ls (lv_sub hl [0] rfl)
      · replace h := ite_f c27 h
        refine lv_iconst (v := 0) hx hb dX13_readWay_33 rfl ?_
        refine lv_goto (tgt := 77) hx hb dX13_readWay_34 rfl ?_
        exact J1 z25 a0 0 k0 _ _ h hP hD hT hS ls (lv_sub hl [0] rfl)
