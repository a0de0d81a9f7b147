set_option maxHeartbeats 4000000 in
set_option maxRecDepth 100000 in
theorem c_X13_needs {l : Launch} {D : va_G} {ad : Nat → Nat} {cy : Nat → ClassId} {A : Nat → Prop} {g : CG} {q : SE} (M : MM) (a0 : Nat) (i1 : Nat) (k0 : ok g a0 13 0) (k1 : i1 < nS) {Z : MM} (h : f_X13_needs M a0 i1 = some Z) : Met l yX13_needs wsX13_needs ({ frames := 6, cells := 0, slots := 0, locals := 129 }) (va_Pc [.ref (ad a0), .ref (q.2.1 i1)] (Wd D ad cy A g q M)) (va_Qv (fun u => u = Z) (Wd D ad cy A g q) A) 0 0 A := by
  refine Met.ofW (cc := cX13_needs) (maxL := 2) (ret := none) (by decide) rfl ?_
  intro p e s m args below meth c s₁ B hml hv
  obtain ⟨rfl, hP, hK, hD, hT, hG⟩ := hv
  have hx := B.exec
  have hb := B.bytes
  have hr := B.returns
  have hts := atoms_spec (ws := wsX13_needs) B.pre
  have hown : s.vm.findClass RX13 = some m.cls := findClass_of_methodNamed B.named
  have hlocks := B.notSynchronized
  have hS : va_S A s.heap s.heap [] := va_S.rf
  have hl := lv_entry ([.ref (ad a0), .ref (q.2.1 i1)]) (n := 2) (Nat.le_of_ble_eq_true rfl)
  rw [lg_entry_eq]
  generalize (lg_sl ([.ref (ad a0), .ref (q.2.1 i1)]) ++ List.replicate (2 - (lg_sl ([.ref (ad a0), .ref (q.2.1 i1)])).length) Slot.unset).toArray = ls at hl ⊢
  have hl : lv_has ls 2 [(0, .ref (ad a0)), (1, .ref (q.2.1 i1))] := hl
  unfold f_X13_needs at h
  refine lv_aload_n hx hb dX13_needs_0 rfl (lv_at hl 0 rfl) ?_
  refine lv_aload_n hx hb dX13_needs_1 rfl (lv_at hl 1 rfl) ?_
  obtain ⟨z1, h1, h⟩ := ob_some h
  refine k_z (va_runV (As := [.ref (q.2.1 i1)]) (rest := []) ⟨hx, hb, hml, hown, hts⟩ (c_X13_isWord (l := l) M a0 i1 k0 k1 h1) (cwV 1 hts gX13_needs_X13_isWord rfl rfl rfl hdV_X13_isWord ⟨Nat.le_of_ble_eq_true rfl, Nat.le_of_ble_eq_true rfl⟩) (pV (T := TX13) hP hK hD hT hG hS k0 (by decide) rfl) rfl rfl hl.1 rfl (lv_room (Nat.le_of_ble_eq_true rfl)) dX13_needs_2 ⟨Nat.zero_le _, Nat.zero_le _⟩) hS (fun H locs hz1 hP hD hT hS => ?_)
  refine lv_if_ne (tgt := 13) hx hb dX13_needs_5 rfl (fun c2 => ?_) (fun c2 => ?_)
  · replace h := ite_f c2 h
    refine lv_aload_n hx hb dX13_needs_13 rfl (lv_at hl 0 rfl) ?_
    obtain ⟨z3, h3, h⟩ := ob_some h
    refine k_v (va_runV (As := []) (rest := []) ⟨hx, hb, hml, hown, hts⟩ (c_X13_goesOn (l := l) M a0 k0 h3) (cwV 0 hts gX13_needs_X13_goesOn rfl rfl rfl hdV_X13_goesOn ⟨Nat.le_of_ble_eq_true rfl, Nat.le_of_ble_eq_true rfl⟩) (pV (T := TX13) hP hK hD hT hG hS k0 (by decide) rfl) rfl rfl hl.1 rfl (lv_room (Nat.le_of_ble_eq_true rfl)) dX13_needs_14 ⟨Nat.zero_le _, Nat.zero_le _⟩) hS (fun H locs hP hD hT hS => ?_)
    exact r_vret hx hb hr hlocks hP hK hD hT hG hS (Option.some.inj h) dX13_needs_17
  · replace h := ite_t c2 h
    refine lv_aload_n hx hb dX13_needs_8 rfl (lv_at hl 0 rfl) ?_
    refine lv_iconst (v := 1) hx hb dX13_needs_9 rfl ?_
    obtain ⟨z4, h4, h⟩ := ob_some h
    refine k_v (va_runV (As := [.int 1]) (rest := []) ⟨hx, hb, hml, hown, hts⟩ (c_X13_wrong (l := l) M a0 1 k0 h4) (cwV 1 hts gX13_needs_X13_wrong rfl rfl rfl hdV_X13_wrong ⟨Nat.le_of_ble_eq_true rfl, Nat.le_of_ble_eq_true rfl⟩) (pV (T := TX13) hP hK hD hT hG hS k0 (by decide) rfl) rfl rfl hl.1 rfl (lv_room (Nat.le_of_ble_eq_true rfl)) dX13_needs_10 ⟨Nat.zero_le _, Nat.zero_le _⟩) hS (fun H locs hP hD hT hS => ?_)
    refine lv_aload_n hx hb dX13_needs_13 rfl (lv_at hl 0 rfl) ?_
    obtain ⟨z5, h5, h⟩ := ob_some h
    refine k_v (va_runV (As := []) (rest := []) ⟨hx, hb, hml, hown, hts⟩ (c_X13_goesOn (l := l) z4 a0 k0 h5) (cwV 0 hts gX13_needs_X13_goesOn rfl rfl rfl hdV_X13_goesOn ⟨Nat.le_of_ble_eq_true rfl, Nat.le_of_ble_eq_true rfl⟩) (pV (T := TX13) hP hK hD hT hG hS k0 (by decide) rfl) rfl rfl hl.1 rfl (lv_room (Nat.le_of_ble_eq_true rfl)) dX13_needs_14 ⟨Nat.zero_le _, Nat.zero_le _⟩) hS (fun H locs hP hD hT hS => ?_)
    exact r_vret hx hb hr hlocks hP hK hD hT hG hS (Option.some.inj h) dX13_needs_17
set_option maxHeartbeats 4000000 in
set_option maxRecDepth 100000 in
theorem c_X13_readWhole {l : Launch} {D : va_G} {ad : Nat → Nat} {cy : Nat → ClassId} {A : Nat → Prop} {g : CG} {q : SE} (M : MM) (a0 : Nat) (x1 : Int32) (x2 : Int32) (k0 : ok g a0 13 0) {Z : (Int32 × MM)} (h : f_X13_readWhole M a0 x1 x2 = some Z) : Met l yX13_readWhole wsX13_readWhole ({ frames := 2, cells := 0, slots := 0, locals := 43 }) (va_Pc [.ref (ad a0), .int x1, .int x2] (Wd D ad cy A g q M)) (va_Qi (fun r u => r = Z.1 ∧ u = Z.2) (Wd D ad cy A g q) A) 0 0 A := by
  refine Met.ofW (cc := cX13_readWhole) (maxL := 4) (ret := (some .int)) (by decide) rfl ?_
  intro p e s m args below meth c s₁ B hml hv
  obtain ⟨rfl, hP, hK, hD, hT, hG⟩ := hv
  have hx := B.exec
  have hb := B.bytes
  have hr := B.returns
  have hts := atoms_spec (ws := wsX13_readWhole) B.pre
  have hown : s.vm.findClass RX13 = some m.cls := findClass_of_methodNamed B.named
  have hlocks := B.notSynchronized
  have in13 : ∀ w ∈ u_ws RX13 TX13 29, w ∈ wsX13_readWhole := fun w h => List.mem_cons_of_mem _ (List.mem_append_right _ h)
  have hS : va_S A s.heap s.heap [] := va_S.rf
  have hl := lv_entry ([.ref (ad a0), .int x1, .int x2]) (n := 4) (Nat.le_of_ble_eq_true rfl)
  rw [lg_entry_eq]
  generalize (lg_sl ([.ref (ad a0), .int x1, .int x2]) ++ List.replicate (4 - (lg_sl ([.ref (ad a0), .int x1, .int x2])).length) Slot.unset).toArray = ls at hl ⊢
  have hl : lv_has ls 4 [(0, .ref (ad a0)), (1, .int x1), (2, .int x2)] := hl
  unfold f_X13_readWhole at h
  refine lv_aload_n hx hb dX13_readWhole_0 rfl (lv_at hl 0 rfl) ?_
  refine r_get (T := TX13) (v := .int (gI M a0 9)) hx hb hts in13 hown hK hP k0 (by decide) rfl 9 (by decide) (hts (.fieldLink RX13 58 "StoneWalkModel" "sort" "I") (List.mem_of_getElem? (i := 1) (by decide +kernel))) rfl (t := 0) rfl rfl dX13_readWhole_1 ?_
  refine lv_iconst (v := 3) hx hb dX13_readWhole_4 rfl ?_
  refine lv_icmp_eq (tgt := 16) hx hb dX13_readWhole_5 rfl (fun c1 => ?_) (fun c1 => ?_)
  · replace h := ite_t c1 h
    refine lv_aload_n hx hb dX13_readWhole_16 rfl (lv_at hl 0 rfl) ?_
    refine r_get (T := TX13) (v := .int (gI M a0 12)) hx hb hts in13 hown hK hP k0 (by decide) rfl 12 (by decide) (hts (.fieldLink RX13 84 "StoneWalkModel" "number" "I") (List.mem_of_getElem? (i := 2) (by decide +kernel))) rfl (t := 0) rfl rfl dX13_readWhole_17 ?_
    refine lv_iload_n hx hb dX13_readWhole_20 rfl (lv_at hl 1 rfl) ?_
    refine lv_iload_n hx hb dX13_readWhole_21 rfl (lv_at hl 2 rfl) ?_
    obtain ⟨z2, h2, h⟩ := ob_some h
    refine k_z (va_runS (As := [.int (gI M a0 12), .int x1, .int x2]) (rest := []) ⟨hx, hb, hml, hown, hts⟩ (c_X13_in (l := l) M (gI M a0 12) x1 x2 h2) (va_cwS 3 hts gX13_readWhole_X13_in rfl rfl rfl hdS_X13_in ⟨Nat.le_of_ble_eq_true rfl, Nat.le_of_ble_eq_true rfl⟩) (pS hP hK hD hT hG hS) rfl rfl hl.1 rfl (lv_room (Nat.le_of_ble_eq_true rfl)) dX13_readWhole_22 ⟨Nat.zero_le _, Nat.zero_le _⟩) hS (fun H locs hz2 hP hD hT hS => ?_)
    refine lv_if_ne (tgt := 33) hx hb dX13_readWhole_25 rfl (fun c3 => ?_) (fun c3 => ?_)
    · replace h := ite_f c3 h
      refine lv_aload_n hx hb dX13_readWhole_33 rfl (lv_at hl 0 rfl) ?_
      refine r_get (T := TX13) (v := .int (gI M a0 12)) hx hb hts in13 hown hK hP k0 (by decide) rfl 12 (by decide) (hts (.fieldLink RX13 84 "StoneWalkModel" "number" "I") (List.mem_of_getElem? (i := 2) (by decide +kernel))) rfl (t := 0) rfl rfl dX13_readWhole_34 ?_
      refine lv_istore_n (lv' := [(3, .int (gI M a0 12)), (0, .ref (ad a0)), (1, .int x1), (2, .int x2)]) hx hb dX13_readWhole_37 rfl hl (by decide) rfl (fun ls hl => ?_)
      refine lv_aload_n hx hb dX13_readWhole_38 rfl (lv_at hl 1 rfl) ?_
      obtain ⟨z4, h4, h⟩ := ob_some h
      refine k_v (va_runV (As := []) (rest := []) ⟨hx, hb, hml, hown, hts⟩ (c_X13_goesOn (l := l) M a0 k0 h4) (cwV 0 hts gX13_readWhole_X13_goesOn rfl rfl rfl hdV_X13_goesOn ⟨Nat.le_of_ble_eq_true rfl, Nat.le_of_ble_eq_true rfl⟩) (pV (T := TX13) hP hK hD hT hG hS k0 (by decide) rfl) rfl rfl hl.1 rfl (lv_room (Nat.le_of_ble_eq_true rfl)) dX13_readWhole_39 ⟨Nat.zero_le _, Nat.zero_le _⟩) hS (fun H locs hP hD hT hS => ?_)
      refine lv_iload_n hx hb dX13_readWhole_42 rfl (lv_at hl 0 rfl) ?_
      have hZ := Option.some.inj h
      have hZ1 := congrArg Prod.fst hZ
      have hZ2 := congrArg Prod.snd hZ
      exact r_iret hx hb hr hlocks hP hK hD hT hG hS hZ1 hZ2 dX13_readWhole_43
    · replace h := ite_t c3 h
      refine lv_aload_n hx hb dX13_readWhole_28 rfl (lv_at hl 0 rfl) ?_
      refine lv_iconst (v := 4) hx hb dX13_readWhole_29 rfl ?_
      obtain ⟨z5, h5, h⟩ := ob_some h
      refine k_v (va_runV (As := [.int 4]) (rest := []) ⟨hx, hb, hml, hown, hts⟩ (c_X13_wrong (l := l) M a0 4 k0 h5) (cwV 1 hts gX13_readWhole_X13_wrong rfl rfl rfl hdV_X13_wrong ⟨Nat.le_of_ble_eq_true rfl, Nat.le_of_ble_eq_true rfl⟩) (pV (T := TX13) hP hK hD hT hG hS k0 (by decide) rfl) rfl rfl hl.1 rfl (lv_room (Nat.le_of_ble_eq_true rfl)) dX13_readWhole_30 ⟨Nat.zero_le _, Nat.zero_le _⟩) hS (fun H locs hP hD hT hS => ?_)
      refine lv_aload_n hx hb dX13_readWhole_33 rfl (lv_at hl 0 rfl) ?_
      refine r_get (T := TX13) (v := .int (gI z5 a0 12)) hx hb hts in13 hown hK hP k0 (by decide) rfl 12 (by decide) (hts (.fieldLink RX13 84 "StoneWalkModel" "number" "I") (List.mem_of_getElem? (i := 2) (by decide +kernel))) rfl (t := 0) rfl rfl dX13_readWhole_34 ?_
      refine lv_istore_n (lv' := [(3, .int (gI z5 a0 12)), (0, .ref (ad a0)), (1, .int x1), (2, .int x2)]) hx hb dX13_readWhole_37 rfl hl (by decide) rfl (fun ls hl => ?_)
      refine lv_aload_n hx hb dX13_readWhole_38 rfl (lv_at hl 1 rfl) ?_
      obtain ⟨z6, h6, h⟩ := ob_some h
      refine k_v (va_runV (As := []) (rest := []) ⟨hx, hb, hml, hown, hts⟩ (c_X13_goesOn (l := l) z5 a0 k0 h6) (cwV 0 hts gX13_readWhole_X13_goesOn rfl rfl rfl hdV_X13_goesOn ⟨Nat.le_of_ble_eq_true rfl, Nat.le_of_ble_eq_true rfl⟩) (pV (T := TX13) hP hK hD hT hG hS k0 (by decide) rfl) rfl rfl hl.1 rfl (lv_room (Nat.le_of_ble_eq_true rfl)) dX13_readWhole_39 ⟨Nat.zero_le _, Nat.zero_le _⟩) hS (fun H locs hP hD hT hS => ?_)
      refine lv_iload_n hx hb dX13_readWhole_42 rfl (lv_at hl 0 rfl) ?_
      have hZ := Option.some.inj h
      have hZ1 := congrArg Prod.fst hZ
      have hZ2 := congrArg Prod.snd hZ
      exact r_iret hx hb hr hlocks hP hK hD hT hG hS hZ1 hZ2 dX13_readWhole_43
  · replace h := ite_f c1 h
    refine lv_aload_n hx hb dX13_readWhole_8 rfl (lv_at hl 0 rfl) ?_
    refine lv_iconst (v := 1) hx hb dX13_readWhole_9 rfl ?_
    obtain ⟨z7, h7, h⟩ := ob_some h
    refine k_v (va_runV (As := [.int 1]) (rest := []) ⟨hx, hb, hml, hown, hts⟩ (c_X13_wrong (l := l) M a0 1 k0 h7) (cwV 1 hts gX13_readWhole_X13_wrong rfl rfl rfl hdV_X13_wrong ⟨Nat.le_of_ble_eq_true rfl, Nat.le_of_ble_eq_true rfl⟩) (pV (T := TX13) hP hK hD hT hG hS k0 (by decide) rfl) rfl rfl hl.1 rfl (lv_room (Nat.le_of_ble_eq_true rfl)) dX13_readWhole_10 ⟨Nat.zero_le _, Nat.zero_le _⟩) hS (fun H locs hP hD hT hS => ?_)
    refine lv_goto (tgt := 33) hx hb dX13_readWhole_13 rfl ?_
    refine lv_aload_n hx hb dX13_readWhole_33 rfl (lv_at hl 0 rfl) ?_
    refine r_get (T := TX13) (v := .int (gI z7 a0 12)) hx hb hts in13 hown hK hP k0 (by decide) rfl 12 (by decide) (hts (.fieldLink RX13 84 "StoneWalkModel" "number" "I") (List.mem_of_getElem? (i := 2) (by decide +kernel))) rfl (t := 0) rfl rfl dX13_readWhole_34 ?_
    refine lv_istore_n (lv' := [(3, .int (gI z7 a0 12)), (0, .ref (ad a0)), (1, .int x1), (2, .int x2)]) hx hb dX13_readWhole_37 rfl hl (by decide) rfl (fun ls hl => ?_)
    refine lv_aload_n hx hb dX13_readWhole_38 rfl (lv_at hl 1 rfl) ?_
    obtain ⟨z8, h8, h⟩ := ob_some h
    refine k_v (va_runV (As := []) (rest := []) ⟨hx, hb, hml, hown, hts⟩ (c_X13_goesOn (l := l) z7 a0 k0 h8) (cwV 0 hts gX13_readWhole_X13_goesOn rfl rfl rfl hdV_X13_goesOn ⟨Nat.le_of_ble_eq_true rfl, Nat.le_of_ble_eq_true rfl⟩) (pV (T := TX13) hP hK hD hT hG hS k0 (by decide) rfl) rfl rfl hl.1 rfl (lv_room (Nat.le_of_ble_eq_true rfl)) dX13_readWhole_39 ⟨Nat.zero_le _, Nat.zero_le _⟩) hS (fun H locs hP hD hT hS => ?_)
    refine lv_iload_n hx hb dX13_readWhole_42 rfl (lv_at hl 0 rfl) ?_
    have hZ := Option.some.inj h
    have hZ1 := congrArg Prod.fst hZ
    have hZ2 := congrArg Prod.snd hZ
    exact r_iret hx hb hr hlocks hP hK hD hT hG hS hZ1 hZ2 dX13_readWhole_43
set_option maxHeartbeats 4000000 in
set_option maxRecDepth 100000 in
theorem c_X13_readPart {l : Launch} {D : va_G} {ad : Nat → Nat} {cy : Nat → ClassId} {A : Nat → Prop} {g : CG} {q : SE} (M : MM) (a0 : Nat) (i1 : Nat) (x2 : Int32) (x3 : Int32) (k0 : ok g a0 13 0) (k1 : i1 < nS) {Z : (Int32 × MM)} (h : f_X13_readPart M a0 i1 x2 x3 = some Z) : Met l yX13_readPart wsX13_readPart ({ frames := 7, cells := 0, slots := 0, locals := 150 }) (va_Pc [.ref (ad a0), .ref (q.2.1 i1), .int x2, .int x3] (Wd D ad cy A g q M)) (va_Qi (fun r u => r = Z.1 ∧ u = Z.2) (Wd D ad cy A g q) A) 0 0 A := by
  refine Met.ofW (cc := cX13_readPart) (maxL := 4) (ret := (some .int)) (by decide) rfl ?_
  intro p e s m args below meth c s₁ B hml hv
  obtain ⟨rfl, hP, hK, hD, hT, hG⟩ := hv
  have hx := B.exec
  have hb := B.bytes
  have hr := B.returns
  have hts := atoms_spec (ws := wsX13_readPart) B.pre
  have hown : s.vm.findClass RX13 = some m.cls := findClass_of_methodNamed B.named
  have hlocks := B.notSynchronized
  have hS : va_S A s.heap s.heap [] := va_S.rf
  have hl := lv_entry ([.ref (ad a0), .ref (q.2.1 i1), .int x2, .int x3]) (n := 4) (Nat.le_of_ble_eq_true rfl)
  rw [lg_entry_eq]
  generalize (lg_sl ([.ref (ad a0), .ref (q.2.1 i1), .int x2, .int x3]) ++ List.replicate (4 - (lg_sl ([.ref (ad a0), .ref (q.2.1 i1), .int x2, .int x3])).length) Slot.unset).toArray = ls at hl ⊢
  have hl : lv_has ls 4 [(0, .ref (ad a0)), (1, .ref (q.2.1 i1)), (2, .int x2), (3, .int x3)] := hl
  unfold f_X13_readPart at h
  refine lv_aload_n hx hb dX13_readPart_0 rfl (lv_at hl 0 rfl) ?_
  refine lv_aload_n hx hb dX13_readPart_1 rfl (lv_at hl 1 rfl) ?_
  obtain ⟨z1, h1, h⟩ := ob_some h
  refine k_v (va_runV (As := [.ref (q.2.1 i1)]) (rest := []) ⟨hx, hb, hml, hown, hts⟩ (c_X13_needs (l := l) M a0 i1 k0 k1 h1) (cwV 1 hts gX13_readPart_X13_needs rfl rfl rfl hdV_X13_needs ⟨Nat.le_of_ble_eq_true rfl, Nat.le_of_ble_eq_true rfl⟩) (pV (T := TX13) hP hK hD hT hG hS k0 (by decide) rfl) rfl rfl hl.1 rfl (lv_room (Nat.le_of_ble_eq_true rfl)) dX13_readPart_2 ⟨Nat.zero_le _, Nat.zero_le _⟩) hS (fun H locs hP hD hT hS => ?_)
  refine lv_aload_n hx hb dX13_readPart_5 rfl (lv_at hl 0 rfl) ?_
  refine lv_iload_n hx hb dX13_readPart_6 rfl (lv_at hl 2 rfl) ?_
  refine lv_iload_n hx hb dX13_readPart_7 rfl (lv_at hl 3 rfl) ?_
  obtain ⟨z2, h2, h⟩ := ob_some h
  refine k_i (va_runV (As := [.int x2, .int x3]) (rest := []) ⟨hx, hb, hml, hown, hts⟩ (c_X13_readWhole (l := l) z1 a0 x2 x3 k0 h2) (cwV 2 hts gX13_readPart_X13_readWhole rfl rfl rfl hdV_X13_readWhole ⟨Nat.le_of_ble_eq_true rfl, Nat.le_of_ble_eq_true rfl⟩) (pV (T := TX13) hP hK hD hT hG hS k0 (by decide) rfl) rfl rfl hl.1 rfl (lv_room (Nat.le_of_ble_eq_true rfl)) dX13_readPart_8 ⟨Nat.zero_le _, Nat.zero_le _⟩) hS (fun H locs hP hD hT hS => ?_)
  have hZ := Option.some.inj h
  have hZ1 := congrArg Prod.fst hZ
  have hZ2 := congrArg Prod.snd hZ
  exact r_iret hx hb hr hlocks hP hK hD hT hG hS hZ1 hZ2 dX13_readPart_11
set_option maxHeartbeats 4000000 in
set_option maxRecDepth 100000 in
theorem c_X13_isName {l : Launch} {D : va_G} {ad : Nat → Nat} {cy : Nat → ClassId} {A : Nat → Prop} {g : CG} {q : SE} (M : MM) (a0 : Nat) (k0 : ok g a0 13 0) {Z : Int32} (h : f_X13_isName M a0 = some Z) : Met l yX13_isName wsX13_isName ({ frames := 6, cells := 0, slots := 0, locals := 129 }) (va_Pc [.ref (ad a0)] (Wd D ad cy A g q M)) (va_Qi (fun r u => r = Z ∧ u = M ∧ zb r) (Wd D ad cy A g q) A) 0 0 A := by
  refine Met.ofW (cc := cX13_isName) (maxL := 1) (ret := (some .boolean)) (by decide) rfl ?_
  intro p e s m args below meth c s₁ B hml hv
  obtain ⟨rfl, hP, hK, hD, hT, hG⟩ := hv
  have hx := B.exec
  have hb := B.bytes
  have hr := B.returns
  have hts := atoms_spec (ws := wsX13_isName) B.pre
  have hown : s.vm.findClass RX13 = some m.cls := findClass_of_methodNamed B.named
  have hlocks := B.notSynchronized
  have in13 : ∀ w ∈ u_ws RX13 TX13 29, w ∈ wsX13_isName := fun w h => List.mem_cons_of_mem _ (List.mem_append_right _ h)
  have hS : va_S A s.heap s.heap [] := va_S.rf
  have hl := lv_entry ([.ref (ad a0)]) (n := 1) (Nat.le_of_ble_eq_true rfl)
  rw [lg_entry_eq]
  generalize (lg_sl ([.ref (ad a0)]) ++ List.replicate (1 - (lg_sl ([.ref (ad a0)])).length) Slot.unset).toArray = ls at hl ⊢
  have hl : lv_has ls 1 [(0, .ref (ad a0))] := hl
  unfold f_X13_isName at h
  refine lv_aload_n hx hb dX13_isName_0 rfl (lv_at hl 0 rfl) ?_
  refine r_get (T := TX13) (v := .int (gI M a0 9)) hx hb hts in13 hown hK hP k0 (by decide) rfl 9 (by decide) (hts (.fieldLink RX13 58 "StoneWalkModel" "sort" "I") (List.mem_of_getElem? (i := 1) (by decide +kernel))) rfl (t := 0) rfl rfl dX13_isName_1 ?_
  refine lv_iconst (v := 2) hx hb dX13_isName_4 rfl ?_
  refine lv_icmp_ne (tgt := 71) hx hb dX13_isName_5 rfl (fun c1 => ?_) (fun c1 => ?_)
  · replace h := ite_f c1 h
    refine lv_iconst (v := 0) hx hb dX13_isName_71 rfl ?_
    exact r_zret hx hb hr hlocks hP hK hD hT hG hS zb_0 (Option.some.inj h) rfl dX13_isName_72
  · replace h := ite_t c1 h
    refine lv_aload_n hx hb dX13_isName_8 rfl (lv_at hl 0 rfl) ?_
    refine r_ldcS (tx := "way") (i := 30) hx hb hG hown (by decide +kernel) dX13_isName_9 ?_
    obtain ⟨z2, h2, h⟩ := ob_some h
    refine k_z (va_runV (As := [.ref (q.2.1 30)]) (rest := []) ⟨hx, hb, hml, hown, hts⟩ (c_X13_isWord (l := l) M a0 30 k0 (by decide) h2) (cwV 1 hts gX13_isName_X13_isWord rfl rfl rfl hdV_X13_isWord ⟨Nat.le_of_ble_eq_true rfl, Nat.le_of_ble_eq_true rfl⟩) (pV (T := TX13) hP hK hD hT hG hS k0 (by decide) rfl) rfl rfl hl.1 rfl (lv_room (Nat.le_of_ble_eq_true rfl)) dX13_isName_11 ⟨Nat.zero_le _, Nat.zero_le _⟩) hS (fun H locs hz2 hP hD hT hS => ?_)
    refine lv_if_ne (tgt := 71) hx hb dX13_isName_14 rfl (fun c3 => ?_) (fun c3 => ?_)
    · replace h := ite_f c3 h
      refine lv_iconst (v := 0) hx hb dX13_isName_71 rfl ?_
      exact r_zret hx hb hr hlocks hP hK hD hT hG hS zb_0 (Option.some.inj h) rfl dX13_isName_72
    · replace h := ite_t c3 h
      refine lv_aload_n hx hb dX13_isName_17 rfl (lv_at hl 0 rfl) ?_
      refine r_ldcS (tx := "road") (i := 31) hx hb hG hown (by decide +kernel) dX13_isName_18 ?_
      obtain ⟨z4, h4, h⟩ := ob_some h
      refine k_z (va_runV (As := [.ref (q.2.1 31)]) (rest := []) ⟨hx, hb, hml, hown, hts⟩ (c_X13_isWord (l := l) M a0 31 k0 (by decide) h4) (cwV 1 hts gX13_isName_X13_isWord rfl rfl rfl hdV_X13_isWord ⟨Nat.le_of_ble_eq_true rfl, Nat.le_of_ble_eq_true rfl⟩) (pV (T := TX13) hP hK hD hT hG hS k0 (by decide) rfl) rfl rfl hl.1 rfl (lv_room (Nat.le_of_ble_eq_true rfl)) dX13_isName_20 ⟨Nat.zero_le _, Nat.zero_le _⟩) hS (fun H locs hz4 hP hD hT hS => ?_)
      refine lv_if_ne (tgt := 71) hx hb dX13_isName_23 rfl (fun c5 => ?_) (fun c5 => ?_)
      · replace h := ite_f c5 h
        refine lv_iconst (v := 0) hx hb dX13_isName_71 rfl ?_
        exact r_zret hx hb hr hlocks hP hK hD hT hG hS zb_0 (Option.some.inj h) rfl dX13_isName_72
      · replace h := ite_t c5 h
        refine lv_aload_n hx hb dX13_isName_26 rfl (lv_at hl 0 rfl) ?_
        refine r_ldcS (tx := "statue") (i := 32) hx hb hG hown (by decide +kernel) dX13_isName_27 ?_
        obtain ⟨z6, h6, h⟩ := ob_some h
        refine k_z (va_runV (As := [.ref (q.2.1 32)]) (rest := []) ⟨hx, hb, hml, hown, hts⟩ (c_X13_isWord (l := l) M a0 32 k0 (by decide) h6) (cwV 1 hts gX13_isName_X13_isWord rfl rfl rfl hdV_X13_isWord ⟨Nat.le_of_ble_eq_true rfl, Nat.le_of_ble_eq_true rfl⟩) (pV (T := TX13) hP hK hD hT hG hS k0 (by decide) rfl) rfl rfl hl.1 rfl (lv_room (Nat.le_of_ble_eq_true rfl)) dX13_isName_29 ⟨Nat.zero_le _, Nat.zero_le _⟩) hS (fun H locs hz6 hP hD hT hS => ?_)
        refine lv_if_ne (tgt := 71) hx hb dX13_isName_32 rfl (fun c7 => ?_) (fun c7 => ?_)
        · replace h := ite_f c7 h
          refine lv_iconst (v := 0) hx hb dX13_isName_71 rfl ?_
          exact r_zret hx hb hr hlocks hP hK hD hT hG hS zb_0 (Option.some.inj h) rfl dX13_isName_72
        · replace h := ite_t c7 h
          refine lv_aload_n hx hb dX13_isName_35 rfl (lv_at hl 0 rfl) ?_
          refine r_ldcS (tx := "trial") (i := 33) hx hb hG hown (by decide +kernel) dX13_isName_36 ?_
          obtain ⟨z8, h8, h⟩ := ob_some h
          refine k_z (va_runV (As := [.ref (q.2.1 33)]) (rest := []) ⟨hx, hb, hml, hown, hts⟩ (c_X13_isWord (l := l) M a0 33 k0 (by decide) h8) (cwV 1 hts gX13_isName_X13_isWord rfl rfl rfl hdV_X13_isWord ⟨Nat.le_of_ble_eq_true rfl, Nat.le_of_ble_eq_true rfl⟩) (pV (T := TX13) hP hK hD hT hG hS k0 (by decide) rfl) rfl rfl hl.1 rfl (lv_room (Nat.le_of_ble_eq_true rfl)) dX13_isName_38 ⟨Nat.zero_le _, Nat.zero_le _⟩) hS (fun H locs hz8 hP hD hT hS => ?_)
          refine lv_if_ne (tgt := 71) hx hb dX13_isName_41 rfl (fun c9 => ?_) (fun c9 => ?_)
          · replace h := ite_f c9 h
            refine lv_iconst (v := 0) hx hb dX13_isName_71 rfl ?_
            exact r_zret hx hb hr hlocks hP hK hD hT hG hS zb_0 (Option.some.inj h) rfl dX13_isName_72
          · replace h := ite_t c9 h
            refine lv_aload_n hx hb dX13_isName_44 rfl (lv_at hl 0 rfl) ?_
            refine r_ldcS (tx := "land") (i := 34) hx hb hG hown (by decide +kernel) dX13_isName_45 ?_
            obtain ⟨z10, h10, h⟩ := ob_some h
            refine k_z (va_runV (As := [.ref (q.2.1 34)]) (rest := []) ⟨hx, hb, hml, hown, hts⟩ (c_X13_isWord (l := l) M a0 34 k0 (by decide) h10) (cwV 1 hts gX13_isName_X13_isWord rfl rfl rfl hdV_X13_isWord ⟨Nat.le_of_ble_eq_true rfl, Nat.le_of_ble_eq_true rfl⟩) (pV (T := TX13) hP hK hD hT hG hS k0 (by decide) rfl) rfl rfl hl.1 rfl (lv_room (Nat.le_of_ble_eq_true rfl)) dX13_isName_47 ⟨Nat.zero_le _, Nat.zero_le _⟩) hS (fun H locs hz10 hP hD hT hS => ?_)
            refine lv_if_ne (tgt := 71) hx hb dX13_isName_50 rfl (fun c11 => ?_) (fun c11 => ?_)
            · replace h := ite_f c11 h
              refine lv_iconst (v := 0) hx hb dX13_isName_71 rfl ?_
              exact r_zret hx hb hr hlocks hP hK hD hT hG hS zb_0 (Option.some.inj h) rfl dX13_isName_72
            · replace h := ite_t c11 h
              refine lv_aload_n hx hb dX13_isName_53 rfl (lv_at hl 0 rfl) ?_
              refine r_ldcS (tx := "fields") (i := 35) hx hb hG hown (by decide +kernel) dX13_isName_54 ?_
              obtain ⟨z12, h12, h⟩ := ob_some h
              refine k_z (va_runV (As := [.ref (q.2.1 35)]) (rest := []) ⟨hx, hb, hml, hown, hts⟩ (c_X13_isWord (l := l) M a0 35 k0 (by decide) h12) (cwV 1 hts gX13_isName_X13_isWord rfl rfl rfl hdV_X13_isWord ⟨Nat.le_of_ble_eq_true rfl, Nat.le_of_ble_eq_true rfl⟩) (pV (T := TX13) hP hK hD hT hG hS k0 (by decide) rfl) rfl rfl hl.1 rfl (lv_room (Nat.le_of_ble_eq_true rfl)) dX13_isName_56 ⟨Nat.zero_le _, Nat.zero_le _⟩) hS (fun H locs hz12 hP hD hT hS => ?_)
              refine lv_if_ne (tgt := 71) hx hb dX13_isName_59 rfl (fun c13 => ?_) (fun c13 => ?_)
              · replace h := ite_f c13 h
                refine lv_iconst (v := 0) hx hb dX13_isName_71 rfl ?_
                exact r_zret hx hb hr hlocks hP hK hD hT hG hS zb_0 (Option.some.inj h) rfl dX13_isName_72
              · replace h := ite_t c13 h
                refine lv_aload_n hx hb dX13_isName_62 rfl (lv_at hl 0 rfl) ?_
                refine r_ldcS (tx := "houses") (i := 36) hx hb hG hown (by decide +kernel) dX13_isName_63 ?_
                obtain ⟨z14, h14, h⟩ := ob_some h
                refine k_z (va_runV (As := [.ref (q.2.1 36)]) (rest := []) ⟨hx, hb, hml, hown, hts⟩ (c_X13_isWord (l := l) M a0 36 k0 (by decide) h14) (cwV 1 hts gX13_isName_X13_isWord rfl rfl rfl hdV_X13_isWord ⟨Nat.le_of_ble_eq_true rfl, Nat.le_of_ble_eq_true rfl⟩) (pV (T := TX13) hP hK hD hT hG hS k0 (by decide) rfl) rfl rfl hl.1 rfl (lv_room (Nat.le_of_ble_eq_true rfl)) dX13_isName_65 ⟨Nat.zero_le _, Nat.zero_le _⟩) hS (fun H locs hz14 hP hD hT hS => ?_)
                refine lv_if_eq (tgt := 73) hx hb dX13_isName_68 rfl (fun c15 => ?_) (fun c15 => ?_)
                · replace h := ite_t c15 h
                  refine lv_aload_n hx hb dX13_isName_73 rfl (lv_at hl 0 rfl) ?_
                  refine r_ldcS (tx := "story") (i := 37) hx hb hG hown (by decide +kernel) dX13_isName_74 ?_
                  obtain ⟨z16, h16, h⟩ := ob_some h
                  refine k_z (va_runV (As := [.ref (q.2.1 37)]) (rest := []) ⟨hx, hb, hml, hown, hts⟩ (c_X13_isWord (l := l) M a0 37 k0 (by decide) h16) (cwV 1 hts gX13_isName_X13_isWord rfl rfl rfl hdV_X13_isWord ⟨Nat.le_of_ble_eq_true rfl, Nat.le_of_ble_eq_true rfl⟩) (pV (T := TX13) hP hK hD hT hG hS k0 (by decide) rfl) rfl rfl hl.1 rfl (lv_room (Nat.le_of_ble_eq_true rfl)) dX13_isName_76 ⟨Nat.zero_le _, Nat.zero_le _⟩) hS (fun H locs hz16 hP hD hT hS => ?_)
                  refine lv_if_ne (tgt := 131) hx hb dX13_isName_79 rfl (fun c17 => ?_) (fun c17 => ?_)
                  · replace h := ite_f c17 h
                    refine lv_iconst (v := 0) hx hb dX13_isName_131 rfl ?_
                    exact r_zret hx hb hr hlocks hP hK hD hT hG hS zb_0 (Option.some.inj h) rfl dX13_isName_132
                  · replace h := ite_t c17 h
                    refine lv_aload_n hx hb dX13_isName_82 rfl (lv_at hl 0 rfl) ?_
                    refine r_ldcS (tx := "teller") (i := 38) hx hb hG hown (by decide +kernel) dX13_isName_83 ?_
                    obtain ⟨z18, h18, h⟩ := ob_some h
                    refine k_z (va_runV (As := [.ref (q.2.1 38)]) (rest := []) ⟨hx, hb, hml, hown, hts⟩ (c_X13_isWord (l := l) M a0 38 k0 (by decide) h18) (cwV 1 hts gX13_isName_X13_isWord rfl rfl rfl hdV_X13_isWord ⟨Nat.le_of_ble_eq_true rfl, Nat.le_of_ble_eq_true rfl⟩) (pV (T := TX13) hP hK hD hT hG hS k0 (by decide) rfl) rfl rfl hl.1 rfl (lv_room (Nat.le_of_ble_eq_true rfl)) dX13_isName_85 ⟨Nat.zero_le _, Nat.zero_le _⟩) hS (fun H locs hz18 hP hD hT hS => ?_)
                    refine lv_if_ne (tgt := 131) hx hb dX13_isName_88 rfl (fun c19 => ?_) (fun c19 => ?_)
                    · replace h := ite_f c19 h
                      refine lv_iconst (v := 0) hx hb dX13_isName_131 rfl ?_
                      exact r_zret hx hb hr hlocks hP hK hD hT hG hS zb_0 (Option.some.inj h) rfl dX13_isName_132
                    · replace h := ite_t c19 h
                      refine lv_aload_n hx hb dX13_isName_91 rfl (lv_at hl 0 rfl) ?_
                      refine r_ldcS (tx := "try") (i := 39) hx hb hG hown (by decide +kernel) dX13_isName_92 ?_
                      obtain ⟨z20, h20, h⟩ := ob_some h
                      refine k_z (va_runV (As := [.ref (q.2.1 39)]) (rest := []) ⟨hx, hb, hml, hown, hts⟩ (c_X13_isWord (l := l) M a0 39 k0 (by decide) h20) (cwV 1 hts gX13_isName_X13_isWord rfl rfl rfl hdV_X13_isWord ⟨Nat.le_of_ble_eq_true rfl, Nat.le_of_ble_eq_true rfl⟩) (pV (T := TX13) hP hK hD hT hG hS k0 (by decide) rfl) rfl rfl hl.1 rfl (lv_room (Nat.le_of_ble_eq_true rfl)) dX13_isName_94 ⟨Nat.zero_le _, Nat.zero_le _⟩) hS (fun H locs hz20 hP hD hT hS => ?_)
                      refine lv_if_ne (tgt := 131) hx hb dX13_isName_97 rfl (fun c21 => ?_) (fun c21 => ?_)
                      · replace h := ite_f c21 h
                        refine lv_iconst (v := 0) hx hb dX13_isName_131 rfl ?_
                        exact r_zret hx hb hr hlocks hP hK hD hT hG hS zb_0 (Option.some.inj h) rfl dX13_isName_132
                      · replace h := ite_t c21 h
                        refine lv_aload_n hx hb dX13_isName_100 rfl (lv_at hl 0 rfl) ?_
                        refine r_ldcS (tx := "up") (i := 40) hx hb hG hown (by decide +kernel) dX13_isName_101 ?_
                        obtain ⟨z22, h22, h⟩ := ob_some h
                        refine k_z (va_runV (As := [.ref (q.2.1 40)]) (rest := []) ⟨hx, hb, hml, hown, hts⟩ (c_X13_isWord (l := l) M a0 40 k0 (by decide) h22) (cwV 1 hts gX13_isName_X13_isWord rfl rfl rfl hdV_X13_isWord ⟨Nat.le_of_ble_eq_true rfl, Nat.le_of_ble_eq_true rfl⟩) (pV (T := TX13) hP hK hD hT hG hS k0 (by decide) rfl) rfl rfl hl.1 rfl (lv_room (Nat.le_of_ble_eq_true rfl)) dX13_isName_103 ⟨Nat.zero_le _, Nat.zero_le _⟩) hS (fun H locs hz22 hP hD hT hS => ?_)
                        refine lv_if_ne (tgt := 131) hx hb dX13_isName_106 rfl (fun c23 => ?_) (fun c23 => ?_)
                        · replace h := ite_f c23 h
                          refine lv_iconst (v := 0) hx hb dX13_isName_131 rfl ?_
                          exact r_zret hx hb hr hlocks hP hK hD hT hG hS zb_0 (Option.some.inj h) rfl dX13_isName_132
                        · replace h := ite_t c23 h
                          refine lv_aload_n hx hb dX13_isName_109 rfl (lv_at hl 0 rfl) ?_
                          refine r_ldcS (tx := "down") (i := 41) hx hb hG hown (by decide +kernel) dX13_isName_110 ?_
                          obtain ⟨z24, h24, h⟩ := ob_some h
                          refine k_z (va_runV (As := [.ref (q.2.1 41)]) (rest := []) ⟨hx, hb, hml, hown, hts⟩ (c_X13_isWord (l := l) M a0 41 k0 (by decide) h24) (cwV 1 hts gX13_isName_X13_isWord rfl rfl rfl hdV_X13_isWord ⟨Nat.le_of_ble_eq_true rfl, Nat.le_of_ble_eq_true rfl⟩) (pV (T := TX13) hP hK hD hT hG hS k0 (by decide) rfl) rfl rfl hl.1 rfl (lv_room (Nat.le_of_ble_eq_true rfl)) dX13_isName_112 ⟨Nat.zero_le _, Nat.zero_le _⟩) hS (fun H locs hz24 hP hD hT hS => ?_)
                          refine lv_if_ne (tgt := 131) hx hb dX13_isName_115 rfl (fun c25 => ?_) (fun c25 => ?_)
                          · replace h := ite_f c25 h
                            refine lv_iconst (v := 0) hx hb dX13_isName_131 rfl ?_
                            exact r_zret hx hb hr hlocks hP hK hD hT hG hS zb_0 (Option.some.inj h) rfl dX13_isName_132
                          · replace h := ite_t c25 h
                            refine lv_aload_n hx hb dX13_isName_118 rfl (lv_at hl 0 rfl) ?_
                            refine r_ldcS (tx := "stranger") (i := 23) hx hb hG hown (by decide +kernel) dX13_isName_119 ?_
                            obtain ⟨z26, h26, h⟩ := ob_some h
                            refine k_z (va_runV (As := [.ref (q.2.1 23)]) (rest := []) ⟨hx, hb, hml, hown, hts⟩ (c_X13_isWord (l := l) M a0 23 k0 (by decide) h26) (cwV 1 hts gX13_isName_X13_isWord rfl rfl rfl hdV_X13_isWord ⟨Nat.le_of_ble_eq_true rfl, Nat.le_of_ble_eq_true rfl⟩) (pV (T := TX13) hP hK hD hT hG hS k0 (by decide) rfl) rfl rfl hl.1 rfl (lv_room (Nat.le_of_ble_eq_true rfl)) dX13_isName_121 ⟨Nat.zero_le _, Nat.zero_le _⟩) hS (fun H locs hz26 hP hD hT hS => ?_)
                            refine lv_if_ne (tgt := 131) hx hb dX13_isName_124 rfl (fun c27 => ?_) (fun c27 => ?_)
                            · replace h := ite_f c27 h
                              refine lv_iconst (v := 0) hx hb dX13_isName_131 rfl ?_
                              exact r_zret hx hb hr hlocks hP hK hD hT hG hS zb_0 (Option.some.inj h) rfl dX13_isName_132
                            · replace h := ite_t c27 h
                              refine lv_iconst (v := 1) hx hb dX13_isName_127 rfl ?_
                              refine lv_goto (tgt := 132) hx hb dX13_isName_128 rfl ?_
                              exact r_zret hx hb hr hlocks hP hK hD hT hG hS zb_1 (Option.some.inj h) rfl dX13_isName_132
                · replace h := ite_f c15 h
                  refine lv_iconst (v := 0) hx hb dX13_isName_71 rfl ?_
                  exact r_zret hx hb hr hlocks hP hK hD hT hG hS zb_0 (Option.some.inj h) rfl dX13_isName_72
set_option maxHeartbeats 4000000 in
set_option maxRecDepth 100000 in
theorem c_X13_begins {l : Launch} {D : va_G} {ad : Nat → Nat} {cy : Nat → ClassId} {A : Nat → Prop} {g : CG} {q : SE} (M : MM) (a0 : Nat) (x1 : Int32) (x2 : Int32) (k0 : ok g a0 13 0) {Z : MM} (h : f_X13_begins M a0 x1 x2 = some Z) : Met l yX13_begins wsX13_begins ({ frames := 2, cells := 0, slots := 0, locals := 43 }) (va_Pc [.ref (ad a0), .int x1, .int x2] (Wd D ad cy A g q M)) (va_Qv (fun u => u = Z) (Wd D ad cy A g q) A) 0 0 A := by
  refine Met.ofW (cc := cX13_begins) (maxL := 3) (ret := none) (by decide) rfl ?_
  intro p e s m args below meth c s₁ B hml hv
  obtain ⟨rfl, hP, hK, hD, hT, hG⟩ := hv
  have hx := B.exec
  have hb := B.bytes
  have hr := B.returns
  have hts := atoms_spec (ws := wsX13_begins) B.pre
  have hown : s.vm.findClass RX13 = some m.cls := findClass_of_methodNamed B.named
  have hlocks := B.notSynchronized
  have hS : va_S A s.heap s.heap [] := va_S.rf
  have hl := lv_entry ([.ref (ad a0), .int x1, .int x2]) (n := 3) (Nat.le_of_ble_eq_true rfl)
  rw [lg_entry_eq]
  generalize (lg_sl ([.ref (ad a0), .int x1, .int x2]) ++ List.replicate (3 - (lg_sl ([.ref (ad a0), .int x1, .int x2])).length) Slot.unset).toArray = ls at hl ⊢
  have hl : lv_has ls 3 [(0, .ref (ad a0)), (1, .int x1), (2, .int x2)] := hl
  unfold f_X13_begins at h
  refine lv_iload_n hx hb dX13_begins_0 rfl (lv_at hl 1 rfl) ?_
  refine lv_iload_n hx hb dX13_begins_1 rfl (lv_at hl 2 rfl) ?_
  refine lv_icmp_ne (tgt := 10) hx hb dX13_begins_2 rfl (fun c1 => ?_) (fun c1 => ?_)
  · replace h := ite_f c1 h
    refine lv_aload_n hx hb dX13_begins_10 rfl (lv_at hl 0 rfl) ?_
    obtain ⟨z2, h2, h⟩ := ob_some h
    refine k_v (va_runV (As := []) (rest := []) ⟨hx, hb, hml, hown, hts⟩ (c_X13_goesOn (l := l) M a0 k0 h2) (cwV 0 hts gX13_begins_X13_goesOn rfl rfl rfl hdV_X13_goesOn ⟨Nat.le_of_ble_eq_true rfl, Nat.le_of_ble_eq_true rfl⟩) (pV (T := TX13) hP hK hD hT hG hS k0 (by decide) rfl) rfl rfl hl.1 rfl (lv_room (Nat.le_of_ble_eq_true rfl)) dX13_begins_11 ⟨Nat.zero_le _, Nat.zero_le _⟩) hS (fun H locs hP hD hT hS => ?_)
    exact r_vret hx hb hr hlocks hP hK hD hT hG hS (Option.some.inj h) dX13_begins_14
  · replace h := ite_t c1 h
    refine lv_aload_n hx hb dX13_begins_5 rfl (lv_at hl 0 rfl) ?_
    refine lv_iconst (v := 5) hx hb dX13_begins_6 rfl ?_
    obtain ⟨z3, h3, h⟩ := ob_some h
    refine k_v (va_runV (As := [.int 5]) (rest := []) ⟨hx, hb, hml, hown, hts⟩ (c_X13_wrong (l := l) M a0 5 k0 h3) (cwV 1 hts gX13_begins_X13_wrong rfl rfl rfl hdV_X13_wrong ⟨Nat.le_of_ble_eq_true rfl, Nat.le_of_ble_eq_true rfl⟩) (pV (T := TX13) hP hK hD hT hG hS k0 (by decide) rfl) rfl rfl hl.1 rfl (lv_room (Nat.le_of_ble_eq_true rfl)) dX13_begins_7 ⟨Nat.zero_le _, Nat.zero_le _⟩) hS (fun H locs hP hD hT hS => ?_)
    refine lv_aload_n hx hb dX13_begins_10 rfl (lv_at hl 0 rfl) ?_
    obtain ⟨z4, h4, h⟩ := ob_some h
    refine k_v (va_runV (As := []) (rest := []) ⟨hx, hb, hml, hown, hts⟩ (c_X13_goesOn (l := l) z3 a0 k0 h4) (cwV 0 hts gX13_begins_X13_goesOn rfl rfl rfl hdV_X13_goesOn ⟨Nat.le_of_ble_eq_true rfl, Nat.le_of_ble_eq_true rfl⟩) (pV (T := TX13) hP hK hD hT hG hS k0 (by decide) rfl) rfl rfl hl.1 rfl (lv_room (Nat.le_of_ble_eq_true rfl)) dX13_begins_11 ⟨Nat.zero_le _, Nat.zero_le _⟩) hS (fun H locs hP hD hT hS => ?_)
    exact r_vret hx hb hr hlocks hP hK hD hT hG hS (Option.some.inj h) dX13_begins_14
