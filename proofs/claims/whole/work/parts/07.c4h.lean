set_option maxHeartbeats 4000000 in
set_option maxRecDepth 100000 in
theorem c_X13_readHouses {l : Launch} {D : va_G} {ad : Nat → Nat} {cy : Nat → ClassId} {A : Nat → Prop} {g : CG} {q : SE} (M : MM) (a0 : Nat) (k0 : ok g a0 13 0) {Z : MM} (h : f_X13_readHouses M a0 = some Z) : Met l yX13_readHouses wsX13_readHouses ({ frames := 8, cells := 0, slots := 0, locals := 173 }) (va_Pc [.ref (ad a0)] (Wd D ad cy A g q M)) (va_Qv (fun u => u = Z) (Wd D ad cy A g q) A) 0 0 A := by
  refine Met.ofW (cc := cX13_readHouses) (maxL := 2) (ret := none) (by decide) rfl ?_
  intro p e s m args below meth c s₁ B hml hv
  obtain ⟨rfl, hP, hK, hD, hT, hG⟩ := hv
  have hx := B.exec
  have hb := B.bytes
  have hr := B.returns
  have hts := atoms_spec (ws := wsX13_readHouses) B.pre
  have hown : s.vm.findClass RX13 = some m.cls := findClass_of_methodNamed B.named
  have hlocks := B.notSynchronized
  have in12 : ∀ w ∈ u_ws RX12 TX12 48, w ∈ wsX13_readHouses := fun w h => List.mem_cons_of_mem _ (List.mem_append_right _ h)
  have in13 : ∀ w ∈ u_ws RX13 TX13 29, w ∈ wsX13_readHouses := fun w h => List.mem_cons_of_mem _ (List.mem_append_left _ (List.mem_append_right _ h))
  have hS : va_S A s.heap s.heap [] := va_S.rf
  have hl := lv_entry ([.ref (ad a0)]) (n := 2) (Nat.le_of_ble_eq_true rfl)
  rw [lg_entry_eq]
  generalize (lg_sl ([.ref (ad a0)]) ++ List.replicate (2 - (lg_sl ([.ref (ad a0)])).length) Slot.unset).toArray = ls at hl ⊢
  have hl : lv_has ls 2 [(0, .ref (ad a0))] := hl
  unfold f_X13_readHouses at h
  refine lv_aload_n hx hb dX13_readHouses_0 rfl (lv_at hl 0 rfl) ?_
  rcases hN1 : gR M a0 4 with _ | b1
  · replace h := oc_n hN1 h
    refine r_get (T := TX13) (v := .null) hx hb hts in13 hown hK hP k0 (by decide) rfl 4 (by decide) (hts (.fieldLink RX13 150 "StoneWalkModel" "read" "LStoneWalkModel$Island;") (List.mem_of_getElem? (i := 1) (by decide +kernel))) rfl (t := 2) rfl (by show va_rf _ = _; rw [hN1]; rfl) dX13_readHouses_1 ?_
    exact absurd h (by simp)
  · replace h := oc_s hN1 h
    have kb1 := hT.f k0 (k := 4) (t := 12) (n := 0) rfl hN1
    refine r_get (T := TX13) (v := .ref (ad b1)) hx hb hts in13 hown hK hP k0 (by decide) rfl 4 (by decide) (hts (.fieldLink RX13 150 "StoneWalkModel" "read" "LStoneWalkModel$Island;") (List.mem_of_getElem? (i := 1) (by decide +kernel))) rfl (t := 2) rfl (by show va_rf _ = _; rw [hN1]; rfl) dX13_readHouses_1 ?_
    refine r_getN (T := TX12) (v := .int (gI M b1 32)) hx hb hts in12 hown hK hP kb1 (by decide) rfl 32 (by decide) (hG.2.2.1 ("StoneWalkModel", 359, "StoneWalkModel$Island", "houses", "I", "StoneWalkModel") (List.mem_of_getElem? (i := 33) rfl)) rfl (t := 0) rfl rfl dX13_readHouses_4 ?_
    refine lv_iconst (v := (-1)) hx hb dX13_readHouses_7 rfl ?_
    refine lv_icmp_eq (tgt := 16) hx hb dX13_readHouses_8 rfl (fun c2 => ?_) (fun c2 => ?_)
    · replace h := ite_t c2 h
      refine lv_aload_n hx hb dX13_readHouses_16 rfl (lv_at hl 0 rfl) ?_
      obtain ⟨z3, h3, h⟩ := ob_some h
      refine k_v (va_runV (As := []) (rest := []) ⟨hx, hb, hml, hown, hts⟩ (c_X13_goesOn (l := l) M a0 k0 h3) (cwV 0 hts gX13_readHouses_X13_goesOn rfl rfl rfl hdV_X13_goesOn ⟨Nat.le_of_ble_eq_true rfl, Nat.le_of_ble_eq_true rfl⟩) (pV (T := TX13) hP hK hD hT hG hS k0 (by decide) rfl) rfl rfl hl.1 rfl (lv_room (Nat.le_of_ble_eq_true rfl)) dX13_readHouses_17 ⟨Nat.zero_le _, Nat.zero_le _⟩) hS (fun H locs hP hD hT hS => ?_)
      refine lv_aload_n hx hb dX13_readHouses_20 rfl (lv_at hl 0 rfl) ?_
      refine lv_iconst (v := 0) hx hb dX13_readHouses_21 rfl ?_
      refine lv_sipush (v := 999) hx hb dX13_readHouses_22 rfl ?_
      obtain ⟨z4, h4, h⟩ := ob_some h
      refine k_i (va_runV (As := [.int 0, .int 999]) (rest := []) ⟨hx, hb, hml, hown, hts⟩ (c_X13_readWhole (l := l) z3 a0 0 999 k0 h4) (cwV 2 hts gX13_readHouses_X13_readWhole rfl rfl rfl hdV_X13_readWhole ⟨Nat.le_of_ble_eq_true rfl, Nat.le_of_ble_eq_true rfl⟩) (pV (T := TX13) hP hK hD hT hG hS k0 (by decide) rfl) rfl rfl hl.1 rfl (lv_room (Nat.le_of_ble_eq_true rfl)) dX13_readHouses_25 ⟨Nat.zero_le _, Nat.zero_le _⟩) hS (fun H locs hP hD hT hS => ?_)
      refine lv_istore_n (lv' := [(1, .int z4.1), (0, .ref (ad a0))]) hx hb dX13_readHouses_28 rfl hl (by decide) rfl (fun ls hl => ?_)
      refine lv_aload_n hx hb dX13_readHouses_29 rfl (lv_at hl 1 rfl) ?_
      rcases hN5 : gR z4.2 a0 4 with _ | b5
      · replace h := oc_n hN5 h
        refine r_get (T := TX13) (v := .null) hx hb hts in13 hown hK hP k0 (by decide) rfl 4 (by decide) (hts (.fieldLink RX13 150 "StoneWalkModel" "read" "LStoneWalkModel$Island;") (List.mem_of_getElem? (i := 1) (by decide +kernel))) rfl (t := 2) rfl (by show va_rf _ = _; rw [hN5]; rfl) dX13_readHouses_30 ?_
        refine lv_aload_n hx hb dX13_readHouses_33 rfl (lv_at hl 1 rfl) ?_
        refine r_ldcSw (tx := "holds") (i := 27) hx hb hG hown (by decide +kernel) dX13_readHouses_34 ?_
        refine lv_iconst (v := 0) hx hb dX13_readHouses_37 rfl ?_
        refine lv_bipush (v := 20) hx hb dX13_readHouses_38 rfl ?_
        obtain ⟨z6, h6, h⟩ := ob_some h
        refine k_i (va_runV (As := [.ref (q.2.1 27), .int 0, .int 20]) (rest := [.null]) ⟨hx, hb, hml, hown, hts⟩ (c_X13_readPart (l := l) z4.2 a0 27 0 20 k0 (by decide) h6) (cwV 3 hts gX13_readHouses_X13_readPart rfl rfl rfl hdV_X13_readPart ⟨Nat.le_of_ble_eq_true rfl, Nat.le_of_ble_eq_true rfl⟩) (pV (T := TX13) hP hK hD hT hG hS k0 (by decide) rfl) rfl rfl hl.1 rfl (lv_room (Nat.le_of_ble_eq_true rfl)) dX13_readHouses_40 ⟨Nat.zero_le _, Nat.zero_le _⟩) hS (fun H locs hP hD hT hS => ?_)
        exact absurd h (by simp)
      · replace h := oc_s hN5 h
        have kb5 := hT.f k0 (k := 4) (t := 12) (n := 0) rfl hN5
        refine r_get (T := TX13) (v := .ref (ad b5)) hx hb hts in13 hown hK hP k0 (by decide) rfl 4 (by decide) (hts (.fieldLink RX13 150 "StoneWalkModel" "read" "LStoneWalkModel$Island;") (List.mem_of_getElem? (i := 1) (by decide +kernel))) rfl (t := 2) rfl (by show va_rf _ = _; rw [hN5]; rfl) dX13_readHouses_30 ?_
        refine lv_aload_n hx hb dX13_readHouses_33 rfl (lv_at hl 1 rfl) ?_
        refine r_ldcSw (tx := "holds") (i := 27) hx hb hG hown (by decide +kernel) dX13_readHouses_34 ?_
        refine lv_iconst (v := 0) hx hb dX13_readHouses_37 rfl ?_
        refine lv_bipush (v := 20) hx hb dX13_readHouses_38 rfl ?_
        obtain ⟨z7, h7, h⟩ := ob_some h
        refine k_i (va_runV (As := [.ref (q.2.1 27), .int 0, .int 20]) (rest := [.ref (ad b5)]) ⟨hx, hb, hml, hown, hts⟩ (c_X13_readPart (l := l) z4.2 a0 27 0 20 k0 (by decide) h7) (cwV 3 hts gX13_readHouses_X13_readPart rfl rfl rfl hdV_X13_readPart ⟨Nat.le_of_ble_eq_true rfl, Nat.le_of_ble_eq_true rfl⟩) (pV (T := TX13) hP hK hD hT hG hS k0 (by decide) rfl) rfl rfl hl.1 rfl (lv_room (Nat.le_of_ble_eq_true rfl)) dX13_readHouses_40 ⟨Nat.zero_le _, Nat.zero_le _⟩) hS (fun H locs hP hD hT hS => ?_)
        refine r_putIN (T := TX12) (ty := .int) (v := z7.1) hx hb hts in12 tyX12 tyX12_ok nmX12 hown hK hP hD hT hS kb5 (by decide) rfl 33 (by decide) (hG.2.2.1 ("StoneWalkModel", 363, "StoneWalkModel$Island", "least", "I", "StoneWalkModel") (List.mem_of_getElem? (i := 34) rfl)) rfl rfl (tyX12_ok 33 (by decide)) rfl rfl rfl dX13_readHouses_43 (fun H locs hP hD hT hS => ?_)
        generalize pI z7.2 b5 33 z7.1 = Mg1 at h hP hD hT ⊢
        refine lv_aload_n hx hb dX13_readHouses_46 rfl (lv_at hl 1 rfl) ?_
        rcases hN8 : gR Mg1 a0 4 with _ | b8
        · replace h := oc_n hN8 h
          refine r_get (T := TX13) (v := .null) hx hb hts in13 hown hK hP k0 (by decide) rfl 4 (by decide) (hts (.fieldLink RX13 150 "StoneWalkModel" "read" "LStoneWalkModel$Island;") (List.mem_of_getElem? (i := 1) (by decide +kernel))) rfl (t := 2) rfl (by show va_rf _ = _; rw [hN8]; rfl) dX13_readHouses_47 ?_
          refine lv_aload_n hx hb dX13_readHouses_50 rfl (lv_at hl 1 rfl) ?_
          refine r_ldcSw (tx := "to") (i := 28) hx hb hG hown (by decide +kernel) dX13_readHouses_51 ?_
          refine lv_aload_n hx hb dX13_readHouses_54 rfl (lv_at hl 1 rfl) ?_
          rcases hN9 : gR Mg1 a0 4 with _ | b9
          · replace h := oc_n hN9 h
            refine r_get (T := TX13) (v := .null) hx hb hts in13 hown hK hP k0 (by decide) rfl 4 (by decide) (hts (.fieldLink RX13 150 "StoneWalkModel" "read" "LStoneWalkModel$Island;") (List.mem_of_getElem? (i := 1) (by decide +kernel))) rfl (t := 2) rfl (by show va_rf _ = _; rw [hN9]; rfl) dX13_readHouses_55 ?_
            exact absurd h (by simp)
          · replace h := oc_s hN9 h
            have kb9 := hT.f k0 (k := 4) (t := 12) (n := 0) rfl hN9
            refine r_get (T := TX13) (v := .ref (ad b9)) hx hb hts in13 hown hK hP k0 (by decide) rfl 4 (by decide) (hts (.fieldLink RX13 150 "StoneWalkModel" "read" "LStoneWalkModel$Island;") (List.mem_of_getElem? (i := 1) (by decide +kernel))) rfl (t := 2) rfl (by show va_rf _ = _; rw [hN9]; rfl) dX13_readHouses_55 ?_
            refine r_getN (T := TX12) (v := .int (gI Mg1 b9 33)) hx hb hts in12 hown hK hP kb9 (by decide) rfl 33 (by decide) (hG.2.2.1 ("StoneWalkModel", 363, "StoneWalkModel$Island", "least", "I", "StoneWalkModel") (List.mem_of_getElem? (i := 34) rfl)) rfl (t := 0) rfl rfl dX13_readHouses_58 ?_
            refine lv_bipush (v := 40) hx hb dX13_readHouses_61 rfl ?_
            obtain ⟨z10, h10, h⟩ := ob_some h
            refine k_i (va_runV (As := [.ref (q.2.1 28), .int (gI Mg1 b9 33), .int 40]) (rest := [.null]) ⟨hx, hb, hml, hown, hts⟩ (c_X13_readPart (l := l) Mg1 a0 28 (gI Mg1 b9 33) 40 k0 (by decide) h10) (cwV 3 hts gX13_readHouses_X13_readPart rfl rfl rfl hdV_X13_readPart ⟨Nat.le_of_ble_eq_true rfl, Nat.le_of_ble_eq_true rfl⟩) (pV (T := TX13) hP hK hD hT hG hS k0 (by decide) rfl) rfl rfl hl.1 rfl (lv_room (Nat.le_of_ble_eq_true rfl)) dX13_readHouses_63 ⟨Nat.zero_le _, Nat.zero_le _⟩) hS (fun H locs hP hD hT hS => ?_)
            exact absurd h (by simp)
        · replace h := oc_s hN8 h
          have kb8 := hT.f k0 (k := 4) (t := 12) (n := 0) rfl hN8
          refine r_get (T := TX13) (v := .ref (ad b8)) hx hb hts in13 hown hK hP k0 (by decide) rfl 4 (by decide) (hts (.fieldLink RX13 150 "StoneWalkModel" "read" "LStoneWalkModel$Island;") (List.mem_of_getElem? (i := 1) (by decide +kernel))) rfl (t := 2) rfl (by show va_rf _ = _; rw [hN8]; rfl) dX13_readHouses_47 ?_
          refine lv_aload_n hx hb dX13_readHouses_50 rfl (lv_at hl 1 rfl) ?_
          refine r_ldcSw (tx := "to") (i := 28) hx hb hG hown (by decide +kernel) dX13_readHouses_51 ?_
          refine lv_aload_n hx hb dX13_readHouses_54 rfl (lv_at hl 1 rfl) ?_
          rcases hN11 : gR Mg1 a0 4 with _ | b11
          · replace h := oc_n hN11 h
            refine r_get (T := TX13) (v := .null) hx hb hts in13 hown hK hP k0 (by decide) rfl 4 (by decide) (hts (.fieldLink RX13 150 "StoneWalkModel" "read" "LStoneWalkModel$Island;") (List.mem_of_getElem? (i := 1) (by decide +kernel))) rfl (t := 2) rfl (by show va_rf _ = _; rw [hN11]; rfl) dX13_readHouses_55 ?_
            exact absurd h (by simp)
          · replace h := oc_s hN11 h
            have kb11 := hT.f k0 (k := 4) (t := 12) (n := 0) rfl hN11
            refine r_get (T := TX13) (v := .ref (ad b11)) hx hb hts in13 hown hK hP k0 (by decide) rfl 4 (by decide) (hts (.fieldLink RX13 150 "StoneWalkModel" "read" "LStoneWalkModel$Island;") (List.mem_of_getElem? (i := 1) (by decide +kernel))) rfl (t := 2) rfl (by show va_rf _ = _; rw [hN11]; rfl) dX13_readHouses_55 ?_
            refine r_getN (T := TX12) (v := .int (gI Mg1 b11 33)) hx hb hts in12 hown hK hP kb11 (by decide) rfl 33 (by decide) (hG.2.2.1 ("StoneWalkModel", 363, "StoneWalkModel$Island", "least", "I", "StoneWalkModel") (List.mem_of_getElem? (i := 34) rfl)) rfl (t := 0) rfl rfl dX13_readHouses_58 ?_
            refine lv_bipush (v := 40) hx hb dX13_readHouses_61 rfl ?_
            obtain ⟨z12, h12, h⟩ := ob_some h
            refine k_i (va_runV (As := [.ref (q.2.1 28), .int (gI Mg1 b11 33), .int 40]) (rest := [.ref (ad b8)]) ⟨hx, hb, hml, hown, hts⟩ (c_X13_readPart (l := l) Mg1 a0 28 (gI Mg1 b11 33) 40 k0 (by decide) h12) (cwV 3 hts gX13_readHouses_X13_readPart rfl rfl rfl hdV_X13_readPart ⟨Nat.le_of_ble_eq_true rfl, Nat.le_of_ble_eq_true rfl⟩) (pV (T := TX13) hP hK hD hT hG hS k0 (by decide) rfl) rfl rfl hl.1 rfl (lv_room (Nat.le_of_ble_eq_true rfl)) dX13_readHouses_63 ⟨Nat.zero_le _, Nat.zero_le _⟩) hS (fun H locs hP hD hT hS => ?_)
            refine r_putIN (T := TX12) (ty := .int) (v := z12.1) hx hb hts in12 tyX12 tyX12_ok nmX12 hown hK hP hD hT hS kb8 (by decide) rfl 34 (by decide) (hG.2.2.1 ("StoneWalkModel", 368, "StoneWalkModel$Island", "most", "I", "StoneWalkModel") (List.mem_of_getElem? (i := 35) rfl)) rfl rfl (tyX12_ok 34 (by decide)) rfl rfl rfl dX13_readHouses_66 (fun H locs hP hD hT hS => ?_)
            generalize pI z12.2 b8 34 z12.1 = Mg2 at h hP hD hT ⊢
            refine lv_aload_n hx hb dX13_readHouses_69 rfl (lv_at hl 1 rfl) ?_
            refine r_get (T := TX13) (v := .int (gI Mg2 a0 9)) hx hb hts in13 hown hK hP k0 (by decide) rfl 9 (by decide) (hts (.fieldLink RX13 58 "StoneWalkModel" "sort" "I") (List.mem_of_getElem? (i := 2) (by decide +kernel))) rfl (t := 0) rfl rfl dX13_readHouses_70 ?_
            refine lv_iconst (v := 5) hx hb dX13_readHouses_73 rfl ?_
            refine lv_icmp_eq (tgt := 85) hx hb dX13_readHouses_74 rfl (fun c13 => ?_) (fun c13 => ?_)
            · replace h := ite_t c13 h
              exact r_vret hx hb hr hlocks hP hK hD hT hG hS (Option.some.inj h) dX13_readHouses_85
            · replace h := ite_f c13 h
              refine lv_aload_n hx hb dX13_readHouses_77 rfl (lv_at hl 1 rfl) ?_
              rcases hN14 : gR Mg2 a0 4 with _ | b14
              · replace h := oc_n hN14 h
                refine r_get (T := TX13) (v := .null) hx hb hts in13 hown hK hP k0 (by decide) rfl 4 (by decide) (hts (.fieldLink RX13 150 "StoneWalkModel" "read" "LStoneWalkModel$Island;") (List.mem_of_getElem? (i := 1) (by decide +kernel))) rfl (t := 2) rfl (by show va_rf _ = _; rw [hN14]; rfl) dX13_readHouses_78 ?_
                refine lv_iload_n hx hb dX13_readHouses_81 rfl (lv_at hl 0 rfl) ?_
                exact absurd h (by simp)
              · replace h := oc_s hN14 h
                have kb14 := hT.f k0 (k := 4) (t := 12) (n := 0) rfl hN14
                refine r_get (T := TX13) (v := .ref (ad b14)) hx hb hts in13 hown hK hP k0 (by decide) rfl 4 (by decide) (hts (.fieldLink RX13 150 "StoneWalkModel" "read" "LStoneWalkModel$Island;") (List.mem_of_getElem? (i := 1) (by decide +kernel))) rfl (t := 2) rfl (by show va_rf _ = _; rw [hN14]; rfl) dX13_readHouses_78 ?_
                refine lv_iload_n hx hb dX13_readHouses_81 rfl (lv_at hl 0 rfl) ?_
                refine r_putIN (T := TX12) (ty := .int) (v := z4.1) hx hb hts in12 tyX12 tyX12_ok nmX12 hown hK hP hD hT hS kb14 (by decide) rfl 32 (by decide) (hG.2.2.1 ("StoneWalkModel", 359, "StoneWalkModel$Island", "houses", "I", "StoneWalkModel") (List.mem_of_getElem? (i := 33) rfl)) rfl rfl (tyX12_ok 32 (by decide)) rfl rfl rfl dX13_readHouses_82 (fun H locs hP hD hT hS => ?_)
                generalize pI Mg2 b14 32 z4.1 = Mg3 at h hP hD hT ⊢
                exact r_vret hx hb hr hlocks hP hK hD hT hG hS (Option.some.inj h) dX13_readHouses_85
    · replace h := ite_f c2 h
      refine lv_aload_n hx hb dX13_readHouses_11 rfl (lv_at hl 0 rfl) ?_
      refine lv_iconst (v := 3) hx hb dX13_readHouses_12 rfl ?_
      obtain ⟨z15, h15, h⟩ := ob_some h
      refine k_v (va_runV (As := [.int 3]) (rest := []) ⟨hx, hb, hml, hown, hts⟩ (c_X13_wrong (l := l) M a0 3 k0 h15) (cwV 1 hts gX13_readHouses_X13_wrong rfl rfl rfl hdV_X13_wrong ⟨Nat.le_of_ble_eq_true rfl, Nat.le_of_ble_eq_true rfl⟩) (pV (T := TX13) hP hK hD hT hG hS k0 (by decide) rfl) rfl rfl hl.1 rfl (lv_room (Nat.le_of_ble_eq_true rfl)) dX13_readHouses_13 ⟨Nat.zero_le _, Nat.zero_le _⟩) hS (fun H locs hP hD hT hS => ?_)
      refine lv_aload_n hx hb dX13_readHouses_16 rfl (lv_at hl 0 rfl) ?_
      obtain ⟨z16, h16, h⟩ := ob_some h
      refine k_v (va_runV (As := []) (rest := []) ⟨hx, hb, hml, hown, hts⟩ (c_X13_goesOn (l := l) z15 a0 k0 h16) (cwV 0 hts gX13_readHouses_X13_goesOn rfl rfl rfl hdV_X13_goesOn ⟨Nat.le_of_ble_eq_true rfl, Nat.le_of_ble_eq_true rfl⟩) (pV (T := TX13) hP hK hD hT hG hS k0 (by decide) rfl) rfl rfl hl.1 rfl (lv_room (Nat.le_of_ble_eq_true rfl)) dX13_readHouses_17 ⟨Nat.zero_le _, Nat.zero_le _⟩) hS (fun H locs hP hD hT hS => ?_)
      refine lv_aload_n hx hb dX13_readHouses_20 rfl (lv_at hl 0 rfl) ?_
      refine lv_iconst (v := 0) hx hb dX13_readHouses_21 rfl ?_
      refine lv_sipush (v := 999) hx hb dX13_readHouses_22 rfl ?_
      obtain ⟨z17, h17, h⟩ := ob_some h
      refine k_i (va_runV (As := [.int 0, .int 999]) (rest := []) ⟨hx, hb, hml, hown, hts⟩ (c_X13_readWhole (l := l) z16 a0 0 999 k0 h17) (cwV 2 hts gX13_readHouses_X13_readWhole rfl rfl rfl hdV_X13_readWhole ⟨Nat.le_of_ble_eq_true rfl, Nat.le_of_ble_eq_true rfl⟩) (pV (T := TX13) hP hK hD hT hG hS k0 (by decide) rfl) rfl rfl hl.1 rfl (lv_room (Nat.le_of_ble_eq_true rfl)) dX13_readHouses_25 ⟨Nat.zero_le _, Nat.zero_le _⟩) hS (fun H locs hP hD hT hS => ?_)
      refine lv_istore_n (lv' := [(1, .int z17.1), (0, .ref (ad a0))]) hx hb dX13_readHouses_28 rfl hl (by decide) rfl (fun ls hl => ?_)
      refine lv_aload_n hx hb dX13_readHouses_29 rfl (lv_at hl 1 rfl) ?_
      rcases hN18 : gR z17.2 a0 4 with _ | b18
      · replace h := oc_n hN18 h
        refine r_get (T := TX13) (v := .null) hx hb hts in13 hown hK hP k0 (by decide) rfl 4 (by decide) (hts (.fieldLink RX13 150 "StoneWalkModel" "read" "LStoneWalkModel$Island;") (List.mem_of_getElem? (i := 1) (by decide +kernel))) rfl (t := 2) rfl (by show va_rf _ = _; rw [hN18]; rfl) dX13_readHouses_30 ?_
        refine lv_aload_n hx hb dX13_readHouses_33 rfl (lv_at hl 1 rfl) ?_
        refine r_ldcSw (tx := "holds") (i := 27) hx hb hG hown (by decide +kernel) dX13_readHouses_34 ?_
        refine lv_iconst (v := 0) hx hb dX13_readHouses_37 rfl ?_
        refine lv_bipush (v := 20) hx hb dX13_readHouses_38 rfl ?_
        obtain ⟨z19, h19, h⟩ := ob_some h
        refine k_i (va_runV (As := [.ref (q.2.1 27), .int 0, .int 20]) (rest := [.null]) ⟨hx, hb, hml, hown, hts⟩ (c_X13_readPart (l := l) z17.2 a0 27 0 20 k0 (by decide) h19) (cwV 3 hts gX13_readHouses_X13_readPart rfl rfl rfl hdV_X13_readPart ⟨Nat.le_of_ble_eq_true rfl, Nat.le_of_ble_eq_true rfl⟩) (pV (T := TX13) hP hK hD hT hG hS k0 (by decide) rfl) rfl rfl hl.1 rfl (lv_room (Nat.le_of_ble_eq_true rfl)) dX13_readHouses_40 ⟨Nat.zero_le _, Nat.zero_le _⟩) hS (fun H locs hP hD hT hS => ?_)
        exact absurd h (by simp)
      · replace h := oc_s hN18 h
        have kb18 := hT.f k0 (k := 4) (t := 12) (n := 0) rfl hN18
        refine r_get (T := TX13) (v := .ref (ad b18)) hx hb hts in13 hown hK hP k0 (by decide) rfl 4 (by decide) (hts (.fieldLink RX13 150 "StoneWalkModel" "read" "LStoneWalkModel$Island;") (List.mem_of_getElem? (i := 1) (by decide +kernel))) rfl (t := 2) rfl (by show va_rf _ = _; rw [hN18]; rfl) dX13_readHouses_30 ?_
        refine lv_aload_n hx hb dX13_readHouses_33 rfl (lv_at hl 1 rfl) ?_
        refine r_ldcSw (tx := "holds") (i := 27) hx hb hG hown (by decide +kernel) dX13_readHouses_34 ?_
        refine lv_iconst (v := 0) hx hb dX13_readHouses_37 rfl ?_
        refine lv_bipush (v := 20) hx hb dX13_readHouses_38 rfl ?_
        obtain ⟨z20, h20, h⟩ := ob_some h
        refine k_i (va_runV (As := [.ref (q.2.1 27), .int 0, .int 20]) (rest := [.ref (ad b18)]) ⟨hx, hb, hml, hown, hts⟩ (c_X13_readPart (l := l) z17.2 a0 27 0 20 k0 (by decide) h20) (cwV 3 hts gX13_readHouses_X13_readPart rfl rfl rfl hdV_X13_readPart ⟨Nat.le_of_ble_eq_true rfl, Nat.le_of_ble_eq_true rfl⟩) (pV (T := TX13) hP hK hD hT hG hS k0 (by decide) rfl) rfl rfl hl.1 rfl (lv_room (Nat.le_of_ble_eq_true rfl)) dX13_readHouses_40 ⟨Nat.zero_le _, Nat.zero_le _⟩) hS (fun H locs hP hD hT hS => ?_)
        refine r_putIN (T := TX12) (ty := .int) (v := z20.1) hx hb hts in12 tyX12 tyX12_ok nmX12 hown hK hP hD hT hS kb18 (by decide) rfl 33 (by decide) (hG.2.2.1 ("StoneWalkModel", 363, "StoneWalkModel$Island", "least", "I", "StoneWalkModel") (List.mem_of_getElem? (i := 34) rfl)) rfl rfl (tyX12_ok 33 (by decide)) rfl rfl rfl dX13_readHouses_43 (fun H locs hP hD hT hS => ?_)
        generalize pI z20.2 b18 33 z20.1 = Mg4 at h hP hD hT ⊢
        refine lv_aload_n hx hb dX13_readHouses_46 rfl (lv_at hl 1 rfl) ?_
        rcases hN21 : gR Mg4 a0 4 with _ | b21
        · replace h := oc_n hN21 h
          refine r_get (T := TX13) (v := .null) hx hb hts in13 hown hK hP k0 (by decide) rfl 4 (by decide) (hts (.fieldLink RX13 150 "StoneWalkModel" "read" "LStoneWalkModel$Island;") (List.mem_of_getElem? (i := 1) (by decide +kernel))) rfl (t := 2) rfl (by show va_rf _ = _; rw [hN21]; rfl) dX13_readHouses_47 ?_
          refine lv_aload_n hx hb dX13_readHouses_50 rfl (lv_at hl 1 rfl) ?_
          refine r_ldcSw (tx := "to") (i := 28) hx hb hG hown (by decide +kernel) dX13_readHouses_51 ?_
          refine lv_aload_n hx hb dX13_readHouses_54 rfl (lv_at hl 1 rfl) ?_
          rcases hN22 : gR Mg4 a0 4 with _ | b22
          · replace h := oc_n hN22 h
            refine r_get (T := TX13) (v := .null) hx hb hts in13 hown hK hP k0 (by decide) rfl 4 (by decide) (hts (.fieldLink RX13 150 "StoneWalkModel" "read" "LStoneWalkModel$Island;") (List.mem_of_getElem? (i := 1) (by decide +kernel))) rfl (t := 2) rfl (by show va_rf _ = _; rw [hN22]; rfl) dX13_readHouses_55 ?_
            exact absurd h (by simp)
          · replace h := oc_s hN22 h
            have kb22 := hT.f k0 (k := 4) (t := 12) (n := 0) rfl hN22
            refine r_get (T := TX13) (v := .ref (ad b22)) hx hb hts in13 hown hK hP k0 (by decide) rfl 4 (by decide) (hts (.fieldLink RX13 150 "StoneWalkModel" "read" "LStoneWalkModel$Island;") (List.mem_of_getElem? (i := 1) (by decide +kernel))) rfl (t := 2) rfl (by show va_rf _ = _; rw [hN22]; rfl) dX13_readHouses_55 ?_
            refine r_getN (T := TX12) (v := .int (gI Mg4 b22 33)) hx hb hts in12 hown hK hP kb22 (by decide) rfl 33 (by decide) (hG.2.2.1 ("StoneWalkModel", 363, "StoneWalkModel$Island", "least", "I", "StoneWalkModel") (List.mem_of_getElem? (i := 34) rfl)) rfl (t := 0) rfl rfl dX13_readHouses_58 ?_
            refine lv_bipush (v := 40) hx hb dX13_readHouses_61 rfl ?_
            obtain ⟨z23, h23, h⟩ := ob_some h
            refine k_i (va_runV (As := [.ref (q.2.1 28), .int (gI Mg4 b22 33), .int 40]) (rest := [.null]) ⟨hx, hb, hml, hown, hts⟩ (c_X13_readPart (l := l) Mg4 a0 28 (gI Mg4 b22 33) 40 k0 (by decide) h23) (cwV 3 hts gX13_readHouses_X13_readPart rfl rfl rfl hdV_X13_readPart ⟨Nat.le_of_ble_eq_true rfl, Nat.le_of_ble_eq_true rfl⟩) (pV (T := TX13) hP hK hD hT hG hS k0 (by decide) rfl) rfl rfl hl.1 rfl (lv_room (Nat.le_of_ble_eq_true rfl)) dX13_readHouses_63 ⟨Nat.zero_le _, Nat.zero_le _⟩) hS (fun H locs hP hD hT hS => ?_)
            exact absurd h (by simp)
        · replace h := oc_s hN21 h
          have kb21 := hT.f k0 (k := 4) (t := 12) (n := 0) rfl hN21
          refine r_get (T := TX13) (v := .ref (ad b21)) hx hb hts in13 hown hK hP k0 (by decide) rfl 4 (by decide) (hts (.fieldLink RX13 150 "StoneWalkModel" "read" "LStoneWalkModel$Island;") (List.mem_of_getElem? (i := 1) (by decide +kernel))) rfl (t := 2) rfl (by show va_rf _ = _; rw [hN21]; rfl) dX13_readHouses_47 ?_
          refine lv_aload_n hx hb dX13_readHouses_50 rfl (lv_at hl 1 rfl) ?_
          refine r_ldcSw (tx := "to") (i := 28) hx hb hG hown (by decide +kernel) dX13_readHouses_51 ?_
          refine lv_aload_n hx hb dX13_readHouses_54 rfl (lv_at hl 1 rfl) ?_
          rcases hN24 : gR Mg4 a0 4 with _ | b24
          · replace h := oc_n hN24 h
            refine r_get (T := TX13) (v := .null) hx hb hts in13 hown hK hP k0 (by decide) rfl 4 (by decide) (hts (.fieldLink RX13 150 "StoneWalkModel" "read" "LStoneWalkModel$Island;") (List.mem_of_getElem? (i := 1) (by decide +kernel))) rfl (t := 2) rfl (by show va_rf _ = _; rw [hN24]; rfl) dX13_readHouses_55 ?_
            exact absurd h (by simp)
          · replace h := oc_s hN24 h
            have kb24 := hT.f k0 (k := 4) (t := 12) (n := 0) rfl hN24
            refine r_get (T := TX13) (v := .ref (ad b24)) hx hb hts in13 hown hK hP k0 (by decide) rfl 4 (by decide) (hts (.fieldLink RX13 150 "StoneWalkModel" "read" "LStoneWalkModel$Island;") (List.mem_of_getElem? (i := 1) (by decide +kernel))) rfl (t := 2) rfl (by show va_rf _ = _; rw [hN24]; rfl) dX13_readHouses_55 ?_
            refine r_getN (T := TX12) (v := .int (gI Mg4 b24 33)) hx hb hts in12 hown hK hP kb24 (by decide) rfl 33 (by decide) (hG.2.2.1 ("StoneWalkModel", 363, "StoneWalkModel$Island", "least", "I", "StoneWalkModel") (List.mem_of_getElem? (i := 34) rfl)) rfl (t := 0) rfl rfl dX13_readHouses_58 ?_
            refine lv_bipush (v := 40) hx hb dX13_readHouses_61 rfl ?_
            obtain ⟨z25, h25, h⟩ := ob_some h
            refine k_i (va_runV (As := [.ref (q.2.1 28), .int (gI Mg4 b24 33), .int 40]) (rest := [.ref (ad b21)]) ⟨hx, hb, hml, hown, hts⟩ (c_X13_readPart (l := l) Mg4 a0 28 (gI Mg4 b24 33) 40 k0 (by decide) h25) (cwV 3 hts gX13_readHouses_X13_readPart rfl rfl rfl hdV_X13_readPart ⟨Nat.le_of_ble_eq_true rfl, Nat.le_of_ble_eq_true rfl⟩) (pV (T := TX13) hP hK hD hT hG hS k0 (by decide) rfl) rfl rfl hl.1 rfl (lv_room (Nat.le_of_ble_eq_true rfl)) dX13_readHouses_63 ⟨Nat.zero_le _, Nat.zero_le _⟩) hS (fun H locs hP hD hT hS => ?_)
            refine r_putIN (T := TX12) (ty := .int) (v := z25.1) hx hb hts in12 tyX12 tyX12_ok nmX12 hown hK hP hD hT hS kb21 (by decide) rfl 34 (by decide) (hG.2.2.1 ("StoneWalkModel", 368, "StoneWalkModel$Island", "most", "I", "StoneWalkModel") (List.mem_of_getElem? (i := 35) rfl)) rfl rfl (tyX12_ok 34 (by decide)) rfl rfl rfl dX13_readHouses_66 (fun H locs hP hD hT hS => ?_)
            generalize pI z25.2 b21 34 z25.1 = Mg5 at h hP hD hT ⊢
            refine lv_aload_n hx hb dX13_readHouses_69 rfl (lv_at hl 1 rfl) ?_
            refine r_get (T := TX13) (v := .int (gI Mg5 a0 9)) hx hb hts in13 hown hK hP k0 (by decide) rfl 9 (by decide) (hts (.fieldLink RX13 58 "StoneWalkModel" "sort" "I") (List.mem_of_getElem? (i := 2) (by decide +kernel))) rfl (t := 0) rfl rfl dX13_readHouses_70 ?_
            refine lv_iconst (v := 5) hx hb dX13_readHouses_73 rfl ?_
            refine lv_icmp_eq (tgt := 85) hx hb dX13_readHouses_74 rfl (fun c26 => ?_) (fun c26 => ?_)
            · replace h := ite_t c26 h
              exact r_vret hx hb hr hlocks hP hK hD hT hG hS (Option.some.inj h) dX13_readHouses_85
            · replace h := ite_f c26 h
              refine lv_aload_n hx hb dX13_readHouses_77 rfl (lv_at hl 1 rfl) ?_
              rcases hN27 : gR Mg5 a0 4 with _ | b27
              · replace h := oc_n hN27 h
                refine r_get (T := TX13) (v := .null) hx hb hts in13 hown hK hP k0 (by decide) rfl 4 (by decide) (hts (.fieldLink RX13 150 "StoneWalkModel" "read" "LStoneWalkModel$Island;") (List.mem_of_getElem? (i := 1) (by decide +kernel))) rfl (t := 2) rfl (by show va_rf _ = _; rw [hN27]; rfl) dX13_readHouses_78 ?_
                refine lv_iload_n hx hb dX13_readHouses_81 rfl (lv_at hl 0 rfl) ?_
                exact absurd h (by simp)
              · replace h := oc_s hN27 h
                have kb27 := hT.f k0 (k := 4) (t := 12) (n := 0) rfl hN27
                refine r_get (T := TX13) (v := .ref (ad b27)) hx hb hts in13 hown hK hP k0 (by decide) rfl 4 (by decide) (hts (.fieldLink RX13 150 "StoneWalkModel" "read" "LStoneWalkModel$Island;") (List.mem_of_getElem? (i := 1) (by decide +kernel))) rfl (t := 2) rfl (by show va_rf _ = _; rw [hN27]; rfl) dX13_readHouses_78 ?_
                refine lv_iload_n hx hb dX13_readHouses_81 rfl (lv_at hl 0 rfl) ?_
                refine r_putIN (T := TX12) (ty := .int) (v := z17.1) hx hb hts in12 tyX12 tyX12_ok nmX12 hown hK hP hD hT hS kb27 (by decide) rfl 32 (by decide) (hG.2.2.1 ("StoneWalkModel", 359, "StoneWalkModel$Island", "houses", "I", "StoneWalkModel") (List.mem_of_getElem? (i := 33) rfl)) rfl rfl (tyX12_ok 32 (by decide)) rfl rfl rfl dX13_readHouses_82 (fun H locs hP hD hT hS => ?_)
                generalize pI Mg5 b27 32 z17.1 = Mg6 at h hP hD hT ⊢
                exact r_vret hx hb hr hlocks hP hK hD hT hG hS (Option.some.inj h) dX13_readHouses_85
set_option maxHeartbeats 4000000 in
set_option maxRecDepth 100000 in
theorem c_X13_readStory {l : Launch} {D : va_G} {ad : Nat → Nat} {cy : Nat → ClassId} {A : Nat → Prop} {g : CG} {q : SE} (M : MM) (a0 : Nat) (k0 : ok g a0 13 0) {Z : MM} (h : f_X13_readStory M a0 = some Z) : Met l yX13_readStory wsX13_readStory ({ frames := 8, cells := 0, slots := 0, locals := 173 }) (va_Pc [.ref (ad a0)] (Wd D ad cy A g q M)) (va_Qv (fun u => u = Z) (Wd D ad cy A g q) A) 0 0 A := by
  refine Met.ofW (cc := cX13_readStory) (maxL := 5) (ret := none) (by decide) rfl ?_
  intro p e s m args below meth c s₁ B hml hv
  obtain ⟨rfl, hP, hK, hD, hT, hG⟩ := hv
  have hx := B.exec
  have hb := B.bytes
  have hr := B.returns
  have hts := atoms_spec (ws := wsX13_readStory) B.pre
  have hown : s.vm.findClass RX13 = some m.cls := findClass_of_methodNamed B.named
  have hlocks := B.notSynchronized
  have in12 : ∀ w ∈ u_ws RX12 TX12 48, w ∈ wsX13_readStory := fun w h => List.mem_cons_of_mem _ (List.mem_append_right _ h)
  have in13 : ∀ w ∈ u_ws RX13 TX13 29, w ∈ wsX13_readStory := fun w h => List.mem_cons_of_mem _ (List.mem_append_left _ (List.mem_append_right _ h))
  have hS : va_S A s.heap s.heap [] := va_S.rf
  have hl := lv_entry ([.ref (ad a0)]) (n := 5) (Nat.le_of_ble_eq_true rfl)
  rw [lg_entry_eq]
  generalize (lg_sl ([.ref (ad a0)]) ++ List.replicate (5 - (lg_sl ([.ref (ad a0)])).length) Slot.unset).toArray = ls at hl ⊢
  have hl : lv_has ls 5 [(0, .ref (ad a0))] := hl
  unfold f_X13_readStory at h
  have J1 : ∀ (M1 : MM) (y1_0 : Nat) (y1_1 : Int32) (w1_0 : Int32) (ky1_0 : ok g y1_0 13 0) (H : Heap) (locs : List Loc), f_X13_readStory_J77 M1 y1_0 y1_1 w1_0 = some Z → va_P D vwCl (wd ad cy g M1) H → va_D A (wd ad cy g M1) → WT g M1 → va_S A s.heap H locs → ∀ (ls : Array Slot), lv_has ls 5 [(0, .ref (ad y1_0)), (1, .int y1_1)] → W p l e ((headSpec wsX13_readStory ({ frames := 8, cells := 0, slots := 0, locals := 173 })).room) s m (([.ref (ad a0)] : List Value).toArray) below meth c H locs 0 0 (MQ below (va_Qv (fun u => u = Z) (Wd D ad cy A g q) A) ([.ref (ad a0)]).toArray s 0 0 A) (F0 m 77 ls [.int w1_0]) := by
    intro M1 y1_0 y1_1 w1_0 ky1_0 H locs h hP hD hT hS ls hl
    unfold f_X13_readStory_J77 at h
    have J2 : ∀ (M2 : MM) (y2_0 : Nat) (y2_1 : Int32) (y2_2 : Int32) (ky2_0 : ok g y2_0 13 0) (H : Heap) (locs : List Loc), f_X13_readStory_J88 M2 y2_0 y2_1 y2_2 = some Z → va_P D vwCl (wd ad cy g M2) H → va_D A (wd ad cy g M2) → WT g M2 → va_S A s.heap H locs → ∀ (ls : Array Slot), lv_has ls 5 [(0, .ref (ad y2_0)), (1, .int y2_1), (2, .int y2_2)] → W p l e ((headSpec wsX13_readStory ({ frames := 8, cells := 0, slots := 0, locals := 173 })).room) s m (([.ref (ad a0)] : List Value).toArray) below meth c H locs 0 0 (MQ below (va_Qv (fun u => u = Z) (Wd D ad cy A g q) A) ([.ref (ad a0)]).toArray s 0 0 A) (F0 m 88 ls []) := by
      intro M2 y2_0 y2_1 y2_2 ky2_0 H locs h hP hD hT hS ls hl
      unfold f_X13_readStory_J88 at h
      have J3 : ∀ (M3 : MM) (y3_0 : Nat) (y3_1 : Int32) (y3_2 : Int32) (w3_0 : Int32) (w3_1 : Int32) (w3_2 : Nat) (ky3_0 : ok g y3_0 13 0) (kw3_2 : ok g w3_2 13 0) (H : Heap) (locs : List Loc), f_X13_readStory_J105 M3 y3_0 y3_1 y3_2 w3_0 w3_1 w3_2 = some Z → va_P D vwCl (wd ad cy g M3) H → va_D A (wd ad cy g M3) → WT g M3 → va_S A s.heap H locs → ∀ (ls : Array Slot), lv_has ls 5 [(0, .ref (ad y3_0)), (1, .int y3_1), (2, .int y3_2)] → W p l e ((headSpec wsX13_readStory ({ frames := 8, cells := 0, slots := 0, locals := 173 })).room) s m (([.ref (ad a0)] : List Value).toArray) below meth c H locs 0 0 (MQ below (va_Qv (fun u => u = Z) (Wd D ad cy A g q) A) ([.ref (ad a0)]).toArray s 0 0 A) (F0 m 105 ls [.int w3_0, .int w3_1, .ref (ad w3_2)]) := by
        intro M3 y3_0 y3_1 y3_2 w3_0 w3_1 w3_2 ky3_0 kw3_2 H locs h hP hD hT hS ls hl
        unfold f_X13_readStory_J105 at h
        have J4 : ∀ (M4 : MM) (y4_0 : Nat) (y4_1 : Int32) (y4_2 : Int32) (y4_3 : Int32) (w4_0 : Int32) (ky4_0 : ok g y4_0 13 0) (H : Heap) (locs : List Loc), f_X13_readStory_J128 M4 y4_0 y4_1 y4_2 y4_3 w4_0 = some Z → va_P D vwCl (wd ad cy g M4) H → va_D A (wd ad cy g M4) → WT g M4 → va_S A s.heap H locs → ∀ (ls : Array Slot), lv_has ls 5 [(0, .ref (ad y4_0)), (1, .int y4_1), (2, .int y4_2), (3, .int y4_3)] → W p l e ((headSpec wsX13_readStory ({ frames := 8, cells := 0, slots := 0, locals := 173 })).room) s m (([.ref (ad a0)] : List Value).toArray) below meth c H locs 0 0 (MQ below (va_Qv (fun u => u = Z) (Wd D ad cy A g q) A) ([.ref (ad a0)]).toArray s 0 0 A) (F0 m 128 ls [.int w4_0]) := by
          intro M4 y4_0 y4_1 y4_2 y4_3 w4_0 ky4_0 H locs h hP hD hT hS ls hl
          unfold f_X13_readStory_J128 at h
          refine lv_istore (lv' := [(4, .int w4_0), (0, .ref (ad y4_0)), (1, .int y4_1), (2, .int y4_2), (3, .int y4_3)]) hx hb dX13_readStory_128 hl (by decide) rfl (fun ls hl => ?_)
          refine lv_aload_n hx hb dX13_readStory_130 rfl (lv_at hl 1 rfl) ?_
          refine r_get (T := TX13) (v := .int (gI M4 y4_0 9)) hx hb hts in13 hown hK hP ky4_0 (by decide) rfl 9 (by decide) (hts (.fieldLink RX13 58 "StoneWalkModel" "sort" "I") (List.mem_of_getElem? (i := 2) (by decide +kernel))) rfl (t := 0) rfl rfl dX13_readStory_131 ?_
          refine lv_iconst (v := 5) hx hb dX13_readStory_134 rfl ?_
          refine lv_icmp_ne (tgt := 139) hx hb dX13_readStory_135 rfl (fun c5 => ?_) (fun c5 => ?_)
          · replace h := ite_f c5 h
            refine lv_aload_n hx hb dX13_readStory_139 rfl (lv_at hl 1 rfl) ?_
            rcases hN6 : gR M4 y4_0 4 with _ | b6
            · replace h := oc_n hN6 h
              refine r_get (T := TX13) (v := .null) hx hb hts in13 hown hK hP ky4_0 (by decide) rfl 4 (by decide) (hts (.fieldLink RX13 150 "StoneWalkModel" "read" "LStoneWalkModel$Island;") (List.mem_of_getElem? (i := 1) (by decide +kernel))) rfl (t := 2) rfl (by show va_rf _ = _; rw [hN6]; rfl) dX13_readStory_140 ?_
              exact absurd h (by simp)
            · replace h := oc_s hN6 h
              have kb6 := hT.f ky4_0 (k := 4) (t := 12) (n := 0) rfl hN6
              refine r_get (T := TX13) (v := .ref (ad b6)) hx hb hts in13 hown hK hP ky4_0 (by decide) rfl 4 (by decide) (hts (.fieldLink RX13 150 "StoneWalkModel" "read" "LStoneWalkModel$Island;") (List.mem_of_getElem? (i := 1) (by decide +kernel))) rfl (t := 2) rfl (by show va_rf _ = _; rw [hN6]; rfl) dX13_readStory_140 ?_
              rcases hN7 : gR M4 b6 35 with _ | b7
              · exact absurd (oc_n hN7 h) (by simp)
              replace h := oc_s hN7 h
              have kb7 := hT.f kb6 (k := 35) (t := 15) (n := 5) rfl hN7
              refine r_getN (T := TX12) (v := .ref (ad b7)) hx hb hts in12 hown hK hP kb6 (by decide) rfl 35 (by decide) (hG.2.2.1 ("StoneWalkModel", 382, "StoneWalkModel$Island", "storyWeighs", "[I", "StoneWalkModel") (List.mem_of_getElem? (i := 37) rfl)) rfl (t := 2) rfl (by show va_rf _ = _; rw [hN7]; rfl) dX13_readStory_143 ?_
              refine lv_aload_n hx hb dX13_readStory_146 rfl (lv_at hl 1 rfl) ?_
              rcases hN8 : gR M4 y4_0 4 with _ | b8
              · replace h := oc_n hN8 h
                refine r_get (T := TX13) (v := .null) hx hb hts in13 hown hK hP ky4_0 (by decide) rfl 4 (by decide) (hts (.fieldLink RX13 150 "StoneWalkModel" "read" "LStoneWalkModel$Island;") (List.mem_of_getElem? (i := 1) (by decide +kernel))) rfl (t := 2) rfl (by show va_rf _ = _; rw [hN8]; rfl) dX13_readStory_147 ?_
                exact absurd h (by simp)
              · replace h := oc_s hN8 h
                have kb8 := hT.f ky4_0 (k := 4) (t := 12) (n := 0) rfl hN8
                refine r_get (T := TX13) (v := .ref (ad b8)) hx hb hts in13 hown hK hP ky4_0 (by decide) rfl 4 (by decide) (hts (.fieldLink RX13 150 "StoneWalkModel" "read" "LStoneWalkModel$Island;") (List.mem_of_getElem? (i := 1) (by decide +kernel))) rfl (t := 2) rfl (by show va_rf _ = _; rw [hN8]; rfl) dX13_readStory_147 ?_
                refine r_getN (T := TX12) (v := .int (gI M4 b8 5)) hx hb hts in12 hown hK hP kb8 (by decide) rfl 5 (by decide) (hG.2.2.1 ("StoneWalkModel", 371, "StoneWalkModel$Island", "stories", "I", "StoneWalkModel") (List.mem_of_getElem? (i := 36) rfl)) rfl (t := 0) rfl rfl dX13_readStory_150 ?_
                refine lv_iload_n hx hb dX13_readStory_153 rfl (lv_at hl 2 rfl) ?_
                obtain ⟨hn9, h⟩ := chk_some h
                refine r_iast hx hb hK hP hD hT hS kb7 hn9 dX13_readStory_154 (fun H locs hP hD hT hS => ?_)
                generalize pI M4 b7 (ix (gI M4 b8 5)) y4_1 = Mg1 at h hP hD hT ⊢
                refine lv_aload_n hx hb dX13_readStory_155 rfl (lv_at hl 1 rfl) ?_
                rcases hN10 : gR Mg1 y4_0 4 with _ | b10
                · replace h := oc_n hN10 h
                  refine r_get (T := TX13) (v := .null) hx hb hts in13 hown hK hP ky4_0 (by decide) rfl 4 (by decide) (hts (.fieldLink RX13 150 "StoneWalkModel" "read" "LStoneWalkModel$Island;") (List.mem_of_getElem? (i := 1) (by decide +kernel))) rfl (t := 2) rfl (by show va_rf _ = _; rw [hN10]; rfl) dX13_readStory_156 ?_
                  exact absurd h (by simp)
                · replace h := oc_s hN10 h
                  have kb10 := hT.f ky4_0 (k := 4) (t := 12) (n := 0) rfl hN10
                  refine r_get (T := TX13) (v := .ref (ad b10)) hx hb hts in13 hown hK hP ky4_0 (by decide) rfl 4 (by decide) (hts (.fieldLink RX13 150 "StoneWalkModel" "read" "LStoneWalkModel$Island;") (List.mem_of_getElem? (i := 1) (by decide +kernel))) rfl (t := 2) rfl (by show va_rf _ = _; rw [hN10]; rfl) dX13_readStory_156 ?_
                  rcases hN11 : gR Mg1 b10 36 with _ | b11
                  · exact absurd (oc_n hN11 h) (by simp)
                  replace h := oc_s hN11 h
                  have kb11 := hT.f kb10 (k := 36) (t := 15) (n := 5) rfl hN11
                  refine r_getN (T := TX12) (v := .ref (ad b11)) hx hb hts in12 hown hK hP kb10 (by decide) rfl 36 (by decide) (hG.2.2.1 ("StoneWalkModel", 385, "StoneWalkModel$Island", "cause", "[I", "StoneWalkModel") (List.mem_of_getElem? (i := 38) rfl)) rfl (t := 2) rfl (by show va_rf _ = _; rw [hN11]; rfl) dX13_readStory_159 ?_
                  refine lv_aload_n hx hb dX13_readStory_162 rfl (lv_at hl 1 rfl) ?_
                  rcases hN12 : gR Mg1 y4_0 4 with _ | b12
                  · replace h := oc_n hN12 h
                    refine r_get (T := TX13) (v := .null) hx hb hts in13 hown hK hP ky4_0 (by decide) rfl 4 (by decide) (hts (.fieldLink RX13 150 "StoneWalkModel" "read" "LStoneWalkModel$Island;") (List.mem_of_getElem? (i := 1) (by decide +kernel))) rfl (t := 2) rfl (by show va_rf _ = _; rw [hN12]; rfl) dX13_readStory_163 ?_
                    exact absurd h (by simp)
                  · replace h := oc_s hN12 h
                    have kb12 := hT.f ky4_0 (k := 4) (t := 12) (n := 0) rfl hN12
                    refine r_get (T := TX13) (v := .ref (ad b12)) hx hb hts in13 hown hK hP ky4_0 (by decide) rfl 4 (by decide) (hts (.fieldLink RX13 150 "StoneWalkModel" "read" "LStoneWalkModel$Island;") (List.mem_of_getElem? (i := 1) (by decide +kernel))) rfl (t := 2) rfl (by show va_rf _ = _; rw [hN12]; rfl) dX13_readStory_163 ?_
                    refine r_getN (T := TX12) (v := .int (gI Mg1 b12 5)) hx hb hts in12 hown hK hP kb12 (by decide) rfl 5 (by decide) (hG.2.2.1 ("StoneWalkModel", 371, "StoneWalkModel$Island", "stories", "I", "StoneWalkModel") (List.mem_of_getElem? (i := 36) rfl)) rfl (t := 0) rfl rfl dX13_readStory_166 ?_
                    refine lv_iload_n hx hb dX13_readStory_169 rfl (lv_at hl 3 rfl) ?_
                    obtain ⟨hn13, h⟩ := chk_some h
                    refine r_iast hx hb hK hP hD hT hS kb11 hn13 dX13_readStory_170 (fun H locs hP hD hT hS => ?_)
                    generalize pI Mg1 b11 (ix (gI Mg1 b12 5)) y4_2 = Mg2 at h hP hD hT ⊢
                    refine lv_aload_n hx hb dX13_readStory_171 rfl (lv_at hl 1 rfl) ?_
                    rcases hN14 : gR Mg2 y4_0 4 with _ | b14
                    · replace h := oc_n hN14 h
                      refine r_get (T := TX13) (v := .null) hx hb hts in13 hown hK hP ky4_0 (by decide) rfl 4 (by decide) (hts (.fieldLink RX13 150 "StoneWalkModel" "read" "LStoneWalkModel$Island;") (List.mem_of_getElem? (i := 1) (by decide +kernel))) rfl (t := 2) rfl (by show va_rf _ = _; rw [hN14]; rfl) dX13_readStory_172 ?_
                      exact absurd h (by simp)
                    · replace h := oc_s hN14 h
                      have kb14 := hT.f ky4_0 (k := 4) (t := 12) (n := 0) rfl hN14
                      refine r_get (T := TX13) (v := .ref (ad b14)) hx hb hts in13 hown hK hP ky4_0 (by decide) rfl 4 (by decide) (hts (.fieldLink RX13 150 "StoneWalkModel" "read" "LStoneWalkModel$Island;") (List.mem_of_getElem? (i := 1) (by decide +kernel))) rfl (t := 2) rfl (by show va_rf _ = _; rw [hN14]; rfl) dX13_readStory_172 ?_
                      rcases hN15 : gR Mg2 b14 37 with _ | b15
                      · exact absurd (oc_n hN15 h) (by simp)
                      replace h := oc_s hN15 h
                      have kb15 := hT.f kb14 (k := 37) (t := 15) (n := 5) rfl hN15
                      refine r_getN (T := TX12) (v := .ref (ad b15)) hx hb hts in12 hown hK hP kb14 (by decide) rfl 37 (by decide) (hG.2.2.1 ("StoneWalkModel", 388, "StoneWalkModel$Island", "much", "[I", "StoneWalkModel") (List.mem_of_getElem? (i := 39) rfl)) rfl (t := 2) rfl (by show va_rf _ = _; rw [hN15]; rfl) dX13_readStory_175 ?_
                      refine lv_aload_n hx hb dX13_readStory_178 rfl (lv_at hl 1 rfl) ?_
                      rcases hN16 : gR Mg2 y4_0 4 with _ | b16
                      · replace h := oc_n hN16 h
                        refine r_get (T := TX13) (v := .null) hx hb hts in13 hown hK hP ky4_0 (by decide) rfl 4 (by decide) (hts (.fieldLink RX13 150 "StoneWalkModel" "read" "LStoneWalkModel$Island;") (List.mem_of_getElem? (i := 1) (by decide +kernel))) rfl (t := 2) rfl (by show va_rf _ = _; rw [hN16]; rfl) dX13_readStory_179 ?_
                        exact absurd h (by simp)
                      · replace h := oc_s hN16 h
                        have kb16 := hT.f ky4_0 (k := 4) (t := 12) (n := 0) rfl hN16
                        refine r_get (T := TX13) (v := .ref (ad b16)) hx hb hts in13 hown hK hP ky4_0 (by decide) rfl 4 (by decide) (hts (.fieldLink RX13 150 "StoneWalkModel" "read" "LStoneWalkModel$Island;") (List.mem_of_getElem? (i := 1) (by decide +kernel))) rfl (t := 2) rfl (by show va_rf _ = _; rw [hN16]; rfl) dX13_readStory_179 ?_
                        refine r_getN (T := TX12) (v := .int (gI Mg2 b16 5)) hx hb hts in12 hown hK hP kb16 (by decide) rfl 5 (by decide) (hG.2.2.1 ("StoneWalkModel", 371, "StoneWalkModel$Island", "stories", "I", "StoneWalkModel") (List.mem_of_getElem? (i := 36) rfl)) rfl (t := 0) rfl rfl dX13_readStory_182 ?_
                        refine lv_iload_n hx hb dX13_readStory_185 rfl (lv_at hl 4 rfl) ?_
                        obtain ⟨hn17, h⟩ := chk_some h
                        refine r_iast hx hb hK hP hD hT hS kb15 hn17 dX13_readStory_186 (fun H locs hP hD hT hS => ?_)
                        generalize pI Mg2 b15 (ix (gI Mg2 b16 5)) y4_3 = Mg3 at h hP hD hT ⊢
                        refine lv_aload_n hx hb dX13_readStory_187 rfl (lv_at hl 1 rfl) ?_
                        rcases hN18 : gR Mg3 y4_0 4 with _ | b18
                        · replace h := oc_n hN18 h
                          refine r_get (T := TX13) (v := .null) hx hb hts in13 hown hK hP ky4_0 (by decide) rfl 4 (by decide) (hts (.fieldLink RX13 150 "StoneWalkModel" "read" "LStoneWalkModel$Island;") (List.mem_of_getElem? (i := 1) (by decide +kernel))) rfl (t := 2) rfl (by show va_rf _ = _; rw [hN18]; rfl) dX13_readStory_188 ?_
                          exact absurd h (by simp)
                        · replace h := oc_s hN18 h
                          have kb18 := hT.f ky4_0 (k := 4) (t := 12) (n := 0) rfl hN18
                          refine r_get (T := TX13) (v := .ref (ad b18)) hx hb hts in13 hown hK hP ky4_0 (by decide) rfl 4 (by decide) (hts (.fieldLink RX13 150 "StoneWalkModel" "read" "LStoneWalkModel$Island;") (List.mem_of_getElem? (i := 1) (by decide +kernel))) rfl (t := 2) rfl (by show va_rf _ = _; rw [hN18]; rfl) dX13_readStory_188 ?_
                          rcases hN19 : gR Mg3 b18 38 with _ | b19
                          · exact absurd (oc_n hN19 h) (by simp)
                          replace h := oc_s hN19 h
                          have kb19 := hT.f kb18 (k := 38) (t := 15) (n := 5) rfl hN19
                          refine r_getN (T := TX12) (v := .ref (ad b19)) hx hb hts in12 hown hK hP kb18 (by decide) rfl 38 (by decide) (hG.2.2.1 ("StoneWalkModel", 391, "StoneWalkModel$Island", "every", "[I", "StoneWalkModel") (List.mem_of_getElem? (i := 40) rfl)) rfl (t := 2) rfl (by show va_rf _ = _; rw [hN19]; rfl) dX13_readStory_191 ?_
                          refine lv_aload_n hx hb dX13_readStory_194 rfl (lv_at hl 1 rfl) ?_
                          rcases hN20 : gR Mg3 y4_0 4 with _ | b20
                          · replace h := oc_n hN20 h
                            refine r_get (T := TX13) (v := .null) hx hb hts in13 hown hK hP ky4_0 (by decide) rfl 4 (by decide) (hts (.fieldLink RX13 150 "StoneWalkModel" "read" "LStoneWalkModel$Island;") (List.mem_of_getElem? (i := 1) (by decide +kernel))) rfl (t := 2) rfl (by show va_rf _ = _; rw [hN20]; rfl) dX13_readStory_195 ?_
                            exact absurd h (by simp)
                          · replace h := oc_s hN20 h
                            have kb20 := hT.f ky4_0 (k := 4) (t := 12) (n := 0) rfl hN20
                            refine r_get (T := TX13) (v := .ref (ad b20)) hx hb hts in13 hown hK hP ky4_0 (by decide) rfl 4 (by decide) (hts (.fieldLink RX13 150 "StoneWalkModel" "read" "LStoneWalkModel$Island;") (List.mem_of_getElem? (i := 1) (by decide +kernel))) rfl (t := 2) rfl (by show va_rf _ = _; rw [hN20]; rfl) dX13_readStory_195 ?_
                            refine r_getN (T := TX12) (v := .int (gI Mg3 b20 5)) hx hb hts in12 hown hK hP kb20 (by decide) rfl 5 (by decide) (hG.2.2.1 ("StoneWalkModel", 371, "StoneWalkModel$Island", "stories", "I", "StoneWalkModel") (List.mem_of_getElem? (i := 36) rfl)) rfl (t := 0) rfl rfl dX13_readStory_198 ?_
                            refine lv_iload hx hb dX13_readStory_201 (lv_at hl 0 rfl) ?_
                            obtain ⟨hn21, h⟩ := chk_some h
                            refine r_iast hx hb hK hP hD hT hS kb19 hn21 dX13_readStory_203 (fun H locs hP hD hT hS => ?_)
                            generalize pI Mg3 b19 (ix (gI Mg3 b20 5)) w4_0 = Mg4 at h hP hD hT ⊢
                            refine lv_aload_n hx hb dX13_readStory_204 rfl (lv_at hl 1 rfl) ?_
                            rcases hN22 : gR Mg4 y4_0 4 with _ | b22
                            · replace h := oc_n hN22 h
                              refine r_get (T := TX13) (v := .null) hx hb hts in13 hown hK hP ky4_0 (by decide) rfl 4 (by decide) (hts (.fieldLink RX13 150 "StoneWalkModel" "read" "LStoneWalkModel$Island;") (List.mem_of_getElem? (i := 1) (by decide +kernel))) rfl (t := 2) rfl (by show va_rf _ = _; rw [hN22]; rfl) dX13_readStory_205 ?_
                              refine lv_dup hx hb dX13_readStory_208 rfl ?_
                              exact absurd h (by simp)
                            · replace h := oc_s hN22 h
                              have kb22 := hT.f ky4_0 (k := 4) (t := 12) (n := 0) rfl hN22
                              refine r_get (T := TX13) (v := .ref (ad b22)) hx hb hts in13 hown hK hP ky4_0 (by decide) rfl 4 (by decide) (hts (.fieldLink RX13 150 "StoneWalkModel" "read" "LStoneWalkModel$Island;") (List.mem_of_getElem? (i := 1) (by decide +kernel))) rfl (t := 2) rfl (by show va_rf _ = _; rw [hN22]; rfl) dX13_readStory_205 ?_
                              refine lv_dup hx hb dX13_readStory_208 rfl ?_
                              refine r_getN (T := TX12) (v := .int (gI Mg4 b22 5)) hx hb hts in12 hown hK hP kb22 (by decide) rfl 5 (by decide) (hG.2.2.1 ("StoneWalkModel", 371, "StoneWalkModel$Island", "stories", "I", "StoneWalkModel") (List.mem_of_getElem? (i := 36) rfl)) rfl (t := 0) rfl rfl dX13_readStory_209 ?_
                              refine lv_iconst (v := 1) hx hb dX13_readStory_212 rfl ?_
                              refine lv_iadd hx hb dX13_readStory_213 ?_
                              refine r_putIN (T := TX12) (ty := .int) (v := (gI Mg4 b22 5) + 1) hx hb hts in12 tyX12 tyX12_ok nmX12 hown hK hP hD hT hS kb22 (by decide) rfl 5 (by decide) (hG.2.2.1 ("StoneWalkModel", 371, "StoneWalkModel$Island", "stories", "I", "StoneWalkModel") (List.mem_of_getElem? (i := 36) rfl)) rfl rfl (tyX12_ok 5 (by decide)) rfl rfl rfl dX13_readStory_214 (fun H locs hP hD hT hS => ?_)
                              generalize pI Mg4 b22 5 ((gI Mg4 b22 5) + 1) = Mg5 at h hP hD hT ⊢
                              exact r_vret hx hb hr hlocks hP hK hD hT hG hS (Option.some.inj h) dX13_readStory_217
          · replace h := ite_t c5 h
            exact r_vret hx hb hr hlocks hP hK hD hT hG hS (Option.some.inj h) dX13_readStory_138
        obtain ⟨z23, h23, h⟩ := ob_some h
        refine k_i (va_runV (As := [.int w3_1, .int w3_0]) (rest := []) ⟨hx, hb, hml, hown, hts⟩ (c_X13_readWhole (l := l) M3 w3_2 w3_1 w3_0 kw3_2 h23) (cwV 2 hts gX13_readStory_X13_readWhole rfl rfl rfl hdV_X13_readWhole ⟨Nat.le_of_ble_eq_true rfl, Nat.le_of_ble_eq_true rfl⟩) (pV (T := TX13) hP hK hD hT hG hS kw3_2 (by decide) rfl) rfl rfl hl.1 rfl (lv_room (Nat.le_of_ble_eq_true rfl)) dX13_readStory_105 ⟨Nat.zero_le _, Nat.zero_le _⟩) hS (fun H locs hP hD hT hS => ?_)
        refine lv_istore_n (lv' := [(3, .int z23.1), (0, .ref (ad y3_0)), (1, .int y3_1), (2, .int y3_2)]) hx hb dX13_readStory_108 rfl hl (by decide) rfl (fun ls hl => ?_)
        refine lv_iload_n hx hb dX13_readStory_109 rfl (lv_at hl 3 rfl) ?_
        refine lv_iconst (v := 2) hx hb dX13_readStory_110 rfl ?_
        refine lv_icmp_ne (tgt := 127) hx hb dX13_readStory_111 rfl (fun c24 => ?_) (fun c24 => ?_)
        · replace h := ite_f c24 h
          refine lv_iconst (v := 1) hx hb dX13_readStory_127 rfl ?_
          exact J4 z23.2 y3_0 y3_1 y3_2 z23.1 1 ky3_0 _ _ h hP hD hT hS ls (lv_sub hl [1, 2, 3, 0] rfl)
        · replace h := ite_t c24 h
          refine lv_aload_n hx hb dX13_readStory_114 rfl (lv_at hl 1 rfl) ?_
          refine r_ldcSw (tx := "every") (i := 20) hx hb hG hown (by decide +kernel) dX13_readStory_115 ?_
          refine lv_iconst (v := 1) hx hb dX13_readStory_118 rfl ?_
          refine lv_bipush (v := 50) hx hb dX13_readStory_119 rfl ?_
          obtain ⟨z25, h25, h⟩ := ob_some h
          refine k_i (va_runV (As := [.ref (q.2.1 20), .int 1, .int 50]) (rest := []) ⟨hx, hb, hml, hown, hts⟩ (c_X13_readPart (l := l) z23.2 y3_0 20 1 50 ky3_0 (by decide) h25) (cwV 3 hts gX13_readStory_X13_readPart rfl rfl rfl hdV_X13_readPart ⟨Nat.le_of_ble_eq_true rfl, Nat.le_of_ble_eq_true rfl⟩) (pV (T := TX13) hP hK hD hT hG hS ky3_0 (by decide) rfl) rfl rfl hl.1 rfl (lv_room (Nat.le_of_ble_eq_true rfl)) dX13_readStory_121 ⟨Nat.zero_le _, Nat.zero_le _⟩) hS (fun H locs hP hD hT hS => ?_)
          refine lv_goto (tgt := 128) hx hb dX13_readStory_124 rfl ?_
          exact J4 z25.2 y3_0 y3_1 y3_2 z23.1 z25.1 ky3_0 _ _ h hP hD hT hS ls (lv_sub hl [1, 2, 3, 0] rfl)
      refine lv_aload_n hx hb dX13_readStory_88 rfl (lv_at hl 0 rfl) ?_
      obtain ⟨z26, h26, h⟩ := ob_some h
      refine k_v (va_runV (As := []) (rest := []) ⟨hx, hb, hml, hown, hts⟩ (c_X13_goesOn (l := l) M2 y2_0 ky2_0 h26) (cwV 0 hts gX13_readStory_X13_goesOn rfl rfl rfl hdV_X13_goesOn ⟨Nat.le_of_ble_eq_true rfl, Nat.le_of_ble_eq_true rfl⟩) (pV (T := TX13) hP hK hD hT hG hS ky2_0 (by decide) rfl) rfl rfl hl.1 rfl (lv_room (Nat.le_of_ble_eq_true rfl)) dX13_readStory_89 ⟨Nat.zero_le _, Nat.zero_le _⟩) hS (fun H locs hP hD hT hS => ?_)
      refine lv_aload_n hx hb dX13_readStory_92 rfl (lv_at hl 0 rfl) ?_
      refine lv_iconst (v := 0) hx hb dX13_readStory_93 rfl ?_
      refine lv_iload_n hx hb dX13_readStory_94 rfl (lv_at hl 2 rfl) ?_
      refine lv_if_ne (tgt := 103) hx hb dX13_readStory_95 rfl (fun c27 => ?_) (fun c27 => ?_)
      · replace h := ite_f c27 h
        refine lv_bipush (v := 100) hx hb dX13_readStory_103 rfl ?_
        exact J3 z26 y2_0 y2_1 y2_2 100 0 y2_0 ky2_0 ky2_0 _ _ h hP hD hT hS ls (lv_sub hl [0, 1, 2] rfl)
      · replace h := ite_t c27 h
        refine lv_bipush (v := 99) hx hb dX13_readStory_98 rfl ?_
        refine lv_goto (tgt := 105) hx hb dX13_readStory_100 rfl ?_
        exact J3 z26 y2_0 y2_1 y2_2 99 0 y2_0 ky2_0 ky2_0 _ _ h hP hD hT hS ls (lv_sub hl [0, 1, 2] rfl)
    refine lv_istore_n (lv' := [(2, .int w1_0), (0, .ref (ad y1_0)), (1, .int y1_1)]) hx hb dX13_readStory_77 rfl hl (by decide) rfl (fun ls hl => ?_)
    refine lv_iload_n hx hb dX13_readStory_78 rfl (lv_at hl 0 rfl) ?_
    refine lv_iconst (v := (-1)) hx hb dX13_readStory_79 rfl ?_
    refine lv_icmp_ne (tgt := 88) hx hb dX13_readStory_80 rfl (fun c28 => ?_) (fun c28 => ?_)
    · replace h := ite_f c28 h
      exact J2 M1 y1_0 y1_1 w1_0 ky1_0 _ _ h hP hD hT hS ls (lv_sub hl [1, 2, 0] rfl)
    · replace h := ite_t c28 h
      refine lv_aload_n hx hb dX13_readStory_83 rfl (lv_at hl 1 rfl) ?_
      refine lv_iconst (v := 1) hx hb dX13_readStory_84 rfl ?_
      obtain ⟨z29, h29, h⟩ := ob_some h
      refine k_v (va_runV (As := [.int 1]) (rest := []) ⟨hx, hb, hml, hown, hts⟩ (c_X13_wrong (l := l) M1 y1_0 1 ky1_0 h29) (cwV 1 hts gX13_readStory_X13_wrong rfl rfl rfl hdV_X13_wrong ⟨Nat.le_of_ble_eq_true rfl, Nat.le_of_ble_eq_true rfl⟩) (pV (T := TX13) hP hK hD hT hG hS ky1_0 (by decide) rfl) rfl rfl hl.1 rfl (lv_room (Nat.le_of_ble_eq_true rfl)) dX13_readStory_85 ⟨Nat.zero_le _, Nat.zero_le _⟩) hS (fun H locs hP hD hT hS => ?_)
      exact J2 z29 y1_0 y1_1 w1_0 ky1_0 _ _ h hP hD hT hS ls (lv_sub hl [1, 2, 0] rfl)
  refine lv_aload_n hx hb dX13_readStory_0 rfl (lv_at hl 0 rfl) ?_
  refine lv_aload_n hx hb dX13_readStory_1 rfl (lv_at hl 0 rfl) ?_
  rcases hN30 : gR M a0 4 with _ | b30
  · replace h := oc_n hN30 h
    refine r_get (T := TX13) (v := .null) hx hb hts in13 hown hK hP k0 (by decide) rfl 4 (by decide) (hts (.fieldLink RX13 150 "StoneWalkModel" "read" "LStoneWalkModel$Island;") (List.mem_of_getElem? (i := 1) (by decide +kernel))) rfl (t := 2) rfl (by show va_rf _ = _; rw [hN30]; rfl) dX13_readStory_2 ?_
    exact absurd h (by simp)
  · replace h := oc_s hN30 h
    have kb30 := hT.f k0 (k := 4) (t := 12) (n := 0) rfl hN30
    refine r_get (T := TX13) (v := .ref (ad b30)) hx hb hts in13 hown hK hP k0 (by decide) rfl 4 (by decide) (hts (.fieldLink RX13 150 "StoneWalkModel" "read" "LStoneWalkModel$Island;") (List.mem_of_getElem? (i := 1) (by decide +kernel))) rfl (t := 2) rfl (by show va_rf _ = _; rw [hN30]; rfl) dX13_readStory_2 ?_
    refine r_getN (T := TX12) (v := .int (gI M b30 5)) hx hb hts in12 hown hK hP kb30 (by decide) rfl 5 (by decide) (hG.2.2.1 ("StoneWalkModel", 371, "StoneWalkModel$Island", "stories", "I", "StoneWalkModel") (List.mem_of_getElem? (i := 36) rfl)) rfl (t := 0) rfl rfl dX13_readStory_5 ?_
    refine lv_iconst (v := 5) hx hb dX13_readStory_8 rfl ?_
    obtain ⟨z31, h31, h⟩ := ob_some h
    refine k_v (va_runV (As := [.int (gI M b30 5), .int 5]) (rest := []) ⟨hx, hb, hml, hown, hts⟩ (c_X13_begins (l := l) M a0 (gI M b30 5) 5 k0 h31) (cwV 2 hts gX13_readStory_X13_begins rfl rfl rfl hdV_X13_begins ⟨Nat.le_of_ble_eq_true rfl, Nat.le_of_ble_eq_true rfl⟩) (pV (T := TX13) hP hK hD hT hG hS k0 (by decide) rfl) rfl rfl hl.1 rfl (lv_room (Nat.le_of_ble_eq_true rfl)) dX13_readStory_9 ⟨Nat.zero_le _, Nat.zero_le _⟩) hS (fun H locs hP hD hT hS => ?_)
    refine lv_aload_n hx hb dX13_readStory_12 rfl (lv_at hl 0 rfl) ?_
    refine lv_iconst (v := 2) hx hb dX13_readStory_13 rfl ?_
    refine lv_aload_n hx hb dX13_readStory_14 rfl (lv_at hl 0 rfl) ?_
    rcases hN32 : gR z31 a0 4 with _ | b32
    · replace h := oc_n hN32 h
      refine r_get (T := TX13) (v := .null) hx hb hts in13 hown hK hP k0 (by decide) rfl 4 (by decide) (hts (.fieldLink RX13 150 "StoneWalkModel" "read" "LStoneWalkModel$Island;") (List.mem_of_getElem? (i := 1) (by decide +kernel))) rfl (t := 2) rfl (by show va_rf _ = _; rw [hN32]; rfl) dX13_readStory_15 ?_
      exact absurd h (by simp)
    · replace h := oc_s hN32 h
      have kb32 := hT.f k0 (k := 4) (t := 12) (n := 0) rfl hN32
      refine r_get (T := TX13) (v := .ref (ad b32)) hx hb hts in13 hown hK hP k0 (by decide) rfl 4 (by decide) (hts (.fieldLink RX13 150 "StoneWalkModel" "read" "LStoneWalkModel$Island;") (List.mem_of_getElem? (i := 1) (by decide +kernel))) rfl (t := 2) rfl (by show va_rf _ = _; rw [hN32]; rfl) dX13_readStory_15 ?_
      refine r_getN (T := TX12) (v := .int (gI z31 b32 5)) hx hb hts in12 hown hK hP kb32 (by decide) rfl 5 (by decide) (hG.2.2.1 ("StoneWalkModel", 371, "StoneWalkModel$Island", "stories", "I", "StoneWalkModel") (List.mem_of_getElem? (i := 36) rfl)) rfl (t := 0) rfl rfl dX13_readStory_18 ?_
      obtain ⟨z33, h33, h⟩ := ob_some h
      refine k_v (va_runV (As := [.int 2, .int (gI z31 b32 5)]) (rest := []) ⟨hx, hb, hml, hown, hts⟩ (c_X13_readFresh (l := l) z31 a0 2 (gI z31 b32 5) k0 h33) (cwV 2 hts gX13_readStory_X13_readFresh rfl rfl rfl hdV_X13_readFresh ⟨Nat.le_of_ble_eq_true rfl, Nat.le_of_ble_eq_true rfl⟩) (pV (T := TX13) hP hK hD hT hG hS k0 (by decide) rfl) rfl rfl hl.1 rfl (lv_room (Nat.le_of_ble_eq_true rfl)) dX13_readStory_21 ⟨Nat.zero_le _, Nat.zero_le _⟩) hS (fun H locs hP hD hT hS => ?_)
      refine lv_aload_n hx hb dX13_readStory_24 rfl (lv_at hl 0 rfl) ?_
      refine r_ldcS (tx := "weighs") (i := 2) hx hb hG hown (by decide +kernel) dX13_readStory_25 ?_
      refine lv_iconst (v := 1) hx hb dX13_readStory_27 rfl ?_
      refine lv_bipush (v := 99) hx hb dX13_readStory_28 rfl ?_
      obtain ⟨z34, h34, h⟩ := ob_some h
      refine k_i (va_runV (As := [.ref (q.2.1 2), .int 1, .int 99]) (rest := []) ⟨hx, hb, hml, hown, hts⟩ (c_X13_readPart (l := l) z33 a0 2 1 99 k0 (by decide) h34) (cwV 3 hts gX13_readStory_X13_readPart rfl rfl rfl hdV_X13_readPart ⟨Nat.le_of_ble_eq_true rfl, Nat.le_of_ble_eq_true rfl⟩) (pV (T := TX13) hP hK hD hT hG hS k0 (by decide) rfl) rfl rfl hl.1 rfl (lv_room (Nat.le_of_ble_eq_true rfl)) dX13_readStory_30 ⟨Nat.zero_le _, Nat.zero_le _⟩) hS (fun H locs hP hD hT hS => ?_)
      refine lv_istore_n (lv' := [(1, .int z34.1), (0, .ref (ad a0))]) hx hb dX13_readStory_33 rfl hl (by decide) rfl (fun ls hl => ?_)
      refine lv_aload_n hx hb dX13_readStory_34 rfl (lv_at hl 1 rfl) ?_
      refine r_ldcSw (tx := "felled") (i := 54) hx hb hG hown (by decide +kernel) dX13_readStory_35 ?_
      obtain ⟨z35, h35, h⟩ := ob_some h
      refine k_z (va_runV (As := [.ref (q.2.1 54)]) (rest := []) ⟨hx, hb, hml, hown, hts⟩ (c_X13_isWord (l := l) z34.2 a0 54 k0 (by decide) h35) (cwV 1 hts gX13_readStory_X13_isWord rfl rfl rfl hdV_X13_isWord ⟨Nat.le_of_ble_eq_true rfl, Nat.le_of_ble_eq_true rfl⟩) (pV (T := TX13) hP hK hD hT hG hS k0 (by decide) rfl) rfl rfl hl.1 rfl (lv_room (Nat.le_of_ble_eq_true rfl)) dX13_readStory_38 ⟨Nat.zero_le _, Nat.zero_le _⟩) hS (fun H locs hz35 hP hD hT hS => ?_)
      refine lv_if_eq (tgt := 48) hx hb dX13_readStory_41 rfl (fun c36 => ?_) (fun c36 => ?_)
      · replace h := ite_t c36 h
        refine lv_aload_n hx hb dX13_readStory_48 rfl (lv_at hl 1 rfl) ?_
        refine r_ldcSw (tx := "rats") (i := 55) hx hb hG hown (by decide +kernel) dX13_readStory_49 ?_
        obtain ⟨z37, h37, h⟩ := ob_some h
        refine k_z (va_runV (As := [.ref (q.2.1 55)]) (rest := []) ⟨hx, hb, hml, hown, hts⟩ (c_X13_isWord (l := l) z34.2 a0 55 k0 (by decide) h37) (cwV 1 hts gX13_readStory_X13_isWord rfl rfl rfl hdV_X13_isWord ⟨Nat.le_of_ble_eq_true rfl, Nat.le_of_ble_eq_true rfl⟩) (pV (T := TX13) hP hK hD hT hG hS k0 (by decide) rfl) rfl rfl hl.1 rfl (lv_room (Nat.le_of_ble_eq_true rfl)) dX13_readStory_52 ⟨Nat.zero_le _, Nat.zero_le _⟩) hS (fun H locs hz37 hP hD hT hS => ?_)
        refine lv_if_eq (tgt := 62) hx hb dX13_readStory_55 rfl (fun c38 => ?_) (fun c38 => ?_)
        · replace h := ite_t c38 h
          refine lv_aload_n hx hb dX13_readStory_62 rfl (lv_at hl 1 rfl) ?_
          refine r_ldcSw (tx := "fires") (i := 56) hx hb hG hown (by decide +kernel) dX13_readStory_63 ?_
          obtain ⟨z39, h39, h⟩ := ob_some h
          refine k_z (va_runV (As := [.ref (q.2.1 56)]) (rest := []) ⟨hx, hb, hml, hown, hts⟩ (c_X13_isWord (l := l) z34.2 a0 56 k0 (by decide) h39) (cwV 1 hts gX13_readStory_X13_isWord rfl rfl rfl hdV_X13_isWord ⟨Nat.le_of_ble_eq_true rfl, Nat.le_of_ble_eq_true rfl⟩) (pV (T := TX13) hP hK hD hT hG hS k0 (by decide) rfl) rfl rfl hl.1 rfl (lv_room (Nat.le_of_ble_eq_true rfl)) dX13_readStory_66 ⟨Nat.zero_le _, Nat.zero_le _⟩) hS (fun H locs hz39 hP hD hT hS => ?_)
          refine lv_if_eq (tgt := 76) hx hb dX13_readStory_69 rfl (fun c40 => ?_) (fun c40 => ?_)
          · replace h := ite_t c40 h
            refine lv_iconst (v := (-1)) hx hb dX13_readStory_76 rfl ?_
            exact J1 z34.2 a0 z34.1 (-1) k0 _ _ h hP hD hT hS ls (lv_sub hl [1, 0] rfl)
          · replace h := ite_f c40 h
            refine lv_iconst (v := 2) hx hb dX13_readStory_72 rfl ?_
            refine lv_goto (tgt := 77) hx hb dX13_readStory_73 rfl ?_
            exact J1 z34.2 a0 z34.1 2 k0 _ _ h hP hD hT hS ls (lv_sub hl [1, 0] rfl)
        · replace h := ite_f c38 h
          refine lv_iconst (v := 1) hx hb dX13_readStory_58 rfl ?_
          refine lv_goto (tgt := 77) hx hb dX13_readStory_59 rfl ?_
          exact J1 z34.2 a0 z34.1 1 k0 _ _ h hP hD hT hS ls (lv_sub hl [1, 0] rfl)
      · replace h := ite_f c36 h
        refine lv_iconst (v := 0) hx hb dX13_readStory_44 rfl ?_
        refine lv_goto (tgt := 77) hx hb dX13_readStory_45 rfl ?_
        exact J1 z34.2 a0 z34.1 0 k0 _ _ h hP hD hT hS ls (lv_sub hl [1, 0] rfl)
