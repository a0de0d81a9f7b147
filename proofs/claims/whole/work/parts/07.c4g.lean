set_option maxHeartbeats 4000000 in
set_option maxRecDepth 100000 in
theorem c_X13_readTrial {l : Launch} {D : va_G} {ad : Nat → Nat} {cy : Nat → ClassId} {A : Nat → Prop} {g : CG} {q : SE} (M : MM) (a0 : Nat) (k0 : ok g a0 13 0) {Z : MM} (h : f_X13_readTrial M a0 = some Z) : Met l yX13_readTrial wsX13_readTrial ({ frames := 9, cells := 0, slots := 0, locals := 193 }) (va_Pc [.ref (ad a0)] (Wd D ad cy A g q M)) (va_Qv (fun u => u = Z) (Wd D ad cy A g q) A) 0 0 A := by
  refine Met.ofW (cc := cX13_readTrial) (maxL := 6) (ret := none) (by decide) rfl ?_
  intro p e s m args below meth c s₁ B hml hv
  obtain ⟨rfl, hP, hK, hD, hT, hG⟩ := hv
  have hx := B.exec
  have hb := B.bytes
  have hr := B.returns
  have hts := atoms_spec (ws := wsX13_readTrial) B.pre
  have hown : s.vm.findClass RX13 = some m.cls := findClass_of_methodNamed B.named
  have hlocks := B.notSynchronized
  have in12 : ∀ w ∈ u_ws RX12 TX12 48, w ∈ wsX13_readTrial := fun w h => List.mem_cons_of_mem _ (List.mem_append_right _ h)
  have in13 : ∀ w ∈ u_ws RX13 TX13 29, w ∈ wsX13_readTrial := fun w h => List.mem_cons_of_mem _ (List.mem_append_left _ (List.mem_append_right _ h))
  have hS : va_S A s.heap s.heap [] := va_S.rf
  have hl := lv_entry ([.ref (ad a0)]) (n := 6) (Nat.le_of_ble_eq_true rfl)
  rw [lg_entry_eq]
  generalize (lg_sl ([.ref (ad a0)]) ++ List.replicate (6 - (lg_sl ([.ref (ad a0)])).length) Slot.unset).toArray = ls at hl ⊢
  have hl : lv_has ls 6 [(0, .ref (ad a0))] := hl
  unfold f_X13_readTrial at h
  refine lv_aload_n hx hb dX13_readTrial_0 rfl (lv_at hl 0 rfl) ?_
  refine lv_aload_n hx hb dX13_readTrial_1 rfl (lv_at hl 0 rfl) ?_
  rcases hN1 : gR M a0 4 with _ | b1
  · replace h := oc_n hN1 h
    refine r_get (T := TX13) (v := .null) hx hb hts in13 hown hK hP k0 (by decide) rfl 4 (by decide) (hts (.fieldLink RX13 150 "StoneWalkModel" "read" "LStoneWalkModel$Island;") (List.mem_of_getElem? (i := 1) (by decide +kernel))) rfl (t := 2) rfl (by show va_rf _ = _; rw [hN1]; rfl) dX13_readTrial_2 ?_
    exact absurd h (by simp)
  · replace h := oc_s hN1 h
    have kb1 := hT.f k0 (k := 4) (t := 12) (n := 0) rfl hN1
    refine r_get (T := TX13) (v := .ref (ad b1)) hx hb hts in13 hown hK hP k0 (by decide) rfl 4 (by decide) (hts (.fieldLink RX13 150 "StoneWalkModel" "read" "LStoneWalkModel$Island;") (List.mem_of_getElem? (i := 1) (by decide +kernel))) rfl (t := 2) rfl (by show va_rf _ = _; rw [hN1]; rfl) dX13_readTrial_2 ?_
    refine r_getN (T := TX12) (v := .int (gI M b1 4)) hx hb hts in12 hown hK hP kb1 (by decide) rfl 4 (by decide) (hG.2.2.1 ("StoneWalkModel", 317, "StoneWalkModel$Island", "trials", "I", "StoneWalkModel") (List.mem_of_getElem? (i := 22) rfl)) rfl (t := 0) rfl rfl dX13_readTrial_5 ?_
    refine lv_iconst (v := 5) hx hb dX13_readTrial_8 rfl ?_
    obtain ⟨z2, h2, h⟩ := ob_some h
    refine k_v (va_runV (As := [.int (gI M b1 4), .int 5]) (rest := []) ⟨hx, hb, hml, hown, hts⟩ (c_X13_begins (l := l) M a0 (gI M b1 4) 5 k0 h2) (cwV 2 hts gX13_readTrial_X13_begins rfl rfl rfl hdV_X13_begins ⟨Nat.le_of_ble_eq_true rfl, Nat.le_of_ble_eq_true rfl⟩) (pV (T := TX13) hP hK hD hT hG hS k0 (by decide) rfl) rfl rfl hl.1 rfl (lv_room (Nat.le_of_ble_eq_true rfl)) dX13_readTrial_9 ⟨Nat.zero_le _, Nat.zero_le _⟩) hS (fun H locs hP hD hT hS => ?_)
    refine lv_aload_n hx hb dX13_readTrial_12 rfl (lv_at hl 0 rfl) ?_
    refine lv_iconst (v := 2) hx hb dX13_readTrial_13 rfl ?_
    refine lv_aload_n hx hb dX13_readTrial_14 rfl (lv_at hl 0 rfl) ?_
    rcases hN3 : gR z2 a0 4 with _ | b3
    · replace h := oc_n hN3 h
      refine r_get (T := TX13) (v := .null) hx hb hts in13 hown hK hP k0 (by decide) rfl 4 (by decide) (hts (.fieldLink RX13 150 "StoneWalkModel" "read" "LStoneWalkModel$Island;") (List.mem_of_getElem? (i := 1) (by decide +kernel))) rfl (t := 2) rfl (by show va_rf _ = _; rw [hN3]; rfl) dX13_readTrial_15 ?_
      exact absurd h (by simp)
    · replace h := oc_s hN3 h
      have kb3 := hT.f k0 (k := 4) (t := 12) (n := 0) rfl hN3
      refine r_get (T := TX13) (v := .ref (ad b3)) hx hb hts in13 hown hK hP k0 (by decide) rfl 4 (by decide) (hts (.fieldLink RX13 150 "StoneWalkModel" "read" "LStoneWalkModel$Island;") (List.mem_of_getElem? (i := 1) (by decide +kernel))) rfl (t := 2) rfl (by show va_rf _ = _; rw [hN3]; rfl) dX13_readTrial_15 ?_
      refine r_getN (T := TX12) (v := .int (gI z2 b3 4)) hx hb hts in12 hown hK hP kb3 (by decide) rfl 4 (by decide) (hG.2.2.1 ("StoneWalkModel", 317, "StoneWalkModel$Island", "trials", "I", "StoneWalkModel") (List.mem_of_getElem? (i := 22) rfl)) rfl (t := 0) rfl rfl dX13_readTrial_18 ?_
      obtain ⟨z4, h4, h⟩ := ob_some h
      refine k_v (va_runV (As := [.int 2, .int (gI z2 b3 4)]) (rest := []) ⟨hx, hb, hml, hown, hts⟩ (c_X13_readFresh (l := l) z2 a0 2 (gI z2 b3 4) k0 h4) (cwV 2 hts gX13_readTrial_X13_readFresh rfl rfl rfl hdV_X13_readFresh ⟨Nat.le_of_ble_eq_true rfl, Nat.le_of_ble_eq_true rfl⟩) (pV (T := TX13) hP hK hD hT hG hS k0 (by decide) rfl) rfl rfl hl.1 rfl (lv_room (Nat.le_of_ble_eq_true rfl)) dX13_readTrial_21 ⟨Nat.zero_le _, Nat.zero_le _⟩) hS (fun H locs hP hD hT hS => ?_)
      refine lv_aload_n hx hb dX13_readTrial_24 rfl (lv_at hl 0 rfl) ?_
      refine r_ldcSw (tx := "of") (i := 15) hx hb hG hown (by decide +kernel) dX13_readTrial_25 ?_
      obtain ⟨z5, h5, h⟩ := ob_some h
      refine k_v (va_runV (As := [.ref (q.2.1 15)]) (rest := []) ⟨hx, hb, hml, hown, hts⟩ (c_X13_needs (l := l) z4 a0 15 k0 (by decide) h5) (cwV 1 hts gX13_readTrial_X13_needs rfl rfl rfl hdV_X13_needs ⟨Nat.le_of_ble_eq_true rfl, Nat.le_of_ble_eq_true rfl⟩) (pV (T := TX13) hP hK hD hT hG hS k0 (by decide) rfl) rfl rfl hl.1 rfl (lv_room (Nat.le_of_ble_eq_true rfl)) dX13_readTrial_28 ⟨Nat.zero_le _, Nat.zero_le _⟩) hS (fun H locs hP hD hT hS => ?_)
      refine lv_aload_n hx hb dX13_readTrial_31 rfl (lv_at hl 0 rfl) ?_
      refine lv_iconst (v := 0) hx hb dX13_readTrial_32 rfl ?_
      obtain ⟨z6, h6, h⟩ := ob_some h
      refine k_i (va_runV (As := [.int 0]) (rest := []) ⟨hx, hb, hml, hown, hts⟩ (c_X13_readKnown (l := l) z5 a0 0 k0 h6) (cwV 1 hts gX13_readTrial_X13_readKnown rfl rfl rfl hdV_X13_readKnown ⟨Nat.le_of_ble_eq_true rfl, Nat.le_of_ble_eq_true rfl⟩) (pV (T := TX13) hP hK hD hT hG hS k0 (by decide) rfl) rfl rfl hl.1 rfl (lv_room (Nat.le_of_ble_eq_true rfl)) dX13_readTrial_33 ⟨Nat.zero_le _, Nat.zero_le _⟩) hS (fun H locs hP hD hT hS => ?_)
      refine lv_istore_n (lv' := [(1, .int z6.1), (0, .ref (ad a0))]) hx hb dX13_readTrial_36 rfl hl (by decide) rfl (fun ls hl => ?_)
      refine lv_aload_n hx hb dX13_readTrial_37 rfl (lv_at hl 1 rfl) ?_
      refine r_ldcSw (tx := "tons") (i := 7) hx hb hG hown (by decide +kernel) dX13_readTrial_38 ?_
      refine lv_iconst (v := 1) hx hb dX13_readTrial_41 rfl ?_
      refine lv_bipush (v := 99) hx hb dX13_readTrial_42 rfl ?_
      obtain ⟨z7, h7, h⟩ := ob_some h
      refine k_i (va_runV (As := [.ref (q.2.1 7), .int 1, .int 99]) (rest := []) ⟨hx, hb, hml, hown, hts⟩ (c_X13_readPart (l := l) z6.2 a0 7 1 99 k0 (by decide) h7) (cwV 3 hts gX13_readTrial_X13_readPart rfl rfl rfl hdV_X13_readPart ⟨Nat.le_of_ble_eq_true rfl, Nat.le_of_ble_eq_true rfl⟩) (pV (T := TX13) hP hK hD hT hG hS k0 (by decide) rfl) rfl rfl hl.1 rfl (lv_room (Nat.le_of_ble_eq_true rfl)) dX13_readTrial_44 ⟨Nat.zero_le _, Nat.zero_le _⟩) hS (fun H locs hP hD hT hS => ?_)
      refine lv_istore_n (lv' := [(2, .int z7.1), (1, .int z6.1), (0, .ref (ad a0))]) hx hb dX13_readTrial_47 rfl hl (by decide) rfl (fun ls hl => ?_)
      refine lv_aload_n hx hb dX13_readTrial_48 rfl (lv_at hl 2 rfl) ?_
      refine r_ldcSw (tx := "people") (i := 16) hx hb hG hown (by decide +kernel) dX13_readTrial_49 ?_
      refine lv_iconst (v := 1) hx hb dX13_readTrial_52 rfl ?_
      refine lv_sipush (v := 200) hx hb dX13_readTrial_53 rfl ?_
      obtain ⟨z8, h8, h⟩ := ob_some h
      refine k_i (va_runV (As := [.ref (q.2.1 16), .int 1, .int 200]) (rest := []) ⟨hx, hb, hml, hown, hts⟩ (c_X13_readPart (l := l) z7.2 a0 16 1 200 k0 (by decide) h8) (cwV 3 hts gX13_readTrial_X13_readPart rfl rfl rfl hdV_X13_readPart ⟨Nat.le_of_ble_eq_true rfl, Nat.le_of_ble_eq_true rfl⟩) (pV (T := TX13) hP hK hD hT hG hS k0 (by decide) rfl) rfl rfl hl.1 rfl (lv_room (Nat.le_of_ble_eq_true rfl)) dX13_readTrial_56 ⟨Nat.zero_le _, Nat.zero_le _⟩) hS (fun H locs hP hD hT hS => ?_)
      refine lv_istore_n (lv' := [(3, .int z8.1), (2, .int z7.1), (1, .int z6.1), (0, .ref (ad a0))]) hx hb dX13_readTrial_59 rfl hl (by decide) rfl (fun ls hl => ?_)
      refine lv_aload_n hx hb dX13_readTrial_60 rfl (lv_at hl 3 rfl) ?_
      refine r_ldcSw (tx := "yards") (i := 17) hx hb hG hown (by decide +kernel) dX13_readTrial_61 ?_
      refine lv_iconst (v := 1) hx hb dX13_readTrial_64 rfl ?_
      refine lv_sipush (v := 999) hx hb dX13_readTrial_65 rfl ?_
      obtain ⟨z9, h9, h⟩ := ob_some h
      refine k_i (va_runV (As := [.ref (q.2.1 17), .int 1, .int 999]) (rest := []) ⟨hx, hb, hml, hown, hts⟩ (c_X13_readPart (l := l) z8.2 a0 17 1 999 k0 (by decide) h9) (cwV 3 hts gX13_readTrial_X13_readPart rfl rfl rfl hdV_X13_readPart ⟨Nat.le_of_ble_eq_true rfl, Nat.le_of_ble_eq_true rfl⟩) (pV (T := TX13) hP hK hD hT hG hS k0 (by decide) rfl) rfl rfl hl.1 rfl (lv_room (Nat.le_of_ble_eq_true rfl)) dX13_readTrial_68 ⟨Nat.zero_le _, Nat.zero_le _⟩) hS (fun H locs hP hD hT hS => ?_)
      refine lv_istore (lv' := [(4, .int z9.1), (3, .int z8.1), (2, .int z7.1), (1, .int z6.1), (0, .ref (ad a0))]) hx hb dX13_readTrial_71 hl (by decide) rfl (fun ls hl => ?_)
      refine lv_aload_n hx hb dX13_readTrial_73 rfl (lv_at hl 4 rfl) ?_
      refine r_ldcSw (tx := "minutes") (i := 18) hx hb hG hown (by decide +kernel) dX13_readTrial_74 ?_
      refine lv_iconst (v := 1) hx hb dX13_readTrial_77 rfl ?_
      refine lv_sipush (v := 999) hx hb dX13_readTrial_78 rfl ?_
      obtain ⟨z10, h10, h⟩ := ob_some h
      refine k_i (va_runV (As := [.ref (q.2.1 18), .int 1, .int 999]) (rest := []) ⟨hx, hb, hml, hown, hts⟩ (c_X13_readPart (l := l) z9.2 a0 18 1 999 k0 (by decide) h10) (cwV 3 hts gX13_readTrial_X13_readPart rfl rfl rfl hdV_X13_readPart ⟨Nat.le_of_ble_eq_true rfl, Nat.le_of_ble_eq_true rfl⟩) (pV (T := TX13) hP hK hD hT hG hS k0 (by decide) rfl) rfl rfl hl.1 rfl (lv_room (Nat.le_of_ble_eq_true rfl)) dX13_readTrial_81 ⟨Nat.zero_le _, Nat.zero_le _⟩) hS (fun H locs hP hD hT hS => ?_)
      refine lv_istore (lv' := [(5, .int z10.1), (4, .int z9.1), (3, .int z8.1), (2, .int z7.1), (1, .int z6.1), (0, .ref (ad a0))]) hx hb dX13_readTrial_84 hl (by decide) rfl (fun ls hl => ?_)
      refine lv_aload_n hx hb dX13_readTrial_86 rfl (lv_at hl 5 rfl) ?_
      refine r_get (T := TX13) (v := .int (gI z10.2 a0 9)) hx hb hts in13 hown hK hP k0 (by decide) rfl 9 (by decide) (hts (.fieldLink RX13 58 "StoneWalkModel" "sort" "I") (List.mem_of_getElem? (i := 2) (by decide +kernel))) rfl (t := 0) rfl rfl dX13_readTrial_87 ?_
      refine lv_iconst (v := 5) hx hb dX13_readTrial_90 rfl ?_
      refine lv_icmp_ne (tgt := 95) hx hb dX13_readTrial_91 rfl (fun c11 => ?_) (fun c11 => ?_)
      · replace h := ite_f c11 h
        refine lv_aload_n hx hb dX13_readTrial_95 rfl (lv_at hl 5 rfl) ?_
        rcases hN12 : gR z10.2 a0 4 with _ | b12
        · replace h := oc_n hN12 h
          refine r_get (T := TX13) (v := .null) hx hb hts in13 hown hK hP k0 (by decide) rfl 4 (by decide) (hts (.fieldLink RX13 150 "StoneWalkModel" "read" "LStoneWalkModel$Island;") (List.mem_of_getElem? (i := 1) (by decide +kernel))) rfl (t := 2) rfl (by show va_rf _ = _; rw [hN12]; rfl) dX13_readTrial_96 ?_
          exact absurd h (by simp)
        · replace h := oc_s hN12 h
          have kb12 := hT.f k0 (k := 4) (t := 12) (n := 0) rfl hN12
          refine r_get (T := TX13) (v := .ref (ad b12)) hx hb hts in13 hown hK hP k0 (by decide) rfl 4 (by decide) (hts (.fieldLink RX13 150 "StoneWalkModel" "read" "LStoneWalkModel$Island;") (List.mem_of_getElem? (i := 1) (by decide +kernel))) rfl (t := 2) rfl (by show va_rf _ = _; rw [hN12]; rfl) dX13_readTrial_96 ?_
          rcases hN13 : gR z10.2 b12 22 with _ | b13
          · exact absurd (oc_n hN13 h) (by simp)
          replace h := oc_s hN13 h
          have kb13 := hT.f kb12 (k := 22) (t := 15) (n := 5) rfl hN13
          refine r_getN (T := TX12) (v := .ref (ad b13)) hx hb hts in12 hown hK hP kb12 (by decide) rfl 22 (by decide) (hG.2.2.1 ("StoneWalkModel", 328, "StoneWalkModel$Island", "trialWay", "[I", "StoneWalkModel") (List.mem_of_getElem? (i := 23) rfl)) rfl (t := 2) rfl (by show va_rf _ = _; rw [hN13]; rfl) dX13_readTrial_99 ?_
          refine lv_aload_n hx hb dX13_readTrial_102 rfl (lv_at hl 5 rfl) ?_
          rcases hN14 : gR z10.2 a0 4 with _ | b14
          · replace h := oc_n hN14 h
            refine r_get (T := TX13) (v := .null) hx hb hts in13 hown hK hP k0 (by decide) rfl 4 (by decide) (hts (.fieldLink RX13 150 "StoneWalkModel" "read" "LStoneWalkModel$Island;") (List.mem_of_getElem? (i := 1) (by decide +kernel))) rfl (t := 2) rfl (by show va_rf _ = _; rw [hN14]; rfl) dX13_readTrial_103 ?_
            exact absurd h (by simp)
          · replace h := oc_s hN14 h
            have kb14 := hT.f k0 (k := 4) (t := 12) (n := 0) rfl hN14
            refine r_get (T := TX13) (v := .ref (ad b14)) hx hb hts in13 hown hK hP k0 (by decide) rfl 4 (by decide) (hts (.fieldLink RX13 150 "StoneWalkModel" "read" "LStoneWalkModel$Island;") (List.mem_of_getElem? (i := 1) (by decide +kernel))) rfl (t := 2) rfl (by show va_rf _ = _; rw [hN14]; rfl) dX13_readTrial_103 ?_
            refine r_getN (T := TX12) (v := .int (gI z10.2 b14 4)) hx hb hts in12 hown hK hP kb14 (by decide) rfl 4 (by decide) (hG.2.2.1 ("StoneWalkModel", 317, "StoneWalkModel$Island", "trials", "I", "StoneWalkModel") (List.mem_of_getElem? (i := 22) rfl)) rfl (t := 0) rfl rfl dX13_readTrial_106 ?_
            refine lv_iload_n hx hb dX13_readTrial_109 rfl (lv_at hl 4 rfl) ?_
            obtain ⟨hn15, h⟩ := chk_some h
            refine r_iast hx hb hK hP hD hT hS kb13 hn15 dX13_readTrial_110 (fun H locs hP hD hT hS => ?_)
            generalize pI z10.2 b13 (ix (gI z10.2 b14 4)) z6.1 = Mg1 at h hP hD hT ⊢
            refine lv_aload_n hx hb dX13_readTrial_111 rfl (lv_at hl 5 rfl) ?_
            rcases hN16 : gR Mg1 a0 4 with _ | b16
            · replace h := oc_n hN16 h
              refine r_get (T := TX13) (v := .null) hx hb hts in13 hown hK hP k0 (by decide) rfl 4 (by decide) (hts (.fieldLink RX13 150 "StoneWalkModel" "read" "LStoneWalkModel$Island;") (List.mem_of_getElem? (i := 1) (by decide +kernel))) rfl (t := 2) rfl (by show va_rf _ = _; rw [hN16]; rfl) dX13_readTrial_112 ?_
              exact absurd h (by simp)
            · replace h := oc_s hN16 h
              have kb16 := hT.f k0 (k := 4) (t := 12) (n := 0) rfl hN16
              refine r_get (T := TX13) (v := .ref (ad b16)) hx hb hts in13 hown hK hP k0 (by decide) rfl 4 (by decide) (hts (.fieldLink RX13 150 "StoneWalkModel" "read" "LStoneWalkModel$Island;") (List.mem_of_getElem? (i := 1) (by decide +kernel))) rfl (t := 2) rfl (by show va_rf _ = _; rw [hN16]; rfl) dX13_readTrial_112 ?_
              rcases hN17 : gR Mg1 b16 23 with _ | b17
              · exact absurd (oc_n hN17 h) (by simp)
              replace h := oc_s hN17 h
              have kb17 := hT.f kb16 (k := 23) (t := 15) (n := 5) rfl hN17
              refine r_getN (T := TX12) (v := .ref (ad b17)) hx hb hts in12 hown hK hP kb16 (by decide) rfl 23 (by decide) (hG.2.2.1 ("StoneWalkModel", 331, "StoneWalkModel$Island", "trialTons", "[I", "StoneWalkModel") (List.mem_of_getElem? (i := 24) rfl)) rfl (t := 2) rfl (by show va_rf _ = _; rw [hN17]; rfl) dX13_readTrial_115 ?_
              refine lv_aload_n hx hb dX13_readTrial_118 rfl (lv_at hl 5 rfl) ?_
              rcases hN18 : gR Mg1 a0 4 with _ | b18
              · replace h := oc_n hN18 h
                refine r_get (T := TX13) (v := .null) hx hb hts in13 hown hK hP k0 (by decide) rfl 4 (by decide) (hts (.fieldLink RX13 150 "StoneWalkModel" "read" "LStoneWalkModel$Island;") (List.mem_of_getElem? (i := 1) (by decide +kernel))) rfl (t := 2) rfl (by show va_rf _ = _; rw [hN18]; rfl) dX13_readTrial_119 ?_
                exact absurd h (by simp)
              · replace h := oc_s hN18 h
                have kb18 := hT.f k0 (k := 4) (t := 12) (n := 0) rfl hN18
                refine r_get (T := TX13) (v := .ref (ad b18)) hx hb hts in13 hown hK hP k0 (by decide) rfl 4 (by decide) (hts (.fieldLink RX13 150 "StoneWalkModel" "read" "LStoneWalkModel$Island;") (List.mem_of_getElem? (i := 1) (by decide +kernel))) rfl (t := 2) rfl (by show va_rf _ = _; rw [hN18]; rfl) dX13_readTrial_119 ?_
                refine r_getN (T := TX12) (v := .int (gI Mg1 b18 4)) hx hb hts in12 hown hK hP kb18 (by decide) rfl 4 (by decide) (hG.2.2.1 ("StoneWalkModel", 317, "StoneWalkModel$Island", "trials", "I", "StoneWalkModel") (List.mem_of_getElem? (i := 22) rfl)) rfl (t := 0) rfl rfl dX13_readTrial_122 ?_
                refine lv_iload_n hx hb dX13_readTrial_125 rfl (lv_at hl 3 rfl) ?_
                obtain ⟨hn19, h⟩ := chk_some h
                refine r_iast hx hb hK hP hD hT hS kb17 hn19 dX13_readTrial_126 (fun H locs hP hD hT hS => ?_)
                generalize pI Mg1 b17 (ix (gI Mg1 b18 4)) z7.1 = Mg2 at h hP hD hT ⊢
                refine lv_aload_n hx hb dX13_readTrial_127 rfl (lv_at hl 5 rfl) ?_
                rcases hN20 : gR Mg2 a0 4 with _ | b20
                · replace h := oc_n hN20 h
                  refine r_get (T := TX13) (v := .null) hx hb hts in13 hown hK hP k0 (by decide) rfl 4 (by decide) (hts (.fieldLink RX13 150 "StoneWalkModel" "read" "LStoneWalkModel$Island;") (List.mem_of_getElem? (i := 1) (by decide +kernel))) rfl (t := 2) rfl (by show va_rf _ = _; rw [hN20]; rfl) dX13_readTrial_128 ?_
                  exact absurd h (by simp)
                · replace h := oc_s hN20 h
                  have kb20 := hT.f k0 (k := 4) (t := 12) (n := 0) rfl hN20
                  refine r_get (T := TX13) (v := .ref (ad b20)) hx hb hts in13 hown hK hP k0 (by decide) rfl 4 (by decide) (hts (.fieldLink RX13 150 "StoneWalkModel" "read" "LStoneWalkModel$Island;") (List.mem_of_getElem? (i := 1) (by decide +kernel))) rfl (t := 2) rfl (by show va_rf _ = _; rw [hN20]; rfl) dX13_readTrial_128 ?_
                  rcases hN21 : gR Mg2 b20 24 with _ | b21
                  · exact absurd (oc_n hN21 h) (by simp)
                  replace h := oc_s hN21 h
                  have kb21 := hT.f kb20 (k := 24) (t := 15) (n := 5) rfl hN21
                  refine r_getN (T := TX12) (v := .ref (ad b21)) hx hb hts in12 hown hK hP kb20 (by decide) rfl 24 (by decide) (hG.2.2.1 ("StoneWalkModel", 334, "StoneWalkModel$Island", "trialPeople", "[I", "StoneWalkModel") (List.mem_of_getElem? (i := 25) rfl)) rfl (t := 2) rfl (by show va_rf _ = _; rw [hN21]; rfl) dX13_readTrial_131 ?_
                  refine lv_aload_n hx hb dX13_readTrial_134 rfl (lv_at hl 5 rfl) ?_
                  rcases hN22 : gR Mg2 a0 4 with _ | b22
                  · replace h := oc_n hN22 h
                    refine r_get (T := TX13) (v := .null) hx hb hts in13 hown hK hP k0 (by decide) rfl 4 (by decide) (hts (.fieldLink RX13 150 "StoneWalkModel" "read" "LStoneWalkModel$Island;") (List.mem_of_getElem? (i := 1) (by decide +kernel))) rfl (t := 2) rfl (by show va_rf _ = _; rw [hN22]; rfl) dX13_readTrial_135 ?_
                    exact absurd h (by simp)
                  · replace h := oc_s hN22 h
                    have kb22 := hT.f k0 (k := 4) (t := 12) (n := 0) rfl hN22
                    refine r_get (T := TX13) (v := .ref (ad b22)) hx hb hts in13 hown hK hP k0 (by decide) rfl 4 (by decide) (hts (.fieldLink RX13 150 "StoneWalkModel" "read" "LStoneWalkModel$Island;") (List.mem_of_getElem? (i := 1) (by decide +kernel))) rfl (t := 2) rfl (by show va_rf _ = _; rw [hN22]; rfl) dX13_readTrial_135 ?_
                    refine r_getN (T := TX12) (v := .int (gI Mg2 b22 4)) hx hb hts in12 hown hK hP kb22 (by decide) rfl 4 (by decide) (hG.2.2.1 ("StoneWalkModel", 317, "StoneWalkModel$Island", "trials", "I", "StoneWalkModel") (List.mem_of_getElem? (i := 22) rfl)) rfl (t := 0) rfl rfl dX13_readTrial_138 ?_
                    refine lv_iload_n hx hb dX13_readTrial_141 rfl (lv_at hl 2 rfl) ?_
                    obtain ⟨hn23, h⟩ := chk_some h
                    refine r_iast hx hb hK hP hD hT hS kb21 hn23 dX13_readTrial_142 (fun H locs hP hD hT hS => ?_)
                    generalize pI Mg2 b21 (ix (gI Mg2 b22 4)) z8.1 = Mg3 at h hP hD hT ⊢
                    refine lv_aload_n hx hb dX13_readTrial_143 rfl (lv_at hl 5 rfl) ?_
                    rcases hN24 : gR Mg3 a0 4 with _ | b24
                    · replace h := oc_n hN24 h
                      refine r_get (T := TX13) (v := .null) hx hb hts in13 hown hK hP k0 (by decide) rfl 4 (by decide) (hts (.fieldLink RX13 150 "StoneWalkModel" "read" "LStoneWalkModel$Island;") (List.mem_of_getElem? (i := 1) (by decide +kernel))) rfl (t := 2) rfl (by show va_rf _ = _; rw [hN24]; rfl) dX13_readTrial_144 ?_
                      exact absurd h (by simp)
                    · replace h := oc_s hN24 h
                      have kb24 := hT.f k0 (k := 4) (t := 12) (n := 0) rfl hN24
                      refine r_get (T := TX13) (v := .ref (ad b24)) hx hb hts in13 hown hK hP k0 (by decide) rfl 4 (by decide) (hts (.fieldLink RX13 150 "StoneWalkModel" "read" "LStoneWalkModel$Island;") (List.mem_of_getElem? (i := 1) (by decide +kernel))) rfl (t := 2) rfl (by show va_rf _ = _; rw [hN24]; rfl) dX13_readTrial_144 ?_
                      rcases hN25 : gR Mg3 b24 25 with _ | b25
                      · exact absurd (oc_n hN25 h) (by simp)
                      replace h := oc_s hN25 h
                      have kb25 := hT.f kb24 (k := 25) (t := 15) (n := 5) rfl hN25
                      refine r_getN (T := TX12) (v := .ref (ad b25)) hx hb hts in12 hown hK hP kb24 (by decide) rfl 25 (by decide) (hG.2.2.1 ("StoneWalkModel", 337, "StoneWalkModel$Island", "trialYards", "[I", "StoneWalkModel") (List.mem_of_getElem? (i := 26) rfl)) rfl (t := 2) rfl (by show va_rf _ = _; rw [hN25]; rfl) dX13_readTrial_147 ?_
                      refine lv_aload_n hx hb dX13_readTrial_150 rfl (lv_at hl 5 rfl) ?_
                      rcases hN26 : gR Mg3 a0 4 with _ | b26
                      · replace h := oc_n hN26 h
                        refine r_get (T := TX13) (v := .null) hx hb hts in13 hown hK hP k0 (by decide) rfl 4 (by decide) (hts (.fieldLink RX13 150 "StoneWalkModel" "read" "LStoneWalkModel$Island;") (List.mem_of_getElem? (i := 1) (by decide +kernel))) rfl (t := 2) rfl (by show va_rf _ = _; rw [hN26]; rfl) dX13_readTrial_151 ?_
                        exact absurd h (by simp)
                      · replace h := oc_s hN26 h
                        have kb26 := hT.f k0 (k := 4) (t := 12) (n := 0) rfl hN26
                        refine r_get (T := TX13) (v := .ref (ad b26)) hx hb hts in13 hown hK hP k0 (by decide) rfl 4 (by decide) (hts (.fieldLink RX13 150 "StoneWalkModel" "read" "LStoneWalkModel$Island;") (List.mem_of_getElem? (i := 1) (by decide +kernel))) rfl (t := 2) rfl (by show va_rf _ = _; rw [hN26]; rfl) dX13_readTrial_151 ?_
                        refine r_getN (T := TX12) (v := .int (gI Mg3 b26 4)) hx hb hts in12 hown hK hP kb26 (by decide) rfl 4 (by decide) (hG.2.2.1 ("StoneWalkModel", 317, "StoneWalkModel$Island", "trials", "I", "StoneWalkModel") (List.mem_of_getElem? (i := 22) rfl)) rfl (t := 0) rfl rfl dX13_readTrial_154 ?_
                        refine lv_iload hx hb dX13_readTrial_157 (lv_at hl 1 rfl) ?_
                        obtain ⟨hn27, h⟩ := chk_some h
                        refine r_iast hx hb hK hP hD hT hS kb25 hn27 dX13_readTrial_159 (fun H locs hP hD hT hS => ?_)
                        generalize pI Mg3 b25 (ix (gI Mg3 b26 4)) z9.1 = Mg4 at h hP hD hT ⊢
                        refine lv_aload_n hx hb dX13_readTrial_160 rfl (lv_at hl 5 rfl) ?_
                        rcases hN28 : gR Mg4 a0 4 with _ | b28
                        · replace h := oc_n hN28 h
                          refine r_get (T := TX13) (v := .null) hx hb hts in13 hown hK hP k0 (by decide) rfl 4 (by decide) (hts (.fieldLink RX13 150 "StoneWalkModel" "read" "LStoneWalkModel$Island;") (List.mem_of_getElem? (i := 1) (by decide +kernel))) rfl (t := 2) rfl (by show va_rf _ = _; rw [hN28]; rfl) dX13_readTrial_161 ?_
                          exact absurd h (by simp)
                        · replace h := oc_s hN28 h
                          have kb28 := hT.f k0 (k := 4) (t := 12) (n := 0) rfl hN28
                          refine r_get (T := TX13) (v := .ref (ad b28)) hx hb hts in13 hown hK hP k0 (by decide) rfl 4 (by decide) (hts (.fieldLink RX13 150 "StoneWalkModel" "read" "LStoneWalkModel$Island;") (List.mem_of_getElem? (i := 1) (by decide +kernel))) rfl (t := 2) rfl (by show va_rf _ = _; rw [hN28]; rfl) dX13_readTrial_161 ?_
                          rcases hN29 : gR Mg4 b28 26 with _ | b29
                          · exact absurd (oc_n hN29 h) (by simp)
                          replace h := oc_s hN29 h
                          have kb29 := hT.f kb28 (k := 26) (t := 15) (n := 5) rfl hN29
                          refine r_getN (T := TX12) (v := .ref (ad b29)) hx hb hts in12 hown hK hP kb28 (by decide) rfl 26 (by decide) (hG.2.2.1 ("StoneWalkModel", 340, "StoneWalkModel$Island", "trialMinutes", "[I", "StoneWalkModel") (List.mem_of_getElem? (i := 27) rfl)) rfl (t := 2) rfl (by show va_rf _ = _; rw [hN29]; rfl) dX13_readTrial_164 ?_
                          refine lv_aload_n hx hb dX13_readTrial_167 rfl (lv_at hl 5 rfl) ?_
                          rcases hN30 : gR Mg4 a0 4 with _ | b30
                          · replace h := oc_n hN30 h
                            refine r_get (T := TX13) (v := .null) hx hb hts in13 hown hK hP k0 (by decide) rfl 4 (by decide) (hts (.fieldLink RX13 150 "StoneWalkModel" "read" "LStoneWalkModel$Island;") (List.mem_of_getElem? (i := 1) (by decide +kernel))) rfl (t := 2) rfl (by show va_rf _ = _; rw [hN30]; rfl) dX13_readTrial_168 ?_
                            exact absurd h (by simp)
                          · replace h := oc_s hN30 h
                            have kb30 := hT.f k0 (k := 4) (t := 12) (n := 0) rfl hN30
                            refine r_get (T := TX13) (v := .ref (ad b30)) hx hb hts in13 hown hK hP k0 (by decide) rfl 4 (by decide) (hts (.fieldLink RX13 150 "StoneWalkModel" "read" "LStoneWalkModel$Island;") (List.mem_of_getElem? (i := 1) (by decide +kernel))) rfl (t := 2) rfl (by show va_rf _ = _; rw [hN30]; rfl) dX13_readTrial_168 ?_
                            refine r_getN (T := TX12) (v := .int (gI Mg4 b30 4)) hx hb hts in12 hown hK hP kb30 (by decide) rfl 4 (by decide) (hG.2.2.1 ("StoneWalkModel", 317, "StoneWalkModel$Island", "trials", "I", "StoneWalkModel") (List.mem_of_getElem? (i := 22) rfl)) rfl (t := 0) rfl rfl dX13_readTrial_171 ?_
                            refine lv_iload hx hb dX13_readTrial_174 (lv_at hl 0 rfl) ?_
                            obtain ⟨hn31, h⟩ := chk_some h
                            refine r_iast hx hb hK hP hD hT hS kb29 hn31 dX13_readTrial_176 (fun H locs hP hD hT hS => ?_)
                            generalize pI Mg4 b29 (ix (gI Mg4 b30 4)) z10.1 = Mg5 at h hP hD hT ⊢
                            refine lv_aload_n hx hb dX13_readTrial_177 rfl (lv_at hl 5 rfl) ?_
                            rcases hN32 : gR Mg5 a0 4 with _ | b32
                            · replace h := oc_n hN32 h
                              refine r_get (T := TX13) (v := .null) hx hb hts in13 hown hK hP k0 (by decide) rfl 4 (by decide) (hts (.fieldLink RX13 150 "StoneWalkModel" "read" "LStoneWalkModel$Island;") (List.mem_of_getElem? (i := 1) (by decide +kernel))) rfl (t := 2) rfl (by show va_rf _ = _; rw [hN32]; rfl) dX13_readTrial_178 ?_
                              refine lv_dup hx hb dX13_readTrial_181 rfl ?_
                              exact absurd h (by simp)
                            · replace h := oc_s hN32 h
                              have kb32 := hT.f k0 (k := 4) (t := 12) (n := 0) rfl hN32
                              refine r_get (T := TX13) (v := .ref (ad b32)) hx hb hts in13 hown hK hP k0 (by decide) rfl 4 (by decide) (hts (.fieldLink RX13 150 "StoneWalkModel" "read" "LStoneWalkModel$Island;") (List.mem_of_getElem? (i := 1) (by decide +kernel))) rfl (t := 2) rfl (by show va_rf _ = _; rw [hN32]; rfl) dX13_readTrial_178 ?_
                              refine lv_dup hx hb dX13_readTrial_181 rfl ?_
                              refine r_getN (T := TX12) (v := .int (gI Mg5 b32 4)) hx hb hts in12 hown hK hP kb32 (by decide) rfl 4 (by decide) (hG.2.2.1 ("StoneWalkModel", 317, "StoneWalkModel$Island", "trials", "I", "StoneWalkModel") (List.mem_of_getElem? (i := 22) rfl)) rfl (t := 0) rfl rfl dX13_readTrial_182 ?_
                              refine lv_iconst (v := 1) hx hb dX13_readTrial_185 rfl ?_
                              refine lv_iadd hx hb dX13_readTrial_186 ?_
                              refine r_putIN (T := TX12) (ty := .int) (v := (gI Mg5 b32 4) + 1) hx hb hts in12 tyX12 tyX12_ok nmX12 hown hK hP hD hT hS kb32 (by decide) rfl 4 (by decide) (hG.2.2.1 ("StoneWalkModel", 317, "StoneWalkModel$Island", "trials", "I", "StoneWalkModel") (List.mem_of_getElem? (i := 22) rfl)) rfl rfl (tyX12_ok 4 (by decide)) rfl rfl rfl dX13_readTrial_187 (fun H locs hP hD hT hS => ?_)
                              generalize pI Mg5 b32 4 ((gI Mg5 b32 4) + 1) = Mg6 at h hP hD hT ⊢
                              exact r_vret hx hb hr hlocks hP hK hD hT hG hS (Option.some.inj h) dX13_readTrial_190
      · replace h := ite_t c11 h
        exact r_vret hx hb hr hlocks hP hK hD hT hG hS (Option.some.inj h) dX13_readTrial_94
set_option maxHeartbeats 4000000 in
set_option maxRecDepth 100000 in
theorem c_X13_readLand {l : Launch} {D : va_G} {ad : Nat → Nat} {cy : Nat → ClassId} {A : Nat → Prop} {g : CG} {q : SE} (M : MM) (a0 : Nat) (k0 : ok g a0 13 0) {Z : MM} (h : f_X13_readLand M a0 = some Z) : Met l yX13_readLand wsX13_readLand ({ frames := 8, cells := 0, slots := 0, locals := 173 }) (va_Pc [.ref (ad a0)] (Wd D ad cy A g q M)) (va_Qv (fun u => u = Z) (Wd D ad cy A g q) A) 0 0 A := by
  refine Met.ofW (cc := cX13_readLand) (maxL := 2) (ret := none) (by decide) rfl ?_
  intro p e s m args below meth c s₁ B hml hv
  obtain ⟨rfl, hP, hK, hD, hT, hG⟩ := hv
  have hx := B.exec
  have hb := B.bytes
  have hr := B.returns
  have hts := atoms_spec (ws := wsX13_readLand) B.pre
  have hown : s.vm.findClass RX13 = some m.cls := findClass_of_methodNamed B.named
  have hlocks := B.notSynchronized
  have in12 : ∀ w ∈ u_ws RX12 TX12 48, w ∈ wsX13_readLand := fun w h => List.mem_cons_of_mem _ (List.mem_append_right _ h)
  have in13 : ∀ w ∈ u_ws RX13 TX13 29, w ∈ wsX13_readLand := fun w h => List.mem_cons_of_mem _ (List.mem_append_left _ (List.mem_append_right _ h))
  have hS : va_S A s.heap s.heap [] := va_S.rf
  have hl := lv_entry ([.ref (ad a0)]) (n := 2) (Nat.le_of_ble_eq_true rfl)
  rw [lg_entry_eq]
  generalize (lg_sl ([.ref (ad a0)]) ++ List.replicate (2 - (lg_sl ([.ref (ad a0)])).length) Slot.unset).toArray = ls at hl ⊢
  have hl : lv_has ls 2 [(0, .ref (ad a0))] := hl
  unfold f_X13_readLand at h
  refine lv_aload_n hx hb dX13_readLand_0 rfl (lv_at hl 0 rfl) ?_
  rcases hN1 : gR M a0 4 with _ | b1
  · replace h := oc_n hN1 h
    refine r_get (T := TX13) (v := .null) hx hb hts in13 hown hK hP k0 (by decide) rfl 4 (by decide) (hts (.fieldLink RX13 150 "StoneWalkModel" "read" "LStoneWalkModel$Island;") (List.mem_of_getElem? (i := 1) (by decide +kernel))) rfl (t := 2) rfl (by show va_rf _ = _; rw [hN1]; rfl) dX13_readLand_1 ?_
    exact absurd h (by simp)
  · replace h := oc_s hN1 h
    have kb1 := hT.f k0 (k := 4) (t := 12) (n := 0) rfl hN1
    refine r_get (T := TX13) (v := .ref (ad b1)) hx hb hts in13 hown hK hP k0 (by decide) rfl 4 (by decide) (hts (.fieldLink RX13 150 "StoneWalkModel" "read" "LStoneWalkModel$Island;") (List.mem_of_getElem? (i := 1) (by decide +kernel))) rfl (t := 2) rfl (by show va_rf _ = _; rw [hN1]; rfl) dX13_readLand_1 ?_
    refine r_getN (T := TX12) (v := .int (gI M b1 27)) hx hb hts in12 hown hK hP kb1 (by decide) rfl 27 (by decide) (hG.2.2.1 ("StoneWalkModel", 343, "StoneWalkModel$Island", "trees", "I", "StoneWalkModel") (List.mem_of_getElem? (i := 28) rfl)) rfl (t := 0) rfl rfl dX13_readLand_4 ?_
    refine lv_iconst (v := (-1)) hx hb dX13_readLand_7 rfl ?_
    refine lv_icmp_eq (tgt := 16) hx hb dX13_readLand_8 rfl (fun c2 => ?_) (fun c2 => ?_)
    · replace h := ite_t c2 h
      refine lv_aload_n hx hb dX13_readLand_16 rfl (lv_at hl 0 rfl) ?_
      obtain ⟨z3, h3, h⟩ := ob_some h
      refine k_v (va_runV (As := []) (rest := []) ⟨hx, hb, hml, hown, hts⟩ (c_X13_goesOn (l := l) M a0 k0 h3) (cwV 0 hts gX13_readLand_X13_goesOn rfl rfl rfl hdV_X13_goesOn ⟨Nat.le_of_ble_eq_true rfl, Nat.le_of_ble_eq_true rfl⟩) (pV (T := TX13) hP hK hD hT hG hS k0 (by decide) rfl) rfl rfl hl.1 rfl (lv_room (Nat.le_of_ble_eq_true rfl)) dX13_readLand_17 ⟨Nat.zero_le _, Nat.zero_le _⟩) hS (fun H locs hP hD hT hS => ?_)
      refine lv_aload_n hx hb dX13_readLand_20 rfl (lv_at hl 0 rfl) ?_
      refine r_ldcSw (tx := "trees") (i := 24) hx hb hG hown (by decide +kernel) dX13_readLand_21 ?_
      refine lv_iconst (v := 0) hx hb dX13_readLand_24 rfl ?_
      refine lv_sipush (v := 999) hx hb dX13_readLand_25 rfl ?_
      obtain ⟨z4, h4, h⟩ := ob_some h
      refine k_i (va_runV (As := [.ref (q.2.1 24), .int 0, .int 999]) (rest := []) ⟨hx, hb, hml, hown, hts⟩ (c_X13_readPart (l := l) z3 a0 24 0 999 k0 (by decide) h4) (cwV 3 hts gX13_readLand_X13_readPart rfl rfl rfl hdV_X13_readPart ⟨Nat.le_of_ble_eq_true rfl, Nat.le_of_ble_eq_true rfl⟩) (pV (T := TX13) hP hK hD hT hG hS k0 (by decide) rfl) rfl rfl hl.1 rfl (lv_room (Nat.le_of_ble_eq_true rfl)) dX13_readLand_28 ⟨Nat.zero_le _, Nat.zero_le _⟩) hS (fun H locs hP hD hT hS => ?_)
      refine lv_istore_n (lv' := [(1, .int z4.1), (0, .ref (ad a0))]) hx hb dX13_readLand_31 rfl hl (by decide) rfl (fun ls hl => ?_)
      refine lv_aload_n hx hb dX13_readLand_32 rfl (lv_at hl 1 rfl) ?_
      rcases hN5 : gR z4.2 a0 4 with _ | b5
      · replace h := oc_n hN5 h
        refine r_get (T := TX13) (v := .null) hx hb hts in13 hown hK hP k0 (by decide) rfl 4 (by decide) (hts (.fieldLink RX13 150 "StoneWalkModel" "read" "LStoneWalkModel$Island;") (List.mem_of_getElem? (i := 1) (by decide +kernel))) rfl (t := 2) rfl (by show va_rf _ = _; rw [hN5]; rfl) dX13_readLand_33 ?_
        refine lv_aload_n hx hb dX13_readLand_36 rfl (lv_at hl 1 rfl) ?_
        refine r_ldcSw (tx := "grows") (i := 25) hx hb hG hown (by decide +kernel) dX13_readLand_37 ?_
        refine lv_iconst (v := 0) hx hb dX13_readLand_40 rfl ?_
        refine lv_bipush (v := 50) hx hb dX13_readLand_41 rfl ?_
        obtain ⟨z6, h6, h⟩ := ob_some h
        refine k_i (va_runV (As := [.ref (q.2.1 25), .int 0, .int 50]) (rest := [.null]) ⟨hx, hb, hml, hown, hts⟩ (c_X13_readPart (l := l) z4.2 a0 25 0 50 k0 (by decide) h6) (cwV 3 hts gX13_readLand_X13_readPart rfl rfl rfl hdV_X13_readPart ⟨Nat.le_of_ble_eq_true rfl, Nat.le_of_ble_eq_true rfl⟩) (pV (T := TX13) hP hK hD hT hG hS k0 (by decide) rfl) rfl rfl hl.1 rfl (lv_room (Nat.le_of_ble_eq_true rfl)) dX13_readLand_43 ⟨Nat.zero_le _, Nat.zero_le _⟩) hS (fun H locs hP hD hT hS => ?_)
        exact absurd h (by simp)
      · replace h := oc_s hN5 h
        have kb5 := hT.f k0 (k := 4) (t := 12) (n := 0) rfl hN5
        refine r_get (T := TX13) (v := .ref (ad b5)) hx hb hts in13 hown hK hP k0 (by decide) rfl 4 (by decide) (hts (.fieldLink RX13 150 "StoneWalkModel" "read" "LStoneWalkModel$Island;") (List.mem_of_getElem? (i := 1) (by decide +kernel))) rfl (t := 2) rfl (by show va_rf _ = _; rw [hN5]; rfl) dX13_readLand_33 ?_
        refine lv_aload_n hx hb dX13_readLand_36 rfl (lv_at hl 1 rfl) ?_
        refine r_ldcSw (tx := "grows") (i := 25) hx hb hG hown (by decide +kernel) dX13_readLand_37 ?_
        refine lv_iconst (v := 0) hx hb dX13_readLand_40 rfl ?_
        refine lv_bipush (v := 50) hx hb dX13_readLand_41 rfl ?_
        obtain ⟨z7, h7, h⟩ := ob_some h
        refine k_i (va_runV (As := [.ref (q.2.1 25), .int 0, .int 50]) (rest := [.ref (ad b5)]) ⟨hx, hb, hml, hown, hts⟩ (c_X13_readPart (l := l) z4.2 a0 25 0 50 k0 (by decide) h7) (cwV 3 hts gX13_readLand_X13_readPart rfl rfl rfl hdV_X13_readPart ⟨Nat.le_of_ble_eq_true rfl, Nat.le_of_ble_eq_true rfl⟩) (pV (T := TX13) hP hK hD hT hG hS k0 (by decide) rfl) rfl rfl hl.1 rfl (lv_room (Nat.le_of_ble_eq_true rfl)) dX13_readLand_43 ⟨Nat.zero_le _, Nat.zero_le _⟩) hS (fun H locs hP hD hT hS => ?_)
        refine r_putIN (T := TX12) (ty := .int) (v := z7.1) hx hb hts in12 tyX12 tyX12_ok nmX12 hown hK hP hD hT hS kb5 (by decide) rfl 28 (by decide) (hG.2.2.1 ("StoneWalkModel", 349, "StoneWalkModel$Island", "grows", "I", "StoneWalkModel") (List.mem_of_getElem? (i := 29) rfl)) rfl rfl (tyX12_ok 28 (by decide)) rfl rfl rfl dX13_readLand_46 (fun H locs hP hD hT hS => ?_)
        generalize pI z7.2 b5 28 z7.1 = Mg1 at h hP hD hT ⊢
        refine lv_aload_n hx hb dX13_readLand_49 rfl (lv_at hl 1 rfl) ?_
        rcases hN8 : gR Mg1 a0 4 with _ | b8
        · replace h := oc_n hN8 h
          refine r_get (T := TX13) (v := .null) hx hb hts in13 hown hK hP k0 (by decide) rfl 4 (by decide) (hts (.fieldLink RX13 150 "StoneWalkModel" "read" "LStoneWalkModel$Island;") (List.mem_of_getElem? (i := 1) (by decide +kernel))) rfl (t := 2) rfl (by show va_rf _ = _; rw [hN8]; rfl) dX13_readLand_50 ?_
          refine lv_aload_n hx hb dX13_readLand_53 rfl (lv_at hl 1 rfl) ?_
          refine r_ldcSw (tx := "people") (i := 16) hx hb hG hown (by decide +kernel) dX13_readLand_54 ?_
          refine lv_iconst (v := 0) hx hb dX13_readLand_57 rfl ?_
          refine lv_sipush (v := 999) hx hb dX13_readLand_58 rfl ?_
          obtain ⟨z9, h9, h⟩ := ob_some h
          refine k_i (va_runV (As := [.ref (q.2.1 16), .int 0, .int 999]) (rest := [.null]) ⟨hx, hb, hml, hown, hts⟩ (c_X13_readPart (l := l) Mg1 a0 16 0 999 k0 (by decide) h9) (cwV 3 hts gX13_readLand_X13_readPart rfl rfl rfl hdV_X13_readPart ⟨Nat.le_of_ble_eq_true rfl, Nat.le_of_ble_eq_true rfl⟩) (pV (T := TX13) hP hK hD hT hG hS k0 (by decide) rfl) rfl rfl hl.1 rfl (lv_room (Nat.le_of_ble_eq_true rfl)) dX13_readLand_61 ⟨Nat.zero_le _, Nat.zero_le _⟩) hS (fun H locs hP hD hT hS => ?_)
          exact absurd h (by simp)
        · replace h := oc_s hN8 h
          have kb8 := hT.f k0 (k := 4) (t := 12) (n := 0) rfl hN8
          refine r_get (T := TX13) (v := .ref (ad b8)) hx hb hts in13 hown hK hP k0 (by decide) rfl 4 (by decide) (hts (.fieldLink RX13 150 "StoneWalkModel" "read" "LStoneWalkModel$Island;") (List.mem_of_getElem? (i := 1) (by decide +kernel))) rfl (t := 2) rfl (by show va_rf _ = _; rw [hN8]; rfl) dX13_readLand_50 ?_
          refine lv_aload_n hx hb dX13_readLand_53 rfl (lv_at hl 1 rfl) ?_
          refine r_ldcSw (tx := "people") (i := 16) hx hb hG hown (by decide +kernel) dX13_readLand_54 ?_
          refine lv_iconst (v := 0) hx hb dX13_readLand_57 rfl ?_
          refine lv_sipush (v := 999) hx hb dX13_readLand_58 rfl ?_
          obtain ⟨z10, h10, h⟩ := ob_some h
          refine k_i (va_runV (As := [.ref (q.2.1 16), .int 0, .int 999]) (rest := [.ref (ad b8)]) ⟨hx, hb, hml, hown, hts⟩ (c_X13_readPart (l := l) Mg1 a0 16 0 999 k0 (by decide) h10) (cwV 3 hts gX13_readLand_X13_readPart rfl rfl rfl hdV_X13_readPart ⟨Nat.le_of_ble_eq_true rfl, Nat.le_of_ble_eq_true rfl⟩) (pV (T := TX13) hP hK hD hT hG hS k0 (by decide) rfl) rfl rfl hl.1 rfl (lv_room (Nat.le_of_ble_eq_true rfl)) dX13_readLand_61 ⟨Nat.zero_le _, Nat.zero_le _⟩) hS (fun H locs hP hD hT hS => ?_)
          refine r_putIN (T := TX12) (ty := .int) (v := z10.1) hx hb hts in12 tyX12 tyX12_ok nmX12 hown hK hP hD hT hS kb8 (by decide) rfl 29 (by decide) (hG.2.2.1 ("StoneWalkModel", 351, "StoneWalkModel$Island", "people", "I", "StoneWalkModel") (List.mem_of_getElem? (i := 30) rfl)) rfl rfl (tyX12_ok 29 (by decide)) rfl rfl rfl dX13_readLand_64 (fun H locs hP hD hT hS => ?_)
          generalize pI z10.2 b8 29 z10.1 = Mg2 at h hP hD hT ⊢
          refine lv_aload_n hx hb dX13_readLand_67 rfl (lv_at hl 1 rfl) ?_
          refine r_get (T := TX13) (v := .int (gI Mg2 a0 9)) hx hb hts in13 hown hK hP k0 (by decide) rfl 9 (by decide) (hts (.fieldLink RX13 58 "StoneWalkModel" "sort" "I") (List.mem_of_getElem? (i := 2) (by decide +kernel))) rfl (t := 0) rfl rfl dX13_readLand_68 ?_
          refine lv_iconst (v := 5) hx hb dX13_readLand_71 rfl ?_
          refine lv_icmp_eq (tgt := 83) hx hb dX13_readLand_72 rfl (fun c11 => ?_) (fun c11 => ?_)
          · replace h := ite_t c11 h
            exact r_vret hx hb hr hlocks hP hK hD hT hG hS (Option.some.inj h) dX13_readLand_83
          · replace h := ite_f c11 h
            refine lv_aload_n hx hb dX13_readLand_75 rfl (lv_at hl 1 rfl) ?_
            rcases hN12 : gR Mg2 a0 4 with _ | b12
            · replace h := oc_n hN12 h
              refine r_get (T := TX13) (v := .null) hx hb hts in13 hown hK hP k0 (by decide) rfl 4 (by decide) (hts (.fieldLink RX13 150 "StoneWalkModel" "read" "LStoneWalkModel$Island;") (List.mem_of_getElem? (i := 1) (by decide +kernel))) rfl (t := 2) rfl (by show va_rf _ = _; rw [hN12]; rfl) dX13_readLand_76 ?_
              refine lv_iload_n hx hb dX13_readLand_79 rfl (lv_at hl 0 rfl) ?_
              exact absurd h (by simp)
            · replace h := oc_s hN12 h
              have kb12 := hT.f k0 (k := 4) (t := 12) (n := 0) rfl hN12
              refine r_get (T := TX13) (v := .ref (ad b12)) hx hb hts in13 hown hK hP k0 (by decide) rfl 4 (by decide) (hts (.fieldLink RX13 150 "StoneWalkModel" "read" "LStoneWalkModel$Island;") (List.mem_of_getElem? (i := 1) (by decide +kernel))) rfl (t := 2) rfl (by show va_rf _ = _; rw [hN12]; rfl) dX13_readLand_76 ?_
              refine lv_iload_n hx hb dX13_readLand_79 rfl (lv_at hl 0 rfl) ?_
              refine r_putIN (T := TX12) (ty := .int) (v := z4.1) hx hb hts in12 tyX12 tyX12_ok nmX12 hown hK hP hD hT hS kb12 (by decide) rfl 27 (by decide) (hG.2.2.1 ("StoneWalkModel", 343, "StoneWalkModel$Island", "trees", "I", "StoneWalkModel") (List.mem_of_getElem? (i := 28) rfl)) rfl rfl (tyX12_ok 27 (by decide)) rfl rfl rfl dX13_readLand_80 (fun H locs hP hD hT hS => ?_)
              generalize pI Mg2 b12 27 z4.1 = Mg3 at h hP hD hT ⊢
              exact r_vret hx hb hr hlocks hP hK hD hT hG hS (Option.some.inj h) dX13_readLand_83
    · replace h := ite_f c2 h
      refine lv_aload_n hx hb dX13_readLand_11 rfl (lv_at hl 0 rfl) ?_
      refine lv_iconst (v := 3) hx hb dX13_readLand_12 rfl ?_
      obtain ⟨z13, h13, h⟩ := ob_some h
      refine k_v (va_runV (As := [.int 3]) (rest := []) ⟨hx, hb, hml, hown, hts⟩ (c_X13_wrong (l := l) M a0 3 k0 h13) (cwV 1 hts gX13_readLand_X13_wrong rfl rfl rfl hdV_X13_wrong ⟨Nat.le_of_ble_eq_true rfl, Nat.le_of_ble_eq_true rfl⟩) (pV (T := TX13) hP hK hD hT hG hS k0 (by decide) rfl) rfl rfl hl.1 rfl (lv_room (Nat.le_of_ble_eq_true rfl)) dX13_readLand_13 ⟨Nat.zero_le _, Nat.zero_le _⟩) hS (fun H locs hP hD hT hS => ?_)
      refine lv_aload_n hx hb dX13_readLand_16 rfl (lv_at hl 0 rfl) ?_
      obtain ⟨z14, h14, h⟩ := ob_some h
      refine k_v (va_runV (As := []) (rest := []) ⟨hx, hb, hml, hown, hts⟩ (c_X13_goesOn (l := l) z13 a0 k0 h14) (cwV 0 hts gX13_readLand_X13_goesOn rfl rfl rfl hdV_X13_goesOn ⟨Nat.le_of_ble_eq_true rfl, Nat.le_of_ble_eq_true rfl⟩) (pV (T := TX13) hP hK hD hT hG hS k0 (by decide) rfl) rfl rfl hl.1 rfl (lv_room (Nat.le_of_ble_eq_true rfl)) dX13_readLand_17 ⟨Nat.zero_le _, Nat.zero_le _⟩) hS (fun H locs hP hD hT hS => ?_)
      refine lv_aload_n hx hb dX13_readLand_20 rfl (lv_at hl 0 rfl) ?_
      refine r_ldcSw (tx := "trees") (i := 24) hx hb hG hown (by decide +kernel) dX13_readLand_21 ?_
      refine lv_iconst (v := 0) hx hb dX13_readLand_24 rfl ?_
      refine lv_sipush (v := 999) hx hb dX13_readLand_25 rfl ?_
      obtain ⟨z15, h15, h⟩ := ob_some h
      refine k_i (va_runV (As := [.ref (q.2.1 24), .int 0, .int 999]) (rest := []) ⟨hx, hb, hml, hown, hts⟩ (c_X13_readPart (l := l) z14 a0 24 0 999 k0 (by decide) h15) (cwV 3 hts gX13_readLand_X13_readPart rfl rfl rfl hdV_X13_readPart ⟨Nat.le_of_ble_eq_true rfl, Nat.le_of_ble_eq_true rfl⟩) (pV (T := TX13) hP hK hD hT hG hS k0 (by decide) rfl) rfl rfl hl.1 rfl (lv_room (Nat.le_of_ble_eq_true rfl)) dX13_readLand_28 ⟨Nat.zero_le _, Nat.zero_le _⟩) hS (fun H locs hP hD hT hS => ?_)
      refine lv_istore_n (lv' := [(1, .int z15.1), (0, .ref (ad a0))]) hx hb dX13_readLand_31 rfl hl (by decide) rfl (fun ls hl => ?_)
      refine lv_aload_n hx hb dX13_readLand_32 rfl (lv_at hl 1 rfl) ?_
      rcases hN16 : gR z15.2 a0 4 with _ | b16
      · replace h := oc_n hN16 h
        refine r_get (T := TX13) (v := .null) hx hb hts in13 hown hK hP k0 (by decide) rfl 4 (by decide) (hts (.fieldLink RX13 150 "StoneWalkModel" "read" "LStoneWalkModel$Island;") (List.mem_of_getElem? (i := 1) (by decide +kernel))) rfl (t := 2) rfl (by show va_rf _ = _; rw [hN16]; rfl) dX13_readLand_33 ?_
        refine lv_aload_n hx hb dX13_readLand_36 rfl (lv_at hl 1 rfl) ?_
        refine r_ldcSw (tx := "grows") (i := 25) hx hb hG hown (by decide +kernel) dX13_readLand_37 ?_
        refine lv_iconst (v := 0) hx hb dX13_readLand_40 rfl ?_
        refine lv_bipush (v := 50) hx hb dX13_readLand_41 rfl ?_
        obtain ⟨z17, h17, h⟩ := ob_some h
        refine k_i (va_runV (As := [.ref (q.2.1 25), .int 0, .int 50]) (rest := [.null]) ⟨hx, hb, hml, hown, hts⟩ (c_X13_readPart (l := l) z15.2 a0 25 0 50 k0 (by decide) h17) (cwV 3 hts gX13_readLand_X13_readPart rfl rfl rfl hdV_X13_readPart ⟨Nat.le_of_ble_eq_true rfl, Nat.le_of_ble_eq_true rfl⟩) (pV (T := TX13) hP hK hD hT hG hS k0 (by decide) rfl) rfl rfl hl.1 rfl (lv_room (Nat.le_of_ble_eq_true rfl)) dX13_readLand_43 ⟨Nat.zero_le _, Nat.zero_le _⟩) hS (fun H locs hP hD hT hS => ?_)
        exact absurd h (by simp)
      · replace h := oc_s hN16 h
        have kb16 := hT.f k0 (k := 4) (t := 12) (n := 0) rfl hN16
        refine r_get (T := TX13) (v := .ref (ad b16)) hx hb hts in13 hown hK hP k0 (by decide) rfl 4 (by decide) (hts (.fieldLink RX13 150 "StoneWalkModel" "read" "LStoneWalkModel$Island;") (List.mem_of_getElem? (i := 1) (by decide +kernel))) rfl (t := 2) rfl (by show va_rf _ = _; rw [hN16]; rfl) dX13_readLand_33 ?_
        refine lv_aload_n hx hb dX13_readLand_36 rfl (lv_at hl 1 rfl) ?_
        refine r_ldcSw (tx := "grows") (i := 25) hx hb hG hown (by decide +kernel) dX13_readLand_37 ?_
        refine lv_iconst (v := 0) hx hb dX13_readLand_40 rfl ?_
        refine lv_bipush (v := 50) hx hb dX13_readLand_41 rfl ?_
        obtain ⟨z18, h18, h⟩ := ob_some h
        refine k_i (va_runV (As := [.ref (q.2.1 25), .int 0, .int 50]) (rest := [.ref (ad b16)]) ⟨hx, hb, hml, hown, hts⟩ (c_X13_readPart (l := l) z15.2 a0 25 0 50 k0 (by decide) h18) (cwV 3 hts gX13_readLand_X13_readPart rfl rfl rfl hdV_X13_readPart ⟨Nat.le_of_ble_eq_true rfl, Nat.le_of_ble_eq_true rfl⟩) (pV (T := TX13) hP hK hD hT hG hS k0 (by decide) rfl) rfl rfl hl.1 rfl (lv_room (Nat.le_of_ble_eq_true rfl)) dX13_readLand_43 ⟨Nat.zero_le _, Nat.zero_le _⟩) hS (fun H locs hP hD hT hS => ?_)
        refine r_putIN (T := TX12) (ty := .int) (v := z18.1) hx hb hts in12 tyX12 tyX12_ok nmX12 hown hK hP hD hT hS kb16 (by decide) rfl 28 (by decide) (hG.2.2.1 ("StoneWalkModel", 349, "StoneWalkModel$Island", "grows", "I", "StoneWalkModel") (List.mem_of_getElem? (i := 29) rfl)) rfl rfl (tyX12_ok 28 (by decide)) rfl rfl rfl dX13_readLand_46 (fun H locs hP hD hT hS => ?_)
        generalize pI z18.2 b16 28 z18.1 = Mg4 at h hP hD hT ⊢
        refine lv_aload_n hx hb dX13_readLand_49 rfl (lv_at hl 1 rfl) ?_
        rcases hN19 : gR Mg4 a0 4 with _ | b19
        · replace h := oc_n hN19 h
          refine r_get (T := TX13) (v := .null) hx hb hts in13 hown hK hP k0 (by decide) rfl 4 (by decide) (hts (.fieldLink RX13 150 "StoneWalkModel" "read" "LStoneWalkModel$Island;") (List.mem_of_getElem? (i := 1) (by decide +kernel))) rfl (t := 2) rfl (by show va_rf _ = _; rw [hN19]; rfl) dX13_readLand_50 ?_
          refine lv_aload_n hx hb dX13_readLand_53 rfl (lv_at hl 1 rfl) ?_
          refine r_ldcSw (tx := "people") (i := 16) hx hb hG hown (by decide +kernel) dX13_readLand_54 ?_
          refine lv_iconst (v := 0) hx hb dX13_readLand_57 rfl ?_
          refine lv_sipush (v := 999) hx hb dX13_readLand_58 rfl ?_
          obtain ⟨z20, h20, h⟩ := ob_some h
          refine k_i (va_runV (As := [.ref (q.2.1 16), .int 0, .int 999]) (rest := [.null]) ⟨hx, hb, hml, hown, hts⟩ (c_X13_readPart (l := l) Mg4 a0 16 0 999 k0 (by decide) h20) (cwV 3 hts gX13_readLand_X13_readPart rfl rfl rfl hdV_X13_readPart ⟨Nat.le_of_ble_eq_true rfl, Nat.le_of_ble_eq_true rfl⟩) (pV (T := TX13) hP hK hD hT hG hS k0 (by decide) rfl) rfl rfl hl.1 rfl (lv_room (Nat.le_of_ble_eq_true rfl)) dX13_readLand_61 ⟨Nat.zero_le _, Nat.zero_le _⟩) hS (fun H locs hP hD hT hS => ?_)
          exact absurd h (by simp)
        · replace h := oc_s hN19 h
          have kb19 := hT.f k0 (k := 4) (t := 12) (n := 0) rfl hN19
          refine r_get (T := TX13) (v := .ref (ad b19)) hx hb hts in13 hown hK hP k0 (by decide) rfl 4 (by decide) (hts (.fieldLink RX13 150 "StoneWalkModel" "read" "LStoneWalkModel$Island;") (List.mem_of_getElem? (i := 1) (by decide +kernel))) rfl (t := 2) rfl (by show va_rf _ = _; rw [hN19]; rfl) dX13_readLand_50 ?_
          refine lv_aload_n hx hb dX13_readLand_53 rfl (lv_at hl 1 rfl) ?_
          refine r_ldcSw (tx := "people") (i := 16) hx hb hG hown (by decide +kernel) dX13_readLand_54 ?_
          refine lv_iconst (v := 0) hx hb dX13_readLand_57 rfl ?_
          refine lv_sipush (v := 999) hx hb dX13_readLand_58 rfl ?_
          obtain ⟨z21, h21, h⟩ := ob_some h
          refine k_i (va_runV (As := [.ref (q.2.1 16), .int 0, .int 999]) (rest := [.ref (ad b19)]) ⟨hx, hb, hml, hown, hts⟩ (c_X13_readPart (l := l) Mg4 a0 16 0 999 k0 (by decide) h21) (cwV 3 hts gX13_readLand_X13_readPart rfl rfl rfl hdV_X13_readPart ⟨Nat.le_of_ble_eq_true rfl, Nat.le_of_ble_eq_true rfl⟩) (pV (T := TX13) hP hK hD hT hG hS k0 (by decide) rfl) rfl rfl hl.1 rfl (lv_room (Nat.le_of_ble_eq_true rfl)) dX13_readLand_61 ⟨Nat.zero_le _, Nat.zero_le _⟩) hS (fun H locs hP hD hT hS => ?_)
          refine r_putIN (T := TX12) (ty := .int) (v := z21.1) hx hb hts in12 tyX12 tyX12_ok nmX12 hown hK hP hD hT hS kb19 (by decide) rfl 29 (by decide) (hG.2.2.1 ("StoneWalkModel", 351, "StoneWalkModel$Island", "people", "I", "StoneWalkModel") (List.mem_of_getElem? (i := 30) rfl)) rfl rfl (tyX12_ok 29 (by decide)) rfl rfl rfl dX13_readLand_64 (fun H locs hP hD hT hS => ?_)
          generalize pI z21.2 b19 29 z21.1 = Mg5 at h hP hD hT ⊢
          refine lv_aload_n hx hb dX13_readLand_67 rfl (lv_at hl 1 rfl) ?_
          refine r_get (T := TX13) (v := .int (gI Mg5 a0 9)) hx hb hts in13 hown hK hP k0 (by decide) rfl 9 (by decide) (hts (.fieldLink RX13 58 "StoneWalkModel" "sort" "I") (List.mem_of_getElem? (i := 2) (by decide +kernel))) rfl (t := 0) rfl rfl dX13_readLand_68 ?_
          refine lv_iconst (v := 5) hx hb dX13_readLand_71 rfl ?_
          refine lv_icmp_eq (tgt := 83) hx hb dX13_readLand_72 rfl (fun c22 => ?_) (fun c22 => ?_)
          · replace h := ite_t c22 h
            exact r_vret hx hb hr hlocks hP hK hD hT hG hS (Option.some.inj h) dX13_readLand_83
          · replace h := ite_f c22 h
            refine lv_aload_n hx hb dX13_readLand_75 rfl (lv_at hl 1 rfl) ?_
            rcases hN23 : gR Mg5 a0 4 with _ | b23
            · replace h := oc_n hN23 h
              refine r_get (T := TX13) (v := .null) hx hb hts in13 hown hK hP k0 (by decide) rfl 4 (by decide) (hts (.fieldLink RX13 150 "StoneWalkModel" "read" "LStoneWalkModel$Island;") (List.mem_of_getElem? (i := 1) (by decide +kernel))) rfl (t := 2) rfl (by show va_rf _ = _; rw [hN23]; rfl) dX13_readLand_76 ?_
              refine lv_iload_n hx hb dX13_readLand_79 rfl (lv_at hl 0 rfl) ?_
              exact absurd h (by simp)
            · replace h := oc_s hN23 h
              have kb23 := hT.f k0 (k := 4) (t := 12) (n := 0) rfl hN23
              refine r_get (T := TX13) (v := .ref (ad b23)) hx hb hts in13 hown hK hP k0 (by decide) rfl 4 (by decide) (hts (.fieldLink RX13 150 "StoneWalkModel" "read" "LStoneWalkModel$Island;") (List.mem_of_getElem? (i := 1) (by decide +kernel))) rfl (t := 2) rfl (by show va_rf _ = _; rw [hN23]; rfl) dX13_readLand_76 ?_
              refine lv_iload_n hx hb dX13_readLand_79 rfl (lv_at hl 0 rfl) ?_
              refine r_putIN (T := TX12) (ty := .int) (v := z15.1) hx hb hts in12 tyX12 tyX12_ok nmX12 hown hK hP hD hT hS kb23 (by decide) rfl 27 (by decide) (hG.2.2.1 ("StoneWalkModel", 343, "StoneWalkModel$Island", "trees", "I", "StoneWalkModel") (List.mem_of_getElem? (i := 28) rfl)) rfl rfl (tyX12_ok 27 (by decide)) rfl rfl rfl dX13_readLand_80 (fun H locs hP hD hT hS => ?_)
              generalize pI Mg5 b23 27 z15.1 = Mg6 at h hP hD hT ⊢
              exact r_vret hx hb hr hlocks hP hK hD hT hG hS (Option.some.inj h) dX13_readLand_83
set_option maxHeartbeats 4000000 in
set_option maxRecDepth 100000 in
theorem c_X13_readFields {l : Launch} {D : va_G} {ad : Nat → Nat} {cy : Nat → ClassId} {A : Nat → Prop} {g : CG} {q : SE} (M : MM) (a0 : Nat) (k0 : ok g a0 13 0) {Z : MM} (h : f_X13_readFields M a0 = some Z) : Met l yX13_readFields wsX13_readFields ({ frames := 8, cells := 0, slots := 0, locals := 173 }) (va_Pc [.ref (ad a0)] (Wd D ad cy A g q M)) (va_Qv (fun u => u = Z) (Wd D ad cy A g q) A) 0 0 A := by
  refine Met.ofW (cc := cX13_readFields) (maxL := 2) (ret := none) (by decide) rfl ?_
  intro p e s m args below meth c s₁ B hml hv
  obtain ⟨rfl, hP, hK, hD, hT, hG⟩ := hv
  have hx := B.exec
  have hb := B.bytes
  have hr := B.returns
  have hts := atoms_spec (ws := wsX13_readFields) B.pre
  have hown : s.vm.findClass RX13 = some m.cls := findClass_of_methodNamed B.named
  have hlocks := B.notSynchronized
  have in12 : ∀ w ∈ u_ws RX12 TX12 48, w ∈ wsX13_readFields := fun w h => List.mem_cons_of_mem _ (List.mem_append_right _ h)
  have in13 : ∀ w ∈ u_ws RX13 TX13 29, w ∈ wsX13_readFields := fun w h => List.mem_cons_of_mem _ (List.mem_append_left _ (List.mem_append_right _ h))
  have hS : va_S A s.heap s.heap [] := va_S.rf
  have hl := lv_entry ([.ref (ad a0)]) (n := 2) (Nat.le_of_ble_eq_true rfl)
  rw [lg_entry_eq]
  generalize (lg_sl ([.ref (ad a0)]) ++ List.replicate (2 - (lg_sl ([.ref (ad a0)])).length) Slot.unset).toArray = ls at hl ⊢
  have hl : lv_has ls 2 [(0, .ref (ad a0))] := hl
  unfold f_X13_readFields at h
  refine lv_aload_n hx hb dX13_readFields_0 rfl (lv_at hl 0 rfl) ?_
  rcases hN1 : gR M a0 4 with _ | b1
  · replace h := oc_n hN1 h
    refine r_get (T := TX13) (v := .null) hx hb hts in13 hown hK hP k0 (by decide) rfl 4 (by decide) (hts (.fieldLink RX13 150 "StoneWalkModel" "read" "LStoneWalkModel$Island;") (List.mem_of_getElem? (i := 1) (by decide +kernel))) rfl (t := 2) rfl (by show va_rf _ = _; rw [hN1]; rfl) dX13_readFields_1 ?_
    exact absurd h (by simp)
  · replace h := oc_s hN1 h
    have kb1 := hT.f k0 (k := 4) (t := 12) (n := 0) rfl hN1
    refine r_get (T := TX13) (v := .ref (ad b1)) hx hb hts in13 hown hK hP k0 (by decide) rfl 4 (by decide) (hts (.fieldLink RX13 150 "StoneWalkModel" "read" "LStoneWalkModel$Island;") (List.mem_of_getElem? (i := 1) (by decide +kernel))) rfl (t := 2) rfl (by show va_rf _ = _; rw [hN1]; rfl) dX13_readFields_1 ?_
    refine r_getN (T := TX12) (v := .int (gI M b1 30)) hx hb hts in12 hown hK hP kb1 (by decide) rfl 30 (by decide) (hG.2.2.1 ("StoneWalkModel", 353, "StoneWalkModel$Island", "fields", "I", "StoneWalkModel") (List.mem_of_getElem? (i := 31) rfl)) rfl (t := 0) rfl rfl dX13_readFields_4 ?_
    refine lv_iconst (v := (-1)) hx hb dX13_readFields_7 rfl ?_
    refine lv_icmp_eq (tgt := 16) hx hb dX13_readFields_8 rfl (fun c2 => ?_) (fun c2 => ?_)
    · replace h := ite_t c2 h
      refine lv_aload_n hx hb dX13_readFields_16 rfl (lv_at hl 0 rfl) ?_
      obtain ⟨z3, h3, h⟩ := ob_some h
      refine k_v (va_runV (As := []) (rest := []) ⟨hx, hb, hml, hown, hts⟩ (c_X13_goesOn (l := l) M a0 k0 h3) (cwV 0 hts gX13_readFields_X13_goesOn rfl rfl rfl hdV_X13_goesOn ⟨Nat.le_of_ble_eq_true rfl, Nat.le_of_ble_eq_true rfl⟩) (pV (T := TX13) hP hK hD hT hG hS k0 (by decide) rfl) rfl rfl hl.1 rfl (lv_room (Nat.le_of_ble_eq_true rfl)) dX13_readFields_17 ⟨Nat.zero_le _, Nat.zero_le _⟩) hS (fun H locs hP hD hT hS => ?_)
      refine lv_aload_n hx hb dX13_readFields_20 rfl (lv_at hl 0 rfl) ?_
      refine lv_iconst (v := 0) hx hb dX13_readFields_21 rfl ?_
      refine lv_sipush (v := 999) hx hb dX13_readFields_22 rfl ?_
      obtain ⟨z4, h4, h⟩ := ob_some h
      refine k_i (va_runV (As := [.int 0, .int 999]) (rest := []) ⟨hx, hb, hml, hown, hts⟩ (c_X13_readWhole (l := l) z3 a0 0 999 k0 h4) (cwV 2 hts gX13_readFields_X13_readWhole rfl rfl rfl hdV_X13_readWhole ⟨Nat.le_of_ble_eq_true rfl, Nat.le_of_ble_eq_true rfl⟩) (pV (T := TX13) hP hK hD hT hG hS k0 (by decide) rfl) rfl rfl hl.1 rfl (lv_room (Nat.le_of_ble_eq_true rfl)) dX13_readFields_25 ⟨Nat.zero_le _, Nat.zero_le _⟩) hS (fun H locs hP hD hT hS => ?_)
      refine lv_istore_n (lv' := [(1, .int z4.1), (0, .ref (ad a0))]) hx hb dX13_readFields_28 rfl hl (by decide) rfl (fun ls hl => ?_)
      refine lv_aload_n hx hb dX13_readFields_29 rfl (lv_at hl 1 rfl) ?_
      rcases hN5 : gR z4.2 a0 4 with _ | b5
      · replace h := oc_n hN5 h
        refine r_get (T := TX13) (v := .null) hx hb hts in13 hown hK hP k0 (by decide) rfl 4 (by decide) (hts (.fieldLink RX13 150 "StoneWalkModel" "read" "LStoneWalkModel$Island;") (List.mem_of_getElem? (i := 1) (by decide +kernel))) rfl (t := 2) rfl (by show va_rf _ = _; rw [hN5]; rfl) dX13_readFields_30 ?_
        refine lv_aload_n hx hb dX13_readFields_33 rfl (lv_at hl 1 rfl) ?_
        refine r_ldcSw (tx := "feeds") (i := 26) hx hb hG hown (by decide +kernel) dX13_readFields_34 ?_
        refine lv_iconst (v := 0) hx hb dX13_readFields_37 rfl ?_
        refine lv_bipush (v := 99) hx hb dX13_readFields_38 rfl ?_
        obtain ⟨z6, h6, h⟩ := ob_some h
        refine k_i (va_runV (As := [.ref (q.2.1 26), .int 0, .int 99]) (rest := [.null]) ⟨hx, hb, hml, hown, hts⟩ (c_X13_readPart (l := l) z4.2 a0 26 0 99 k0 (by decide) h6) (cwV 3 hts gX13_readFields_X13_readPart rfl rfl rfl hdV_X13_readPart ⟨Nat.le_of_ble_eq_true rfl, Nat.le_of_ble_eq_true rfl⟩) (pV (T := TX13) hP hK hD hT hG hS k0 (by decide) rfl) rfl rfl hl.1 rfl (lv_room (Nat.le_of_ble_eq_true rfl)) dX13_readFields_40 ⟨Nat.zero_le _, Nat.zero_le _⟩) hS (fun H locs hP hD hT hS => ?_)
        exact absurd h (by simp)
      · replace h := oc_s hN5 h
        have kb5 := hT.f k0 (k := 4) (t := 12) (n := 0) rfl hN5
        refine r_get (T := TX13) (v := .ref (ad b5)) hx hb hts in13 hown hK hP k0 (by decide) rfl 4 (by decide) (hts (.fieldLink RX13 150 "StoneWalkModel" "read" "LStoneWalkModel$Island;") (List.mem_of_getElem? (i := 1) (by decide +kernel))) rfl (t := 2) rfl (by show va_rf _ = _; rw [hN5]; rfl) dX13_readFields_30 ?_
        refine lv_aload_n hx hb dX13_readFields_33 rfl (lv_at hl 1 rfl) ?_
        refine r_ldcSw (tx := "feeds") (i := 26) hx hb hG hown (by decide +kernel) dX13_readFields_34 ?_
        refine lv_iconst (v := 0) hx hb dX13_readFields_37 rfl ?_
        refine lv_bipush (v := 99) hx hb dX13_readFields_38 rfl ?_
        obtain ⟨z7, h7, h⟩ := ob_some h
        refine k_i (va_runV (As := [.ref (q.2.1 26), .int 0, .int 99]) (rest := [.ref (ad b5)]) ⟨hx, hb, hml, hown, hts⟩ (c_X13_readPart (l := l) z4.2 a0 26 0 99 k0 (by decide) h7) (cwV 3 hts gX13_readFields_X13_readPart rfl rfl rfl hdV_X13_readPart ⟨Nat.le_of_ble_eq_true rfl, Nat.le_of_ble_eq_true rfl⟩) (pV (T := TX13) hP hK hD hT hG hS k0 (by decide) rfl) rfl rfl hl.1 rfl (lv_room (Nat.le_of_ble_eq_true rfl)) dX13_readFields_40 ⟨Nat.zero_le _, Nat.zero_le _⟩) hS (fun H locs hP hD hT hS => ?_)
        refine r_putIN (T := TX12) (ty := .int) (v := z7.1) hx hb hts in12 tyX12 tyX12_ok nmX12 hown hK hP hD hT hS kb5 (by decide) rfl 31 (by decide) (hG.2.2.1 ("StoneWalkModel", 357, "StoneWalkModel$Island", "feeds", "I", "StoneWalkModel") (List.mem_of_getElem? (i := 32) rfl)) rfl rfl (tyX12_ok 31 (by decide)) rfl rfl rfl dX13_readFields_43 (fun H locs hP hD hT hS => ?_)
        generalize pI z7.2 b5 31 z7.1 = Mg1 at h hP hD hT ⊢
        refine lv_aload_n hx hb dX13_readFields_46 rfl (lv_at hl 1 rfl) ?_
        refine r_get (T := TX13) (v := .int (gI Mg1 a0 9)) hx hb hts in13 hown hK hP k0 (by decide) rfl 9 (by decide) (hts (.fieldLink RX13 58 "StoneWalkModel" "sort" "I") (List.mem_of_getElem? (i := 2) (by decide +kernel))) rfl (t := 0) rfl rfl dX13_readFields_47 ?_
        refine lv_iconst (v := 5) hx hb dX13_readFields_50 rfl ?_
        refine lv_icmp_eq (tgt := 62) hx hb dX13_readFields_51 rfl (fun c8 => ?_) (fun c8 => ?_)
        · replace h := ite_t c8 h
          exact r_vret hx hb hr hlocks hP hK hD hT hG hS (Option.some.inj h) dX13_readFields_62
        · replace h := ite_f c8 h
          refine lv_aload_n hx hb dX13_readFields_54 rfl (lv_at hl 1 rfl) ?_
          rcases hN9 : gR Mg1 a0 4 with _ | b9
          · replace h := oc_n hN9 h
            refine r_get (T := TX13) (v := .null) hx hb hts in13 hown hK hP k0 (by decide) rfl 4 (by decide) (hts (.fieldLink RX13 150 "StoneWalkModel" "read" "LStoneWalkModel$Island;") (List.mem_of_getElem? (i := 1) (by decide +kernel))) rfl (t := 2) rfl (by show va_rf _ = _; rw [hN9]; rfl) dX13_readFields_55 ?_
            refine lv_iload_n hx hb dX13_readFields_58 rfl (lv_at hl 0 rfl) ?_
            exact absurd h (by simp)
          · replace h := oc_s hN9 h
            have kb9 := hT.f k0 (k := 4) (t := 12) (n := 0) rfl hN9
            refine r_get (T := TX13) (v := .ref (ad b9)) hx hb hts in13 hown hK hP k0 (by decide) rfl 4 (by decide) (hts (.fieldLink RX13 150 "StoneWalkModel" "read" "LStoneWalkModel$Island;") (List.mem_of_getElem? (i := 1) (by decide +kernel))) rfl (t := 2) rfl (by show va_rf _ = _; rw [hN9]; rfl) dX13_readFields_55 ?_
            refine lv_iload_n hx hb dX13_readFields_58 rfl (lv_at hl 0 rfl) ?_
            refine r_putIN (T := TX12) (ty := .int) (v := z4.1) hx hb hts in12 tyX12 tyX12_ok nmX12 hown hK hP hD hT hS kb9 (by decide) rfl 30 (by decide) (hG.2.2.1 ("StoneWalkModel", 353, "StoneWalkModel$Island", "fields", "I", "StoneWalkModel") (List.mem_of_getElem? (i := 31) rfl)) rfl rfl (tyX12_ok 30 (by decide)) rfl rfl rfl dX13_readFields_59 (fun H locs hP hD hT hS => ?_)
            generalize pI Mg1 b9 30 z4.1 = Mg2 at h hP hD hT ⊢
            exact r_vret hx hb hr hlocks hP hK hD hT hG hS (Option.some.inj h) dX13_readFields_62
    · replace h := ite_f c2 h
      refine lv_aload_n hx hb dX13_readFields_11 rfl (lv_at hl 0 rfl) ?_
      refine lv_iconst (v := 3) hx hb dX13_readFields_12 rfl ?_
      obtain ⟨z10, h10, h⟩ := ob_some h
      refine k_v (va_runV (As := [.int 3]) (rest := []) ⟨hx, hb, hml, hown, hts⟩ (c_X13_wrong (l := l) M a0 3 k0 h10) (cwV 1 hts gX13_readFields_X13_wrong rfl rfl rfl hdV_X13_wrong ⟨Nat.le_of_ble_eq_true rfl, Nat.le_of_ble_eq_true rfl⟩) (pV (T := TX13) hP hK hD hT hG hS k0 (by decide) rfl) rfl rfl hl.1 rfl (lv_room (Nat.le_of_ble_eq_true rfl)) dX13_readFields_13 ⟨Nat.zero_le _, Nat.zero_le _⟩) hS (fun H locs hP hD hT hS => ?_)
      refine lv_aload_n hx hb dX13_readFields_16 rfl (lv_at hl 0 rfl) ?_
      obtain ⟨z11, h11, h⟩ := ob_some h
      refine k_v (va_runV (As := []) (rest := []) ⟨hx, hb, hml, hown, hts⟩ (c_X13_goesOn (l := l) z10 a0 k0 h11) (cwV 0 hts gX13_readFields_X13_goesOn rfl rfl rfl hdV_X13_goesOn ⟨Nat.le_of_ble_eq_true rfl, Nat.le_of_ble_eq_true rfl⟩) (pV (T := TX13) hP hK hD hT hG hS k0 (by decide) rfl) rfl rfl hl.1 rfl (lv_room (Nat.le_of_ble_eq_true rfl)) dX13_readFields_17 ⟨Nat.zero_le _, Nat.zero_le _⟩) hS (fun H locs hP hD hT hS => ?_)
      refine lv_aload_n hx hb dX13_readFields_20 rfl (lv_at hl 0 rfl) ?_
      refine lv_iconst (v := 0) hx hb dX13_readFields_21 rfl ?_
      refine lv_sipush (v := 999) hx hb dX13_readFields_22 rfl ?_
      obtain ⟨z12, h12, h⟩ := ob_some h
      refine k_i (va_runV (As := [.int 0, .int 999]) (rest := []) ⟨hx, hb, hml, hown, hts⟩ (c_X13_readWhole (l := l) z11 a0 0 999 k0 h12) (cwV 2 hts gX13_readFields_X13_readWhole rfl rfl rfl hdV_X13_readWhole ⟨Nat.le_of_ble_eq_true rfl, Nat.le_of_ble_eq_true rfl⟩) (pV (T := TX13) hP hK hD hT hG hS k0 (by decide) rfl) rfl rfl hl.1 rfl (lv_room (Nat.le_of_ble_eq_true rfl)) dX13_readFields_25 ⟨Nat.zero_le _, Nat.zero_le _⟩) hS (fun H locs hP hD hT hS => ?_)
      refine lv_istore_n (lv' := [(1, .int z12.1), (0, .ref (ad a0))]) hx hb dX13_readFields_28 rfl hl (by decide) rfl (fun ls hl => ?_)
      refine lv_aload_n hx hb dX13_readFields_29 rfl (lv_at hl 1 rfl) ?_
      rcases hN13 : gR z12.2 a0 4 with _ | b13
      · replace h := oc_n hN13 h
        refine r_get (T := TX13) (v := .null) hx hb hts in13 hown hK hP k0 (by decide) rfl 4 (by decide) (hts (.fieldLink RX13 150 "StoneWalkModel" "read" "LStoneWalkModel$Island;") (List.mem_of_getElem? (i := 1) (by decide +kernel))) rfl (t := 2) rfl (by show va_rf _ = _; rw [hN13]; rfl) dX13_readFields_30 ?_
        refine lv_aload_n hx hb dX13_readFields_33 rfl (lv_at hl 1 rfl) ?_
        refine r_ldcSw (tx := "feeds") (i := 26) hx hb hG hown (by decide +kernel) dX13_readFields_34 ?_
        refine lv_iconst (v := 0) hx hb dX13_readFields_37 rfl ?_
        refine lv_bipush (v := 99) hx hb dX13_readFields_38 rfl ?_
        obtain ⟨z14, h14, h⟩ := ob_some h
        refine k_i (va_runV (As := [.ref (q.2.1 26), .int 0, .int 99]) (rest := [.null]) ⟨hx, hb, hml, hown, hts⟩ (c_X13_readPart (l := l) z12.2 a0 26 0 99 k0 (by decide) h14) (cwV 3 hts gX13_readFields_X13_readPart rfl rfl rfl hdV_X13_readPart ⟨Nat.le_of_ble_eq_true rfl, Nat.le_of_ble_eq_true rfl⟩) (pV (T := TX13) hP hK hD hT hG hS k0 (by decide) rfl) rfl rfl hl.1 rfl (lv_room (Nat.le_of_ble_eq_true rfl)) dX13_readFields_40 ⟨Nat.zero_le _, Nat.zero_le _⟩) hS (fun H locs hP hD hT hS => ?_)
        exact absurd h (by simp)
      · replace h := oc_s hN13 h
        have kb13 := hT.f k0 (k := 4) (t := 12) (n := 0) rfl hN13
        refine r_get (T := TX13) (v := .ref (ad b13)) hx hb hts in13 hown hK hP k0 (by decide) rfl 4 (by decide) (hts (.fieldLink RX13 150 "StoneWalkModel" "read" "LStoneWalkModel$Island;") (List.mem_of_getElem? (i := 1) (by decide +kernel))) rfl (t := 2) rfl (by show va_rf _ = _; rw [hN13]; rfl) dX13_readFields_30 ?_
        refine lv_aload_n hx hb dX13_readFields_33 rfl (lv_at hl 1 rfl) ?_
        refine r_ldcSw (tx := "feeds") (i := 26) hx hb hG hown (by decide +kernel) dX13_readFields_34 ?_
        refine lv_iconst (v := 0) hx hb dX13_readFields_37 rfl ?_
        refine lv_bipush (v := 99) hx hb dX13_readFields_38 rfl ?_
        obtain ⟨z15, h15, h⟩ := ob_some h
        refine k_i (va_runV (As := [.ref (q.2.1 26), .int 0, .int 99]) (rest := [.ref (ad b13)]) ⟨hx, hb, hml, hown, hts⟩ (c_X13_readPart (l := l) z12.2 a0 26 0 99 k0 (by decide) h15) (cwV 3 hts gX13_readFields_X13_readPart rfl rfl rfl hdV_X13_readPart ⟨Nat.le_of_ble_eq_true rfl, Nat.le_of_ble_eq_true rfl⟩) (pV (T := TX13) hP hK hD hT hG hS k0 (by decide) rfl) rfl rfl hl.1 rfl (lv_room (Nat.le_of_ble_eq_true rfl)) dX13_readFields_40 ⟨Nat.zero_le _, Nat.zero_le _⟩) hS (fun H locs hP hD hT hS => ?_)
        refine r_putIN (T := TX12) (ty := .int) (v := z15.1) hx hb hts in12 tyX12 tyX12_ok nmX12 hown hK hP hD hT hS kb13 (by decide) rfl 31 (by decide) (hG.2.2.1 ("StoneWalkModel", 357, "StoneWalkModel$Island", "feeds", "I", "StoneWalkModel") (List.mem_of_getElem? (i := 32) rfl)) rfl rfl (tyX12_ok 31 (by decide)) rfl rfl rfl dX13_readFields_43 (fun H locs hP hD hT hS => ?_)
        generalize pI z15.2 b13 31 z15.1 = Mg3 at h hP hD hT ⊢
        refine lv_aload_n hx hb dX13_readFields_46 rfl (lv_at hl 1 rfl) ?_
        refine r_get (T := TX13) (v := .int (gI Mg3 a0 9)) hx hb hts in13 hown hK hP k0 (by decide) rfl 9 (by decide) (hts (.fieldLink RX13 58 "StoneWalkModel" "sort" "I") (List.mem_of_getElem? (i := 2) (by decide +kernel))) rfl (t := 0) rfl rfl dX13_readFields_47 ?_
        refine lv_iconst (v := 5) hx hb dX13_readFields_50 rfl ?_
        refine lv_icmp_eq (tgt := 62) hx hb dX13_readFields_51 rfl (fun c16 => ?_) (fun c16 => ?_)
        · replace h := ite_t c16 h
          exact r_vret hx hb hr hlocks hP hK hD hT hG hS (Option.some.inj h) dX13_readFields_62
        · replace h := ite_f c16 h
          refine lv_aload_n hx hb dX13_readFields_54 rfl (lv_at hl 1 rfl) ?_
          rcases hN17 : gR Mg3 a0 4 with _ | b17
          · replace h := oc_n hN17 h
            refine r_get (T := TX13) (v := .null) hx hb hts in13 hown hK hP k0 (by decide) rfl 4 (by decide) (hts (.fieldLink RX13 150 "StoneWalkModel" "read" "LStoneWalkModel$Island;") (List.mem_of_getElem? (i := 1) (by decide +kernel))) rfl (t := 2) rfl (by show va_rf _ = _; rw [hN17]; rfl) dX13_readFields_55 ?_
            refine lv_iload_n hx hb dX13_readFields_58 rfl (lv_at hl 0 rfl) ?_
            exact absurd h (by simp)
          · replace h := oc_s hN17 h
            have kb17 := hT.f k0 (k := 4) (t := 12) (n := 0) rfl hN17
            refine r_get (T := TX13) (v := .ref (ad b17)) hx hb hts in13 hown hK hP k0 (by decide) rfl 4 (by decide) (hts (.fieldLink RX13 150 "StoneWalkModel" "read" "LStoneWalkModel$Island;") (List.mem_of_getElem? (i := 1) (by decide +kernel))) rfl (t := 2) rfl (by show va_rf _ = _; rw [hN17]; rfl) dX13_readFields_55 ?_
            refine lv_iload_n hx hb dX13_readFields_58 rfl (lv_at hl 0 rfl) ?_
            refine r_putIN (T := TX12) (ty := .int) (v := z12.1) hx hb hts in12 tyX12 tyX12_ok nmX12 hown hK hP hD hT hS kb17 (by decide) rfl 30 (by decide) (hG.2.2.1 ("StoneWalkModel", 353, "StoneWalkModel$Island", "fields", "I", "StoneWalkModel") (List.mem_of_getElem? (i := 31) rfl)) rfl rfl (tyX12_ok 30 (by decide)) rfl rfl rfl dX13_readFields_59 (fun H locs hP hD hT hS => ?_)
            generalize pI Mg3 b17 30 z12.1 = Mg4 at h hP hD hT ⊢
            exact r_vret hx hb hr hlocks hP hK hD hT hG hS (Option.some.inj h) dX13_readFields_62
