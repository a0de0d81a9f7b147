set_option maxHeartbeats 4000000 in
set_option maxRecDepth 100000 in
theorem c_X13_known {l : Launch} {D : va_G} {ad : Nat → Nat} {cy : Nat → ClassId} {A : Nat → Prop} {g : CG} {q : SE} (M : MM) (a0 : Nat) (x1 : Int32) (k0 : ok g a0 13 0) {Z : (Int32 × MM)} (h : f_X13_known M a0 x1 = some Z) : Met l yX13_known wsX13_known ({ frames := 7, cells := 0, slots := 0, locals := 149 }) (va_Pc [.ref (ad a0), .int x1] (Wd D ad cy A g q M)) (va_Qi (fun r u => r = Z.1 ∧ u = Z.2) (Wd D ad cy A g q) A) 0 0 A := by
  refine Met.ofW (cc := cX13_known) (maxL := 3) (ret := (some .int)) (by decide) rfl ?_
  intro p e s m args below meth c s₁ B hml hv
  obtain ⟨rfl, hP, hK, hD, hT, hG⟩ := hv
  have hx := B.exec
  have hb := B.bytes
  have hr := B.returns
  have hts := atoms_spec (ws := wsX13_known) B.pre
  have hown : s.vm.findClass RX13 = some m.cls := findClass_of_methodNamed B.named
  have hlocks := B.notSynchronized
  have in12 : ∀ w ∈ u_ws RX12 TX12 48, w ∈ wsX13_known := fun w h => List.mem_cons_of_mem _ (List.mem_append_right _ h)
  have in13 : ∀ w ∈ u_ws RX13 TX13 29, w ∈ wsX13_known := fun w h => List.mem_cons_of_mem _ (List.mem_append_left _ (List.mem_append_right _ h))
  have hS : va_S A s.heap s.heap [] := va_S.rf
  have hl := lv_entry ([.ref (ad a0), .int x1]) (n := 3) (Nat.le_of_ble_eq_true rfl)
  rw [lg_entry_eq]
  generalize (lg_sl ([.ref (ad a0), .int x1]) ++ List.replicate (3 - (lg_sl ([.ref (ad a0), .int x1])).length) Slot.unset).toArray = ls at hl ⊢
  have hl : lv_has ls 3 [(0, .ref (ad a0)), (1, .int x1)] := hl
  unfold f_X13_known at h
  refine lv_aload_n hx hb dX13_known_0 rfl (lv_at hl 0 rfl) ?_
  obtain ⟨z1, h1, h⟩ := ob_some h
  refine k_z (va_runV (As := []) (rest := []) ⟨hx, hb, hml, hown, hts⟩ (c_X13_isName (l := l) M a0 k0 h1) (cwV 0 hts gX13_known_X13_isName rfl rfl rfl hdV_X13_isName ⟨Nat.le_of_ble_eq_true rfl, Nat.le_of_ble_eq_true rfl⟩) (pV (T := TX13) hP hK hD hT hG hS k0 (by decide) rfl) rfl rfl hl.1 rfl (lv_room (Nat.le_of_ble_eq_true rfl)) dX13_known_1 ⟨Nat.zero_le _, Nat.zero_le _⟩) hS (fun H locs hz1 hP hD hT hS => ?_)
  refine lv_if_ne (tgt := 12) hx hb dX13_known_4 rfl (fun c2 => ?_) (fun c2 => ?_)
  · replace h := ite_f c2 h
    refine lv_aload_n hx hb dX13_known_12 rfl (lv_at hl 0 rfl) ?_
    rcases hN3 : gR M a0 4 with _ | b3
    · replace h := oc_n hN3 h
      refine r_get (T := TX13) (v := .null) hx hb hts in13 hown hK hP k0 (by decide) rfl 4 (by decide) (hts (.fieldLink RX13 150 "StoneWalkModel" "read" "LStoneWalkModel$Island;") (List.mem_of_getElem? (i := 1) (by decide +kernel))) rfl (t := 2) rfl (by show va_rf _ = _; rw [hN3]; rfl) dX13_known_13 ?_
      refine lv_aload_n hx hb dX13_known_16 rfl (lv_at hl 0 rfl) ?_
      refine r_get (T := TX13) (v := .long (gL M a0 15)) hx hb hts in13 hown hK hP k0 (by decide) rfl 15 (by decide) (hts (.fieldLink RX13 77 "StoneWalkModel" "word" "J") (List.mem_of_getElem? (i := 2) (by decide +kernel))) rfl (t := 1) rfl rfl dX13_known_17 ?_
      exact absurd h (by simp)
    · replace h := oc_s hN3 h
      have kb3 := hT.f k0 (k := 4) (t := 12) (n := 0) rfl hN3
      refine r_get (T := TX13) (v := .ref (ad b3)) hx hb hts in13 hown hK hP k0 (by decide) rfl 4 (by decide) (hts (.fieldLink RX13 150 "StoneWalkModel" "read" "LStoneWalkModel$Island;") (List.mem_of_getElem? (i := 1) (by decide +kernel))) rfl (t := 2) rfl (by show va_rf _ = _; rw [hN3]; rfl) dX13_known_13 ?_
      refine lv_aload_n hx hb dX13_known_16 rfl (lv_at hl 0 rfl) ?_
      refine r_get (T := TX13) (v := .long (gL M a0 15)) hx hb hts in13 hown hK hP k0 (by decide) rfl 15 (by decide) (hts (.fieldLink RX13 77 "StoneWalkModel" "word" "J") (List.mem_of_getElem? (i := 2) (by decide +kernel))) rfl (t := 1) rfl rfl dX13_known_17 ?_
      obtain ⟨z4, h4, h⟩ := ob_some h
      refine k_i (va_runV (As := [.long (gL M a0 15)]) (rest := []) ⟨hx, hb, hml, hown, hts⟩ (c_X12_find (l := l) M b3 (gL M a0 15) kb3 h4) (cwV 1 hts gX13_known_X12_find rfl rfl rfl hdV_X12_find ⟨Nat.le_of_ble_eq_true rfl, Nat.le_of_ble_eq_true rfl⟩) (pV (T := TX12) hP hK hD hT hG hS kb3 (by decide) rfl) rfl rfl hl.1 rfl (lv_room (Nat.le_of_ble_eq_true rfl)) dX13_known_20 ⟨Nat.zero_le _, Nat.zero_le _⟩) hS (fun H locs hP hD hT hS => ?_)
      refine lv_istore_n (lv' := [(2, .int z4), (0, .ref (ad a0)), (1, .int x1)]) hx hb dX13_known_23 rfl hl (by decide) rfl (fun ls hl => ?_)
      refine lv_iload_n hx hb dX13_known_24 rfl (lv_at hl 0 rfl) ?_
      refine lv_iconst (v := (-1)) hx hb dX13_known_25 rfl ?_
      refine lv_icmp_eq (tgt := 42) hx hb dX13_known_26 rfl (fun c5 => ?_) (fun c5 => ?_)
      · replace h := ite_t c5 h
        refine lv_aload_n hx hb dX13_known_42 rfl (lv_at hl 1 rfl) ?_
        refine lv_iconst (v := 2) hx hb dX13_known_43 rfl ?_
        obtain ⟨z6, h6, h⟩ := ob_some h
        refine k_v (va_runV (As := [.int 2]) (rest := []) ⟨hx, hb, hml, hown, hts⟩ (c_X13_wrong (l := l) M a0 2 k0 h6) (cwV 1 hts gX13_known_X13_wrong rfl rfl rfl hdV_X13_wrong ⟨Nat.le_of_ble_eq_true rfl, Nat.le_of_ble_eq_true rfl⟩) (pV (T := TX13) hP hK hD hT hG hS k0 (by decide) rfl) rfl rfl hl.1 rfl (lv_room (Nat.le_of_ble_eq_true rfl)) dX13_known_44 ⟨Nat.zero_le _, Nat.zero_le _⟩) hS (fun H locs hP hD hT hS => ?_)
        refine lv_aload_n hx hb dX13_known_47 rfl (lv_at hl 1 rfl) ?_
        refine r_get (T := TX13) (v := .int (gI z6 a0 9)) hx hb hts in13 hown hK hP k0 (by decide) rfl 9 (by decide) (hts (.fieldLink RX13 58 "StoneWalkModel" "sort" "I") (List.mem_of_getElem? (i := 3) (by decide +kernel))) rfl (t := 0) rfl rfl dX13_known_48 ?_
        refine lv_iconst (v := 5) hx hb dX13_known_51 rfl ?_
        refine lv_icmp_ne (tgt := 59) hx hb dX13_known_52 rfl (fun c7 => ?_) (fun c7 => ?_)
        · replace h := ite_f c7 h
          refine lv_aload_n hx hb dX13_known_59 rfl (lv_at hl 1 rfl) ?_
          rcases hN8 : gR z6 a0 4 with _ | b8
          · replace h := oc_n hN8 h
            refine r_get (T := TX13) (v := .null) hx hb hts in13 hown hK hP k0 (by decide) rfl 4 (by decide) (hts (.fieldLink RX13 150 "StoneWalkModel" "read" "LStoneWalkModel$Island;") (List.mem_of_getElem? (i := 1) (by decide +kernel))) rfl (t := 2) rfl (by show va_rf _ = _; rw [hN8]; rfl) dX13_known_60 ?_
            exact absurd h (by simp)
          · replace h := oc_s hN8 h
            have kb8 := hT.f k0 (k := 4) (t := 12) (n := 0) rfl hN8
            refine r_get (T := TX13) (v := .ref (ad b8)) hx hb hts in13 hown hK hP k0 (by decide) rfl 4 (by decide) (hts (.fieldLink RX13 150 "StoneWalkModel" "read" "LStoneWalkModel$Island;") (List.mem_of_getElem? (i := 1) (by decide +kernel))) rfl (t := 2) rfl (by show va_rf _ = _; rw [hN8]; rfl) dX13_known_60 ?_
            rcases hN9 : gR z6 b8 47 with _ | b9
            · exact absurd (oc_n hN9 h) (by simp)
            replace h := oc_s hN9 h
            have kb9 := hT.f kb8 (k := 47) (t := 15) (n := 35) rfl hN9
            refine r_getN (T := TX12) (v := .ref (ad b9)) hx hb hts in12 hown hK hP kb8 (by decide) rfl 47 (by decide) (hG.2.2.1 ("StoneWalkModel", 170, "StoneWalkModel$Island", "nameNumber", "[I", "StoneWalkModel") (List.mem_of_getElem? (i := 4) rfl)) rfl (t := 2) rfl (by show va_rf _ = _; rw [hN9]; rfl) dX13_known_63 ?_
            refine lv_iload_n hx hb dX13_known_66 rfl (lv_at hl 0 rfl) ?_
            obtain ⟨hn10, h⟩ := chk_some h
            refine r_iald hx hb hK hP kb9 hn10 dX13_known_67 ?_
            have hZ := Option.some.inj h
            have hZ1 := congrArg Prod.fst hZ
            have hZ2 := congrArg Prod.snd hZ
            exact r_iret hx hb hr hlocks hP hK hD hT hG hS hZ1 hZ2 dX13_known_68
        · replace h := ite_t c7 h
          refine lv_iconst (v := 0) hx hb dX13_known_55 rfl ?_
          refine lv_goto (tgt := 68) hx hb dX13_known_56 rfl ?_
          have hZ := Option.some.inj h
          have hZ1 := congrArg Prod.fst hZ
          have hZ2 := congrArg Prod.snd hZ
          exact r_iret hx hb hr hlocks hP hK hD hT hG hS hZ1 hZ2 dX13_known_68
      · replace h := ite_f c5 h
        refine lv_aload_n hx hb dX13_known_29 rfl (lv_at hl 1 rfl) ?_
        rcases hN11 : gR M a0 4 with _ | b11
        · replace h := oc_n hN11 h
          refine r_get (T := TX13) (v := .null) hx hb hts in13 hown hK hP k0 (by decide) rfl 4 (by decide) (hts (.fieldLink RX13 150 "StoneWalkModel" "read" "LStoneWalkModel$Island;") (List.mem_of_getElem? (i := 1) (by decide +kernel))) rfl (t := 2) rfl (by show va_rf _ = _; rw [hN11]; rfl) dX13_known_30 ?_
          exact absurd h (by simp)
        · replace h := oc_s hN11 h
          have kb11 := hT.f k0 (k := 4) (t := 12) (n := 0) rfl hN11
          refine r_get (T := TX13) (v := .ref (ad b11)) hx hb hts in13 hown hK hP k0 (by decide) rfl 4 (by decide) (hts (.fieldLink RX13 150 "StoneWalkModel" "read" "LStoneWalkModel$Island;") (List.mem_of_getElem? (i := 1) (by decide +kernel))) rfl (t := 2) rfl (by show va_rf _ = _; rw [hN11]; rfl) dX13_known_30 ?_
          rcases hN12 : gR M b11 46 with _ | b12
          · exact absurd (oc_n hN12 h) (by simp)
          replace h := oc_s hN12 h
          have kb12 := hT.f kb11 (k := 46) (t := 15) (n := 35) rfl hN12
          refine r_getN (T := TX12) (v := .ref (ad b12)) hx hb hts in12 hown hK hP kb11 (by decide) rfl 46 (by decide) (hG.2.2.1 ("StoneWalkModel", 167, "StoneWalkModel$Island", "nameSort", "[I", "StoneWalkModel") (List.mem_of_getElem? (i := 3) rfl)) rfl (t := 2) rfl (by show va_rf _ = _; rw [hN12]; rfl) dX13_known_33 ?_
          refine lv_iload_n hx hb dX13_known_36 rfl (lv_at hl 0 rfl) ?_
          obtain ⟨hn13, h⟩ := chk_some h
          refine r_iald hx hb hK hP kb12 hn13 dX13_known_37 ?_
          refine lv_iload_n hx hb dX13_known_38 rfl (lv_at hl 2 rfl) ?_
          refine lv_icmp_eq (tgt := 47) hx hb dX13_known_39 rfl (fun c14 => ?_) (fun c14 => ?_)
          · replace h := ite_t c14 h
            refine lv_aload_n hx hb dX13_known_47 rfl (lv_at hl 1 rfl) ?_
            refine r_get (T := TX13) (v := .int (gI M a0 9)) hx hb hts in13 hown hK hP k0 (by decide) rfl 9 (by decide) (hts (.fieldLink RX13 58 "StoneWalkModel" "sort" "I") (List.mem_of_getElem? (i := 3) (by decide +kernel))) rfl (t := 0) rfl rfl dX13_known_48 ?_
            refine lv_iconst (v := 5) hx hb dX13_known_51 rfl ?_
            refine lv_icmp_ne (tgt := 59) hx hb dX13_known_52 rfl (fun c15 => ?_) (fun c15 => ?_)
            · replace h := ite_f c15 h
              refine lv_aload_n hx hb dX13_known_59 rfl (lv_at hl 1 rfl) ?_
              rcases hN16 : gR M a0 4 with _ | b16
              · replace h := oc_n hN16 h
                refine r_get (T := TX13) (v := .null) hx hb hts in13 hown hK hP k0 (by decide) rfl 4 (by decide) (hts (.fieldLink RX13 150 "StoneWalkModel" "read" "LStoneWalkModel$Island;") (List.mem_of_getElem? (i := 1) (by decide +kernel))) rfl (t := 2) rfl (by show va_rf _ = _; rw [hN16]; rfl) dX13_known_60 ?_
                exact absurd h (by simp)
              · replace h := oc_s hN16 h
                have kb16 := hT.f k0 (k := 4) (t := 12) (n := 0) rfl hN16
                refine r_get (T := TX13) (v := .ref (ad b16)) hx hb hts in13 hown hK hP k0 (by decide) rfl 4 (by decide) (hts (.fieldLink RX13 150 "StoneWalkModel" "read" "LStoneWalkModel$Island;") (List.mem_of_getElem? (i := 1) (by decide +kernel))) rfl (t := 2) rfl (by show va_rf _ = _; rw [hN16]; rfl) dX13_known_60 ?_
                rcases hN17 : gR M b16 47 with _ | b17
                · exact absurd (oc_n hN17 h) (by simp)
                replace h := oc_s hN17 h
                have kb17 := hT.f kb16 (k := 47) (t := 15) (n := 35) rfl hN17
                refine r_getN (T := TX12) (v := .ref (ad b17)) hx hb hts in12 hown hK hP kb16 (by decide) rfl 47 (by decide) (hG.2.2.1 ("StoneWalkModel", 170, "StoneWalkModel$Island", "nameNumber", "[I", "StoneWalkModel") (List.mem_of_getElem? (i := 4) rfl)) rfl (t := 2) rfl (by show va_rf _ = _; rw [hN17]; rfl) dX13_known_63 ?_
                refine lv_iload_n hx hb dX13_known_66 rfl (lv_at hl 0 rfl) ?_
                obtain ⟨hn18, h⟩ := chk_some h
                refine r_iald hx hb hK hP kb17 hn18 dX13_known_67 ?_
                have hZ := Option.some.inj h
                have hZ1 := congrArg Prod.fst hZ
                have hZ2 := congrArg Prod.snd hZ
                exact r_iret hx hb hr hlocks hP hK hD hT hG hS hZ1 hZ2 dX13_known_68
            · replace h := ite_t c15 h
              refine lv_iconst (v := 0) hx hb dX13_known_55 rfl ?_
              refine lv_goto (tgt := 68) hx hb dX13_known_56 rfl ?_
              have hZ := Option.some.inj h
              have hZ1 := congrArg Prod.fst hZ
              have hZ2 := congrArg Prod.snd hZ
              exact r_iret hx hb hr hlocks hP hK hD hT hG hS hZ1 hZ2 dX13_known_68
          · replace h := ite_f c14 h
            refine lv_aload_n hx hb dX13_known_42 rfl (lv_at hl 1 rfl) ?_
            refine lv_iconst (v := 2) hx hb dX13_known_43 rfl ?_
            obtain ⟨z19, h19, h⟩ := ob_some h
            refine k_v (va_runV (As := [.int 2]) (rest := []) ⟨hx, hb, hml, hown, hts⟩ (c_X13_wrong (l := l) M a0 2 k0 h19) (cwV 1 hts gX13_known_X13_wrong rfl rfl rfl hdV_X13_wrong ⟨Nat.le_of_ble_eq_true rfl, Nat.le_of_ble_eq_true rfl⟩) (pV (T := TX13) hP hK hD hT hG hS k0 (by decide) rfl) rfl rfl hl.1 rfl (lv_room (Nat.le_of_ble_eq_true rfl)) dX13_known_44 ⟨Nat.zero_le _, Nat.zero_le _⟩) hS (fun H locs hP hD hT hS => ?_)
            refine lv_aload_n hx hb dX13_known_47 rfl (lv_at hl 1 rfl) ?_
            refine r_get (T := TX13) (v := .int (gI z19 a0 9)) hx hb hts in13 hown hK hP k0 (by decide) rfl 9 (by decide) (hts (.fieldLink RX13 58 "StoneWalkModel" "sort" "I") (List.mem_of_getElem? (i := 3) (by decide +kernel))) rfl (t := 0) rfl rfl dX13_known_48 ?_
            refine lv_iconst (v := 5) hx hb dX13_known_51 rfl ?_
            refine lv_icmp_ne (tgt := 59) hx hb dX13_known_52 rfl (fun c20 => ?_) (fun c20 => ?_)
            · replace h := ite_f c20 h
              refine lv_aload_n hx hb dX13_known_59 rfl (lv_at hl 1 rfl) ?_
              rcases hN21 : gR z19 a0 4 with _ | b21
              · replace h := oc_n hN21 h
                refine r_get (T := TX13) (v := .null) hx hb hts in13 hown hK hP k0 (by decide) rfl 4 (by decide) (hts (.fieldLink RX13 150 "StoneWalkModel" "read" "LStoneWalkModel$Island;") (List.mem_of_getElem? (i := 1) (by decide +kernel))) rfl (t := 2) rfl (by show va_rf _ = _; rw [hN21]; rfl) dX13_known_60 ?_
                exact absurd h (by simp)
              · replace h := oc_s hN21 h
                have kb21 := hT.f k0 (k := 4) (t := 12) (n := 0) rfl hN21
                refine r_get (T := TX13) (v := .ref (ad b21)) hx hb hts in13 hown hK hP k0 (by decide) rfl 4 (by decide) (hts (.fieldLink RX13 150 "StoneWalkModel" "read" "LStoneWalkModel$Island;") (List.mem_of_getElem? (i := 1) (by decide +kernel))) rfl (t := 2) rfl (by show va_rf _ = _; rw [hN21]; rfl) dX13_known_60 ?_
                rcases hN22 : gR z19 b21 47 with _ | b22
                · exact absurd (oc_n hN22 h) (by simp)
                replace h := oc_s hN22 h
                have kb22 := hT.f kb21 (k := 47) (t := 15) (n := 35) rfl hN22
                refine r_getN (T := TX12) (v := .ref (ad b22)) hx hb hts in12 hown hK hP kb21 (by decide) rfl 47 (by decide) (hG.2.2.1 ("StoneWalkModel", 170, "StoneWalkModel$Island", "nameNumber", "[I", "StoneWalkModel") (List.mem_of_getElem? (i := 4) rfl)) rfl (t := 2) rfl (by show va_rf _ = _; rw [hN22]; rfl) dX13_known_63 ?_
                refine lv_iload_n hx hb dX13_known_66 rfl (lv_at hl 0 rfl) ?_
                obtain ⟨hn23, h⟩ := chk_some h
                refine r_iald hx hb hK hP kb22 hn23 dX13_known_67 ?_
                have hZ := Option.some.inj h
                have hZ1 := congrArg Prod.fst hZ
                have hZ2 := congrArg Prod.snd hZ
                exact r_iret hx hb hr hlocks hP hK hD hT hG hS hZ1 hZ2 dX13_known_68
            · replace h := ite_t c20 h
              refine lv_iconst (v := 0) hx hb dX13_known_55 rfl ?_
              refine lv_goto (tgt := 68) hx hb dX13_known_56 rfl ?_
              have hZ := Option.some.inj h
              have hZ1 := congrArg Prod.fst hZ
              have hZ2 := congrArg Prod.snd hZ
              exact r_iret hx hb hr hlocks hP hK hD hT hG hS hZ1 hZ2 dX13_known_68
  · replace h := ite_t c2 h
    refine lv_aload_n hx hb dX13_known_7 rfl (lv_at hl 0 rfl) ?_
    refine lv_iconst (v := 1) hx hb dX13_known_8 rfl ?_
    obtain ⟨z24, h24, h⟩ := ob_some h
    refine k_v (va_runV (As := [.int 1]) (rest := []) ⟨hx, hb, hml, hown, hts⟩ (c_X13_wrong (l := l) M a0 1 k0 h24) (cwV 1 hts gX13_known_X13_wrong rfl rfl rfl hdV_X13_wrong ⟨Nat.le_of_ble_eq_true rfl, Nat.le_of_ble_eq_true rfl⟩) (pV (T := TX13) hP hK hD hT hG hS k0 (by decide) rfl) rfl rfl hl.1 rfl (lv_room (Nat.le_of_ble_eq_true rfl)) dX13_known_9 ⟨Nat.zero_le _, Nat.zero_le _⟩) hS (fun H locs hP hD hT hS => ?_)
    refine lv_aload_n hx hb dX13_known_12 rfl (lv_at hl 0 rfl) ?_
    rcases hN25 : gR z24 a0 4 with _ | b25
    · replace h := oc_n hN25 h
      refine r_get (T := TX13) (v := .null) hx hb hts in13 hown hK hP k0 (by decide) rfl 4 (by decide) (hts (.fieldLink RX13 150 "StoneWalkModel" "read" "LStoneWalkModel$Island;") (List.mem_of_getElem? (i := 1) (by decide +kernel))) rfl (t := 2) rfl (by show va_rf _ = _; rw [hN25]; rfl) dX13_known_13 ?_
      refine lv_aload_n hx hb dX13_known_16 rfl (lv_at hl 0 rfl) ?_
      refine r_get (T := TX13) (v := .long (gL z24 a0 15)) hx hb hts in13 hown hK hP k0 (by decide) rfl 15 (by decide) (hts (.fieldLink RX13 77 "StoneWalkModel" "word" "J") (List.mem_of_getElem? (i := 2) (by decide +kernel))) rfl (t := 1) rfl rfl dX13_known_17 ?_
      exact absurd h (by simp)
    · replace h := oc_s hN25 h
      have kb25 := hT.f k0 (k := 4) (t := 12) (n := 0) rfl hN25
      refine r_get (T := TX13) (v := .ref (ad b25)) hx hb hts in13 hown hK hP k0 (by decide) rfl 4 (by decide) (hts (.fieldLink RX13 150 "StoneWalkModel" "read" "LStoneWalkModel$Island;") (List.mem_of_getElem? (i := 1) (by decide +kernel))) rfl (t := 2) rfl (by show va_rf _ = _; rw [hN25]; rfl) dX13_known_13 ?_
      refine lv_aload_n hx hb dX13_known_16 rfl (lv_at hl 0 rfl) ?_
      refine r_get (T := TX13) (v := .long (gL z24 a0 15)) hx hb hts in13 hown hK hP k0 (by decide) rfl 15 (by decide) (hts (.fieldLink RX13 77 "StoneWalkModel" "word" "J") (List.mem_of_getElem? (i := 2) (by decide +kernel))) rfl (t := 1) rfl rfl dX13_known_17 ?_
      obtain ⟨z26, h26, h⟩ := ob_some h
      refine k_i (va_runV (As := [.long (gL z24 a0 15)]) (rest := []) ⟨hx, hb, hml, hown, hts⟩ (c_X12_find (l := l) z24 b25 (gL z24 a0 15) kb25 h26) (cwV 1 hts gX13_known_X12_find rfl rfl rfl hdV_X12_find ⟨Nat.le_of_ble_eq_true rfl, Nat.le_of_ble_eq_true rfl⟩) (pV (T := TX12) hP hK hD hT hG hS kb25 (by decide) rfl) rfl rfl hl.1 rfl (lv_room (Nat.le_of_ble_eq_true rfl)) dX13_known_20 ⟨Nat.zero_le _, Nat.zero_le _⟩) hS (fun H locs hP hD hT hS => ?_)
      refine lv_istore_n (lv' := [(2, .int z26), (0, .ref (ad a0)), (1, .int x1)]) hx hb dX13_known_23 rfl hl (by decide) rfl (fun ls hl => ?_)
      refine lv_iload_n hx hb dX13_known_24 rfl (lv_at hl 0 rfl) ?_
      refine lv_iconst (v := (-1)) hx hb dX13_known_25 rfl ?_
      refine lv_icmp_eq (tgt := 42) hx hb dX13_known_26 rfl (fun c27 => ?_) (fun c27 => ?_)
      · replace h := ite_t c27 h
        refine lv_aload_n hx hb dX13_known_42 rfl (lv_at hl 1 rfl) ?_
        refine lv_iconst (v := 2) hx hb dX13_known_43 rfl ?_
        obtain ⟨z28, h28, h⟩ := ob_some h
        refine k_v (va_runV (As := [.int 2]) (rest := []) ⟨hx, hb, hml, hown, hts⟩ (c_X13_wrong (l := l) z24 a0 2 k0 h28) (cwV 1 hts gX13_known_X13_wrong rfl rfl rfl hdV_X13_wrong ⟨Nat.le_of_ble_eq_true rfl, Nat.le_of_ble_eq_true rfl⟩) (pV (T := TX13) hP hK hD hT hG hS k0 (by decide) rfl) rfl rfl hl.1 rfl (lv_room (Nat.le_of_ble_eq_true rfl)) dX13_known_44 ⟨Nat.zero_le _, Nat.zero_le _⟩) hS (fun H locs hP hD hT hS => ?_)
        refine lv_aload_n hx hb dX13_known_47 rfl (lv_at hl 1 rfl) ?_
        refine r_get (T := TX13) (v := .int (gI z28 a0 9)) hx hb hts in13 hown hK hP k0 (by decide) rfl 9 (by decide) (hts (.fieldLink RX13 58 "StoneWalkModel" "sort" "I") (List.mem_of_getElem? (i := 3) (by decide +kernel))) rfl (t := 0) rfl rfl dX13_known_48 ?_
        refine lv_iconst (v := 5) hx hb dX13_known_51 rfl ?_
        refine lv_icmp_ne (tgt := 59) hx hb dX13_known_52 rfl (fun c29 => ?_) (fun c29 => ?_)
        · replace h := ite_f c29 h
          refine lv_aload_n hx hb dX13_known_59 rfl (lv_at hl 1 rfl) ?_
          rcases hN30 : gR z28 a0 4 with _ | b30
          · replace h := oc_n hN30 h
            refine r_get (T := TX13) (v := .null) hx hb hts in13 hown hK hP k0 (by decide) rfl 4 (by decide) (hts (.fieldLink RX13 150 "StoneWalkModel" "read" "LStoneWalkModel$Island;") (List.mem_of_getElem? (i := 1) (by decide +kernel))) rfl (t := 2) rfl (by show va_rf _ = _; rw [hN30]; rfl) dX13_known_60 ?_
            exact absurd h (by simp)
          · replace h := oc_s hN30 h
            have kb30 := hT.f k0 (k := 4) (t := 12) (n := 0) rfl hN30
            refine r_get (T := TX13) (v := .ref (ad b30)) hx hb hts in13 hown hK hP k0 (by decide) rfl 4 (by decide) (hts (.fieldLink RX13 150 "StoneWalkModel" "read" "LStoneWalkModel$Island;") (List.mem_of_getElem? (i := 1) (by decide +kernel))) rfl (t := 2) rfl (by show va_rf _ = _; rw [hN30]; rfl) dX13_known_60 ?_
            rcases hN31 : gR z28 b30 47 with _ | b31
            · exact absurd (oc_n hN31 h) (by simp)
            replace h := oc_s hN31 h
            have kb31 := hT.f kb30 (k := 47) (t := 15) (n := 35) rfl hN31
            refine r_getN (T := TX12) (v := .ref (ad b31)) hx hb hts in12 hown hK hP kb30 (by decide) rfl 47 (by decide) (hG.2.2.1 ("StoneWalkModel", 170, "StoneWalkModel$Island", "nameNumber", "[I", "StoneWalkModel") (List.mem_of_getElem? (i := 4) rfl)) rfl (t := 2) rfl (by show va_rf _ = _; rw [hN31]; rfl) dX13_known_63 ?_
            refine lv_iload_n hx hb dX13_known_66 rfl (lv_at hl 0 rfl) ?_
            obtain ⟨hn32, h⟩ := chk_some h
            refine r_iald hx hb hK hP kb31 hn32 dX13_known_67 ?_
            have hZ := Option.some.inj h
            have hZ1 := congrArg Prod.fst hZ
            have hZ2 := congrArg Prod.snd hZ
            exact r_iret hx hb hr hlocks hP hK hD hT hG hS hZ1 hZ2 dX13_known_68
        · replace h := ite_t c29 h
          refine lv_iconst (v := 0) hx hb dX13_known_55 rfl ?_
          refine lv_goto (tgt := 68) hx hb dX13_known_56 rfl ?_
          have hZ := Option.some.inj h
          have hZ1 := congrArg Prod.fst hZ
          have hZ2 := congrArg Prod.snd hZ
          exact r_iret hx hb hr hlocks hP hK hD hT hG hS hZ1 hZ2 dX13_known_68
      · replace h := ite_f c27 h
        refine lv_aload_n hx hb dX13_known_29 rfl (lv_at hl 1 rfl) ?_
        rcases hN33 : gR z24 a0 4 with _ | b33
        · replace h := oc_n hN33 h
          refine r_get (T := TX13) (v := .null) hx hb hts in13 hown hK hP k0 (by decide) rfl 4 (by decide) (hts (.fieldLink RX13 150 "StoneWalkModel" "read" "LStoneWalkModel$Island;") (List.mem_of_getElem? (i := 1) (by decide +kernel))) rfl (t := 2) rfl (by show va_rf _ = _; rw [hN33]; rfl) dX13_known_30 ?_
          exact absurd h (by simp)
        · replace h := oc_s hN33 h
          have kb33 := hT.f k0 (k := 4) (t := 12) (n := 0) rfl hN33
          refine r_get (T := TX13) (v := .ref (ad b33)) hx hb hts in13 hown hK hP k0 (by decide) rfl 4 (by decide) (hts (.fieldLink RX13 150 "StoneWalkModel" "read" "LStoneWalkModel$Island;") (List.mem_of_getElem? (i := 1) (by decide +kernel))) rfl (t := 2) rfl (by show va_rf _ = _; rw [hN33]; rfl) dX13_known_30 ?_
          rcases hN34 : gR z24 b33 46 with _ | b34
          · exact absurd (oc_n hN34 h) (by simp)
          replace h := oc_s hN34 h
          have kb34 := hT.f kb33 (k := 46) (t := 15) (n := 35) rfl hN34
          refine r_getN (T := TX12) (v := .ref (ad b34)) hx hb hts in12 hown hK hP kb33 (by decide) rfl 46 (by decide) (hG.2.2.1 ("StoneWalkModel", 167, "StoneWalkModel$Island", "nameSort", "[I", "StoneWalkModel") (List.mem_of_getElem? (i := 3) rfl)) rfl (t := 2) rfl (by show va_rf _ = _; rw [hN34]; rfl) dX13_known_33 ?_
          refine lv_iload_n hx hb dX13_known_36 rfl (lv_at hl 0 rfl) ?_
          obtain ⟨hn35, h⟩ := chk_some h
          refine r_iald hx hb hK hP kb34 hn35 dX13_known_37 ?_
          refine lv_iload_n hx hb dX13_known_38 rfl (lv_at hl 2 rfl) ?_
          refine lv_icmp_eq (tgt := 47) hx hb dX13_known_39 rfl (fun c36 => ?_) (fun c36 => ?_)
          · replace h := ite_t c36 h
            refine lv_aload_n hx hb dX13_known_47 rfl (lv_at hl 1 rfl) ?_
            refine r_get (T := TX13) (v := .int (gI z24 a0 9)) hx hb hts in13 hown hK hP k0 (by decide) rfl 9 (by decide) (hts (.fieldLink RX13 58 "StoneWalkModel" "sort" "I") (List.mem_of_getElem? (i := 3) (by decide +kernel))) rfl (t := 0) rfl rfl dX13_known_48 ?_
            refine lv_iconst (v := 5) hx hb dX13_known_51 rfl ?_
            refine lv_icmp_ne (tgt := 59) hx hb dX13_known_52 rfl (fun c37 => ?_) (fun c37 => ?_)
            · replace h := ite_f c37 h
              refine lv_aload_n hx hb dX13_known_59 rfl (lv_at hl 1 rfl) ?_
              rcases hN38 : gR z24 a0 4 with _ | b38
              · replace h := oc_n hN38 h
                refine r_get (T := TX13) (v := .null) hx hb hts in13 hown hK hP k0 (by decide) rfl 4 (by decide) (hts (.fieldLink RX13 150 "StoneWalkModel" "read" "LStoneWalkModel$Island;") (List.mem_of_getElem? (i := 1) (by decide +kernel))) rfl (t := 2) rfl (by show va_rf _ = _; rw [hN38]; rfl) dX13_known_60 ?_
                exact absurd h (by simp)
              · replace h := oc_s hN38 h
                have kb38 := hT.f k0 (k := 4) (t := 12) (n := 0) rfl hN38
                refine r_get (T := TX13) (v := .ref (ad b38)) hx hb hts in13 hown hK hP k0 (by decide) rfl 4 (by decide) (hts (.fieldLink RX13 150 "StoneWalkModel" "read" "LStoneWalkModel$Island;") (List.mem_of_getElem? (i := 1) (by decide +kernel))) rfl (t := 2) rfl (by show va_rf _ = _; rw [hN38]; rfl) dX13_known_60 ?_
                rcases hN39 : gR z24 b38 47 with _ | b39
                · exact absurd (oc_n hN39 h) (by simp)
                replace h := oc_s hN39 h
                have kb39 := hT.f kb38 (k := 47) (t := 15) (n := 35) rfl hN39
                refine r_getN (T := TX12) (v := .ref (ad b39)) hx hb hts in12 hown hK hP kb38 (by decide) rfl 47 (by decide) (hG.2.2.1 ("StoneWalkModel", 170, "StoneWalkModel$Island", "nameNumber", "[I", "StoneWalkModel") (List.mem_of_getElem? (i := 4) rfl)) rfl (t := 2) rfl (by show va_rf _ = _; rw [hN39]; rfl) dX13_known_63 ?_
                refine lv_iload_n hx hb dX13_known_66 rfl (lv_at hl 0 rfl) ?_
                obtain ⟨hn40, h⟩ := chk_some h
                refine r_iald hx hb hK hP kb39 hn40 dX13_known_67 ?_
                have hZ := Option.some.inj h
                have hZ1 := congrArg Prod.fst hZ
                have hZ2 := congrArg Prod.snd hZ
                exact r_iret hx hb hr hlocks hP hK hD hT hG hS hZ1 hZ2 dX13_known_68
            · replace h := ite_t c37 h
              refine lv_iconst (v := 0) hx hb dX13_known_55 rfl ?_
              refine lv_goto (tgt := 68) hx hb dX13_known_56 rfl ?_
              have hZ := Option.some.inj h
              have hZ1 := congrArg Prod.fst hZ
              have hZ2 := congrArg Prod.snd hZ
              exact r_iret hx hb hr hlocks hP hK hD hT hG hS hZ1 hZ2 dX13_known_68
          · replace h := ite_f c36 h
            refine lv_aload_n hx hb dX13_known_42 rfl (lv_at hl 1 rfl) ?_
            refine lv_iconst (v := 2) hx hb dX13_known_43 rfl ?_
            obtain ⟨z41, h41, h⟩ := ob_some h
            refine k_v (va_runV (As := [.int 2]) (rest := []) ⟨hx, hb, hml, hown, hts⟩ (c_X13_wrong (l := l) z24 a0 2 k0 h41) (cwV 1 hts gX13_known_X13_wrong rfl rfl rfl hdV_X13_wrong ⟨Nat.le_of_ble_eq_true rfl, Nat.le_of_ble_eq_true rfl⟩) (pV (T := TX13) hP hK hD hT hG hS k0 (by decide) rfl) rfl rfl hl.1 rfl (lv_room (Nat.le_of_ble_eq_true rfl)) dX13_known_44 ⟨Nat.zero_le _, Nat.zero_le _⟩) hS (fun H locs hP hD hT hS => ?_)
            refine lv_aload_n hx hb dX13_known_47 rfl (lv_at hl 1 rfl) ?_
            refine r_get (T := TX13) (v := .int (gI z41 a0 9)) hx hb hts in13 hown hK hP k0 (by decide) rfl 9 (by decide) (hts (.fieldLink RX13 58 "StoneWalkModel" "sort" "I") (List.mem_of_getElem? (i := 3) (by decide +kernel))) rfl (t := 0) rfl rfl dX13_known_48 ?_
            refine lv_iconst (v := 5) hx hb dX13_known_51 rfl ?_
            refine lv_icmp_ne (tgt := 59) hx hb dX13_known_52 rfl (fun c42 => ?_) (fun c42 => ?_)
            · replace h := ite_f c42 h
              refine lv_aload_n hx hb dX13_known_59 rfl (lv_at hl 1 rfl) ?_
              rcases hN43 : gR z41 a0 4 with _ | b43
              · replace h := oc_n hN43 h
                refine r_get (T := TX13) (v := .null) hx hb hts in13 hown hK hP k0 (by decide) rfl 4 (by decide) (hts (.fieldLink RX13 150 "StoneWalkModel" "read" "LStoneWalkModel$Island;") (List.mem_of_getElem? (i := 1) (by decide +kernel))) rfl (t := 2) rfl (by show va_rf _ = _; rw [hN43]; rfl) dX13_known_60 ?_
                exact absurd h (by simp)
              · replace h := oc_s hN43 h
                have kb43 := hT.f k0 (k := 4) (t := 12) (n := 0) rfl hN43
                refine r_get (T := TX13) (v := .ref (ad b43)) hx hb hts in13 hown hK hP k0 (by decide) rfl 4 (by decide) (hts (.fieldLink RX13 150 "StoneWalkModel" "read" "LStoneWalkModel$Island;") (List.mem_of_getElem? (i := 1) (by decide +kernel))) rfl (t := 2) rfl (by show va_rf _ = _; rw [hN43]; rfl) dX13_known_60 ?_
                rcases hN44 : gR z41 b43 47 with _ | b44
                · exact absurd (oc_n hN44 h) (by simp)
                replace h := oc_s hN44 h
                have kb44 := hT.f kb43 (k := 47) (t := 15) (n := 35) rfl hN44
                refine r_getN (T := TX12) (v := .ref (ad b44)) hx hb hts in12 hown hK hP kb43 (by decide) rfl 47 (by decide) (hG.2.2.1 ("StoneWalkModel", 170, "StoneWalkModel$Island", "nameNumber", "[I", "StoneWalkModel") (List.mem_of_getElem? (i := 4) rfl)) rfl (t := 2) rfl (by show va_rf _ = _; rw [hN44]; rfl) dX13_known_63 ?_
                refine lv_iload_n hx hb dX13_known_66 rfl (lv_at hl 0 rfl) ?_
                obtain ⟨hn45, h⟩ := chk_some h
                refine r_iald hx hb hK hP kb44 hn45 dX13_known_67 ?_
                have hZ := Option.some.inj h
                have hZ1 := congrArg Prod.fst hZ
                have hZ2 := congrArg Prod.snd hZ
                exact r_iret hx hb hr hlocks hP hK hD hT hG hS hZ1 hZ2 dX13_known_68
            · replace h := ite_t c42 h
              refine lv_iconst (v := 0) hx hb dX13_known_55 rfl ?_
              refine lv_goto (tgt := 68) hx hb dX13_known_56 rfl ?_
              have hZ := Option.some.inj h
              have hZ1 := congrArg Prod.fst hZ
              have hZ2 := congrArg Prod.snd hZ
              exact r_iret hx hb hr hlocks hP hK hD hT hG hS hZ1 hZ2 dX13_known_68
set_option maxHeartbeats 4000000 in
set_option maxRecDepth 100000 in
theorem c_X13_readKnown {l : Launch} {D : va_G} {ad : Nat → Nat} {cy : Nat → ClassId} {A : Nat → Prop} {g : CG} {q : SE} (M : MM) (a0 : Nat) (x1 : Int32) (k0 : ok g a0 13 0) {Z : (Int32 × MM)} (h : f_X13_readKnown M a0 x1 = some Z) : Met l yX13_readKnown wsX13_readKnown ({ frames := 8, cells := 0, slots := 0, locals := 171 }) (va_Pc [.ref (ad a0), .int x1] (Wd D ad cy A g q M)) (va_Qi (fun r u => r = Z.1 ∧ u = Z.2) (Wd D ad cy A g q) A) 0 0 A := by
  refine Met.ofW (cc := cX13_readKnown) (maxL := 3) (ret := (some .int)) (by decide) rfl ?_
  intro p e s m args below meth c s₁ B hml hv
  obtain ⟨rfl, hP, hK, hD, hT, hG⟩ := hv
  have hx := B.exec
  have hb := B.bytes
  have hr := B.returns
  have hts := atoms_spec (ws := wsX13_readKnown) B.pre
  have hown : s.vm.findClass RX13 = some m.cls := findClass_of_methodNamed B.named
  have hlocks := B.notSynchronized
  have hS : va_S A s.heap s.heap [] := va_S.rf
  have hl := lv_entry ([.ref (ad a0), .int x1]) (n := 3) (Nat.le_of_ble_eq_true rfl)
  rw [lg_entry_eq]
  generalize (lg_sl ([.ref (ad a0), .int x1]) ++ List.replicate (3 - (lg_sl ([.ref (ad a0), .int x1])).length) Slot.unset).toArray = ls at hl ⊢
  have hl : lv_has ls 3 [(0, .ref (ad a0)), (1, .int x1)] := hl
  unfold f_X13_readKnown at h
  refine lv_aload_n hx hb dX13_readKnown_0 rfl (lv_at hl 0 rfl) ?_
  refine lv_iload_n hx hb dX13_readKnown_1 rfl (lv_at hl 1 rfl) ?_
  obtain ⟨z1, h1, h⟩ := ob_some h
  refine k_i (va_runV (As := [.int x1]) (rest := []) ⟨hx, hb, hml, hown, hts⟩ (c_X13_known (l := l) M a0 x1 k0 h1) (cwV 1 hts gX13_readKnown_X13_known rfl rfl rfl hdV_X13_known ⟨Nat.le_of_ble_eq_true rfl, Nat.le_of_ble_eq_true rfl⟩) (pV (T := TX13) hP hK hD hT hG hS k0 (by decide) rfl) rfl rfl hl.1 rfl (lv_room (Nat.le_of_ble_eq_true rfl)) dX13_readKnown_2 ⟨Nat.zero_le _, Nat.zero_le _⟩) hS (fun H locs hP hD hT hS => ?_)
  refine lv_istore_n (lv' := [(2, .int z1.1), (0, .ref (ad a0)), (1, .int x1)]) hx hb dX13_readKnown_5 rfl hl (by decide) rfl (fun ls hl => ?_)
  refine lv_aload_n hx hb dX13_readKnown_6 rfl (lv_at hl 1 rfl) ?_
  obtain ⟨z2, h2, h⟩ := ob_some h
  refine k_v (va_runV (As := []) (rest := []) ⟨hx, hb, hml, hown, hts⟩ (c_X13_goesOn (l := l) z1.2 a0 k0 h2) (cwV 0 hts gX13_readKnown_X13_goesOn rfl rfl rfl hdV_X13_goesOn ⟨Nat.le_of_ble_eq_true rfl, Nat.le_of_ble_eq_true rfl⟩) (pV (T := TX13) hP hK hD hT hG hS k0 (by decide) rfl) rfl rfl hl.1 rfl (lv_room (Nat.le_of_ble_eq_true rfl)) dX13_readKnown_7 ⟨Nat.zero_le _, Nat.zero_le _⟩) hS (fun H locs hP hD hT hS => ?_)
  refine lv_iload_n hx hb dX13_readKnown_10 rfl (lv_at hl 0 rfl) ?_
  have hZ := Option.some.inj h
  have hZ1 := congrArg Prod.fst hZ
  have hZ2 := congrArg Prod.snd hZ
  exact r_iret hx hb hr hlocks hP hK hD hT hG hS hZ1 hZ2 dX13_readKnown_11
set_option maxHeartbeats 4000000 in
set_option maxRecDepth 100000 in
theorem c_X13_isSlope {l : Launch} {D : va_G} {ad : Nat → Nat} {cy : Nat → ClassId} {A : Nat → Prop} {g : CG} {q : SE} (M : MM) (a0 : Nat) (k0 : ok g a0 13 0) {Z : Int32} (h : f_X13_isSlope M a0 = some Z) : Met l yX13_isSlope wsX13_isSlope ({ frames := 6, cells := 0, slots := 0, locals := 129 }) (va_Pc [.ref (ad a0)] (Wd D ad cy A g q M)) (va_Qi (fun r u => r = Z ∧ u = M ∧ zb r) (Wd D ad cy A g q) A) 0 0 A := by
  refine Met.ofW (cc := cX13_isSlope) (maxL := 1) (ret := (some .boolean)) (by decide) rfl ?_
  intro p e s m args below meth c s₁ B hml hv
  obtain ⟨rfl, hP, hK, hD, hT, hG⟩ := hv
  have hx := B.exec
  have hb := B.bytes
  have hr := B.returns
  have hts := atoms_spec (ws := wsX13_isSlope) B.pre
  have hown : s.vm.findClass RX13 = some m.cls := findClass_of_methodNamed B.named
  have hlocks := B.notSynchronized
  have hS : va_S A s.heap s.heap [] := va_S.rf
  have hl := lv_entry ([.ref (ad a0)]) (n := 1) (Nat.le_of_ble_eq_true rfl)
  rw [lg_entry_eq]
  generalize (lg_sl ([.ref (ad a0)]) ++ List.replicate (1 - (lg_sl ([.ref (ad a0)])).length) Slot.unset).toArray = ls at hl ⊢
  have hl : lv_has ls 1 [(0, .ref (ad a0))] := hl
  unfold f_X13_isSlope at h
  refine lv_aload_n hx hb dX13_isSlope_0 rfl (lv_at hl 0 rfl) ?_
  refine r_ldcS (tx := "up") (i := 40) hx hb hG hown (by decide +kernel) dX13_isSlope_1 ?_
  obtain ⟨z1, h1, h⟩ := ob_some h
  refine k_z (va_runV (As := [.ref (q.2.1 40)]) (rest := []) ⟨hx, hb, hml, hown, hts⟩ (c_X13_isWord (l := l) M a0 40 k0 (by decide) h1) (cwV 1 hts gX13_isSlope_X13_isWord rfl rfl rfl hdV_X13_isWord ⟨Nat.le_of_ble_eq_true rfl, Nat.le_of_ble_eq_true rfl⟩) (pV (T := TX13) hP hK hD hT hG hS k0 (by decide) rfl) rfl rfl hl.1 rfl (lv_room (Nat.le_of_ble_eq_true rfl)) dX13_isSlope_3 ⟨Nat.zero_le _, Nat.zero_le _⟩) hS (fun H locs hz1 hP hD hT hS => ?_)
  refine lv_if_ne (tgt := 18) hx hb dX13_isSlope_6 rfl (fun c2 => ?_) (fun c2 => ?_)
  · replace h := ite_f c2 h
    refine lv_iconst (v := 1) hx hb dX13_isSlope_18 rfl ?_
    refine lv_goto (tgt := 23) hx hb dX13_isSlope_19 rfl ?_
    exact r_zret hx hb hr hlocks hP hK hD hT hG hS zb_1 (Option.some.inj h) rfl dX13_isSlope_23
  · replace h := ite_t c2 h
    refine lv_aload_n hx hb dX13_isSlope_9 rfl (lv_at hl 0 rfl) ?_
    refine r_ldcS (tx := "down") (i := 41) hx hb hG hown (by decide +kernel) dX13_isSlope_10 ?_
    obtain ⟨z3, h3, h⟩ := ob_some h
    refine k_z (va_runV (As := [.ref (q.2.1 41)]) (rest := []) ⟨hx, hb, hml, hown, hts⟩ (c_X13_isWord (l := l) M a0 41 k0 (by decide) h3) (cwV 1 hts gX13_isSlope_X13_isWord rfl rfl rfl hdV_X13_isWord ⟨Nat.le_of_ble_eq_true rfl, Nat.le_of_ble_eq_true rfl⟩) (pV (T := TX13) hP hK hD hT hG hS k0 (by decide) rfl) rfl rfl hl.1 rfl (lv_room (Nat.le_of_ble_eq_true rfl)) dX13_isSlope_12 ⟨Nat.zero_le _, Nat.zero_le _⟩) hS (fun H locs hz3 hP hD hT hS => ?_)
    refine lv_if_eq (tgt := 22) hx hb dX13_isSlope_15 rfl (fun c4 => ?_) (fun c4 => ?_)
    · replace h := ite_t c4 h
      refine lv_iconst (v := 0) hx hb dX13_isSlope_22 rfl ?_
      exact r_zret hx hb hr hlocks hP hK hD hT hG hS zb_0 (Option.some.inj h) rfl dX13_isSlope_23
    · replace h := ite_f c4 h
      refine lv_iconst (v := 1) hx hb dX13_isSlope_18 rfl ?_
      refine lv_goto (tgt := 23) hx hb dX13_isSlope_19 rfl ?_
      exact r_zret hx hb hr hlocks hP hK hD hT hG hS zb_1 (Option.some.inj h) rfl dX13_isSlope_23
set_option maxHeartbeats 4000000 in
set_option maxRecDepth 100000 in
theorem c_X13_readSlope {l : Launch} {D : va_G} {ad : Nat → Nat} {cy : Nat → ClassId} {A : Nat → Prop} {g : CG} {q : SE} (M : MM) (a0 : Nat) (k0 : ok g a0 13 0) {Z : (Int32 × MM)} (h : f_X13_readSlope M a0 = some Z) : Met l yX13_readSlope wsX13_readSlope ({ frames := 7, cells := 0, slots := 0, locals := 149 }) (va_Pc [.ref (ad a0)] (Wd D ad cy A g q M)) (va_Qi (fun r u => r = Z.1 ∧ u = Z.2) (Wd D ad cy A g q) A) 0 0 A := by
  refine Met.ofW (cc := cX13_readSlope) (maxL := 3) (ret := (some .int)) (by decide) rfl ?_
  intro p e s m args below meth c s₁ B hml hv
  obtain ⟨rfl, hP, hK, hD, hT, hG⟩ := hv
  have hx := B.exec
  have hb := B.bytes
  have hr := B.returns
  have hts := atoms_spec (ws := wsX13_readSlope) B.pre
  have hown : s.vm.findClass RX13 = some m.cls := findClass_of_methodNamed B.named
  have hlocks := B.notSynchronized
  have hS : va_S A s.heap s.heap [] := va_S.rf
  have hl := lv_entry ([.ref (ad a0)]) (n := 3) (Nat.le_of_ble_eq_true rfl)
  rw [lg_entry_eq]
  generalize (lg_sl ([.ref (ad a0)]) ++ List.replicate (3 - (lg_sl ([.ref (ad a0)])).length) Slot.unset).toArray = ls at hl ⊢
  have hl : lv_has ls 3 [(0, .ref (ad a0))] := hl
  unfold f_X13_readSlope at h
  refine lv_aload_n hx hb dX13_readSlope_0 rfl (lv_at hl 0 rfl) ?_
  refine r_ldcS (tx := "down") (i := 41) hx hb hG hown (by decide +kernel) dX13_readSlope_1 ?_
  obtain ⟨z1, h1, h⟩ := ob_some h
  refine k_z (va_runV (As := [.ref (q.2.1 41)]) (rest := []) ⟨hx, hb, hml, hown, hts⟩ (c_X13_isWord (l := l) M a0 41 k0 (by decide) h1) (cwV 1 hts gX13_readSlope_X13_isWord rfl rfl rfl hdV_X13_isWord ⟨Nat.le_of_ble_eq_true rfl, Nat.le_of_ble_eq_true rfl⟩) (pV (T := TX13) hP hK hD hT hG hS k0 (by decide) rfl) rfl rfl hl.1 rfl (lv_room (Nat.le_of_ble_eq_true rfl)) dX13_readSlope_3 ⟨Nat.zero_le _, Nat.zero_le _⟩) hS (fun H locs hz1 hP hD hT hS => ?_)
  refine lv_istore_n (lv' := [(1, .int z1), (0, .ref (ad a0))]) hx hb dX13_readSlope_6 rfl hl (by decide) rfl (fun ls hl => ?_)
  refine lv_aload_n hx hb dX13_readSlope_7 rfl (lv_at hl 1 rfl) ?_
  obtain ⟨z2, h2, h⟩ := ob_some h
  refine k_z (va_runV (As := []) (rest := []) ⟨hx, hb, hml, hown, hts⟩ (c_X13_isSlope (l := l) M a0 k0 h2) (cwV 0 hts gX13_readSlope_X13_isSlope rfl rfl rfl hdV_X13_isSlope ⟨Nat.le_of_ble_eq_true rfl, Nat.le_of_ble_eq_true rfl⟩) (pV (T := TX13) hP hK hD hT hG hS k0 (by decide) rfl) rfl rfl hl.1 rfl (lv_room (Nat.le_of_ble_eq_true rfl)) dX13_readSlope_8 ⟨Nat.zero_le _, Nat.zero_le _⟩) hS (fun H locs hz2 hP hD hT hS => ?_)
  refine lv_if_ne (tgt := 19) hx hb dX13_readSlope_11 rfl (fun c3 => ?_) (fun c3 => ?_)
  · replace h := ite_f c3 h
    refine lv_aload_n hx hb dX13_readSlope_19 rfl (lv_at hl 1 rfl) ?_
    obtain ⟨z4, h4, h⟩ := ob_some h
    refine k_v (va_runV (As := []) (rest := []) ⟨hx, hb, hml, hown, hts⟩ (c_X13_goesOn (l := l) M a0 k0 h4) (cwV 0 hts gX13_readSlope_X13_goesOn rfl rfl rfl hdV_X13_goesOn ⟨Nat.le_of_ble_eq_true rfl, Nat.le_of_ble_eq_true rfl⟩) (pV (T := TX13) hP hK hD hT hG hS k0 (by decide) rfl) rfl rfl hl.1 rfl (lv_room (Nat.le_of_ble_eq_true rfl)) dX13_readSlope_20 ⟨Nat.zero_le _, Nat.zero_le _⟩) hS (fun H locs hP hD hT hS => ?_)
    refine lv_aload_n hx hb dX13_readSlope_23 rfl (lv_at hl 1 rfl) ?_
    refine lv_iconst (v := 0) hx hb dX13_readSlope_24 rfl ?_
    refine lv_bipush (v := 20) hx hb dX13_readSlope_25 rfl ?_
    obtain ⟨z5, h5, h⟩ := ob_some h
    refine k_i (va_runV (As := [.int 0, .int 20]) (rest := []) ⟨hx, hb, hml, hown, hts⟩ (c_X13_readWhole (l := l) z4 a0 0 20 k0 h5) (cwV 2 hts gX13_readSlope_X13_readWhole rfl rfl rfl hdV_X13_readWhole ⟨Nat.le_of_ble_eq_true rfl, Nat.le_of_ble_eq_true rfl⟩) (pV (T := TX13) hP hK hD hT hG hS k0 (by decide) rfl) rfl rfl hl.1 rfl (lv_room (Nat.le_of_ble_eq_true rfl)) dX13_readSlope_27 ⟨Nat.zero_le _, Nat.zero_le _⟩) hS (fun H locs hP hD hT hS => ?_)
    refine lv_istore_n (lv' := [(2, .int z5.1), (1, .int z1), (0, .ref (ad a0))]) hx hb dX13_readSlope_30 rfl hl (by decide) rfl (fun ls hl => ?_)
    refine lv_iload_n hx hb dX13_readSlope_31 rfl (lv_at hl 1 rfl) ?_
    refine lv_if_eq (tgt := 40) hx hb dX13_readSlope_32 rfl (fun c6 => ?_) (fun c6 => ?_)
    · replace h := ite_t c6 h
      refine lv_iload_n hx hb dX13_readSlope_40 rfl (lv_at hl 0 rfl) ?_
      have hZ := Option.some.inj h
      have hZ1 := congrArg Prod.fst hZ
      have hZ2 := congrArg Prod.snd hZ
      exact r_iret hx hb hr hlocks hP hK hD hT hG hS hZ1 hZ2 dX13_readSlope_41
    · replace h := ite_f c6 h
      refine lv_iload_n hx hb dX13_readSlope_35 rfl (lv_at hl 0 rfl) ?_
      refine lv_ineg hx hb dX13_readSlope_36 ?_
      refine lv_goto (tgt := 41) hx hb dX13_readSlope_37 rfl ?_
      have hZ := Option.some.inj h
      have hZ1 := congrArg Prod.fst hZ
      have hZ2 := congrArg Prod.snd hZ
      exact r_iret hx hb hr hlocks hP hK hD hT hG hS hZ1 hZ2 dX13_readSlope_41
  · replace h := ite_t c3 h
    refine lv_aload_n hx hb dX13_readSlope_14 rfl (lv_at hl 1 rfl) ?_
    refine lv_iconst (v := 1) hx hb dX13_readSlope_15 rfl ?_
    obtain ⟨z7, h7, h⟩ := ob_some h
    refine k_v (va_runV (As := [.int 1]) (rest := []) ⟨hx, hb, hml, hown, hts⟩ (c_X13_wrong (l := l) M a0 1 k0 h7) (cwV 1 hts gX13_readSlope_X13_wrong rfl rfl rfl hdV_X13_wrong ⟨Nat.le_of_ble_eq_true rfl, Nat.le_of_ble_eq_true rfl⟩) (pV (T := TX13) hP hK hD hT hG hS k0 (by decide) rfl) rfl rfl hl.1 rfl (lv_room (Nat.le_of_ble_eq_true rfl)) dX13_readSlope_16 ⟨Nat.zero_le _, Nat.zero_le _⟩) hS (fun H locs hP hD hT hS => ?_)
    refine lv_aload_n hx hb dX13_readSlope_19 rfl (lv_at hl 1 rfl) ?_
    obtain ⟨z8, h8, h⟩ := ob_some h
    refine k_v (va_runV (As := []) (rest := []) ⟨hx, hb, hml, hown, hts⟩ (c_X13_goesOn (l := l) z7 a0 k0 h8) (cwV 0 hts gX13_readSlope_X13_goesOn rfl rfl rfl hdV_X13_goesOn ⟨Nat.le_of_ble_eq_true rfl, Nat.le_of_ble_eq_true rfl⟩) (pV (T := TX13) hP hK hD hT hG hS k0 (by decide) rfl) rfl rfl hl.1 rfl (lv_room (Nat.le_of_ble_eq_true rfl)) dX13_readSlope_20 ⟨Nat.zero_le _, Nat.zero_le _⟩) hS (fun H locs hP hD hT hS => ?_)
    refine lv_aload_n hx hb dX13_readSlope_23 rfl (lv_at hl 1 rfl) ?_
    refine lv_iconst (v := 0) hx hb dX13_readSlope_24 rfl ?_
    refine lv_bipush (v := 20) hx hb dX13_readSlope_25 rfl ?_
    obtain ⟨z9, h9, h⟩ := ob_some h
    refine k_i (va_runV (As := [.int 0, .int 20]) (rest := []) ⟨hx, hb, hml, hown, hts⟩ (c_X13_readWhole (l := l) z8 a0 0 20 k0 h9) (cwV 2 hts gX13_readSlope_X13_readWhole rfl rfl rfl hdV_X13_readWhole ⟨Nat.le_of_ble_eq_true rfl, Nat.le_of_ble_eq_true rfl⟩) (pV (T := TX13) hP hK hD hT hG hS k0 (by decide) rfl) rfl rfl hl.1 rfl (lv_room (Nat.le_of_ble_eq_true rfl)) dX13_readSlope_27 ⟨Nat.zero_le _, Nat.zero_le _⟩) hS (fun H locs hP hD hT hS => ?_)
    refine lv_istore_n (lv' := [(2, .int z9.1), (1, .int z1), (0, .ref (ad a0))]) hx hb dX13_readSlope_30 rfl hl (by decide) rfl (fun ls hl => ?_)
    refine lv_iload_n hx hb dX13_readSlope_31 rfl (lv_at hl 1 rfl) ?_
    refine lv_if_eq (tgt := 40) hx hb dX13_readSlope_32 rfl (fun c10 => ?_) (fun c10 => ?_)
    · replace h := ite_t c10 h
      refine lv_iload_n hx hb dX13_readSlope_40 rfl (lv_at hl 0 rfl) ?_
      have hZ := Option.some.inj h
      have hZ1 := congrArg Prod.fst hZ
      have hZ2 := congrArg Prod.snd hZ
      exact r_iret hx hb hr hlocks hP hK hD hT hG hS hZ1 hZ2 dX13_readSlope_41
    · replace h := ite_f c10 h
      refine lv_iload_n hx hb dX13_readSlope_35 rfl (lv_at hl 0 rfl) ?_
      refine lv_ineg hx hb dX13_readSlope_36 ?_
      refine lv_goto (tgt := 41) hx hb dX13_readSlope_37 rfl ?_
      have hZ := Option.some.inj h
      have hZ1 := congrArg Prod.fst hZ
      have hZ2 := congrArg Prod.snd hZ
      exact r_iret hx hb hr hlocks hP hK hD hT hG hS hZ1 hZ2 dX13_readSlope_41
set_option maxHeartbeats 4000000 in
set_option maxRecDepth 100000 in
theorem c_X13_readWay {l : Launch} {D : va_G} {ad : Nat → Nat} {cy : Nat → ClassId} {A : Nat → Prop} {g : CG} {q : SE} (M : MM) (a0 : Nat) (k0 : ok g a0 13 0) {Z : MM} (h : f_X13_readWay M a0 = some Z) : Met l yX13_readWay wsX13_readWay ({ frames := 8, cells := 0, slots := 0, locals := 173 }) (va_Pc [.ref (ad a0)] (Wd D ad cy A g q M)) (va_Qv (fun u => u = Z) (Wd D ad cy A g q) A) 0 0 A := by
  refine Met.ofW (cc := cX13_readWay) (maxL := 4) (ret := none) (by decide) rfl ?_
  intro p e s m args below meth c s₁ B hml hv
  obtain ⟨rfl, hP, hK, hD, hT, hG⟩ := hv
  have hx := B.exec
  have hb := B.bytes
  have hr := B.returns
  have hts := atoms_spec (ws := wsX13_readWay) B.pre
  have hown : s.vm.findClass RX13 = some m.cls := findClass_of_methodNamed B.named
  have hlocks := B.notSynchronized
  have in12 : ∀ w ∈ u_ws RX12 TX12 48, w ∈ wsX13_readWay := fun w h => List.mem_cons_of_mem _ (List.mem_append_right _ h)
  have in13 : ∀ w ∈ u_ws RX13 TX13 29, w ∈ wsX13_readWay := fun w h => List.mem_cons_of_mem _ (List.mem_append_left _ (List.mem_append_right _ h))
  have hS : va_S A s.heap s.heap [] := va_S.rf
  have hl := lv_entry ([.ref (ad a0)]) (n := 4) (Nat.le_of_ble_eq_true rfl)
  rw [lg_entry_eq]
  generalize (lg_sl ([.ref (ad a0)]) ++ List.replicate (4 - (lg_sl ([.ref (ad a0)])).length) Slot.unset).toArray = ls at hl ⊢
  have hl : lv_has ls 4 [(0, .ref (ad a0))] := hl
  unfold f_X13_readWay at h
  have J1 : ∀ (M1 : MM) (y1_0 : Nat) (w1_0 : Int32) (ky1_0 : ok g y1_0 13 0) (H : Heap) (locs : List Loc), f_X13_readWay_J77 M1 y1_0 w1_0 = some Z → va_P D vwCl (wd ad cy g M1) H → va_D A (wd ad cy g M1) → WT g M1 → va_S A s.heap H locs → ∀ (ls : Array Slot), lv_has ls 4 [(0, .ref (ad y1_0))] → W p l e ((headSpec wsX13_readWay ({ frames := 8, cells := 0, slots := 0, locals := 173 })).room) s m (([.ref (ad a0)] : List Value).toArray) below meth c H locs 0 0 (MQ below (va_Qv (fun u => u = Z) (Wd D ad cy A g q) A) ([.ref (ad a0)]).toArray s 0 0 A) (F0 m 77 ls [.int w1_0]) := by
    intro M1 y1_0 w1_0 ky1_0 H locs h hP hD hT hS ls hl
    unfold f_X13_readWay_J77 at h
    have J2 : ∀ (M2 : MM) (y2_0 : Nat) (y2_1 : Int32) (ky2_0 : ok g y2_0 13 0) (H : Heap) (locs : List Loc), f_X13_readWay_J88 M2 y2_0 y2_1 = some Z → va_P D vwCl (wd ad cy g M2) H → va_D A (wd ad cy g M2) → WT g M2 → va_S A s.heap H locs → ∀ (ls : Array Slot), lv_has ls 4 [(0, .ref (ad y2_0)), (1, .int y2_1)] → W p l e ((headSpec wsX13_readWay ({ frames := 8, cells := 0, slots := 0, locals := 173 })).room) s m (([.ref (ad a0)] : List Value).toArray) below meth c H locs 0 0 (MQ below (va_Qv (fun u => u = Z) (Wd D ad cy A g q) A) ([.ref (ad a0)]).toArray s 0 0 A) (F0 m 88 ls []) := by
      intro M2 y2_0 y2_1 ky2_0 H locs h hP hD hT hS ls hl
      unfold f_X13_readWay_J88 at h
      refine lv_aload_n hx hb dX13_readWay_88 rfl (lv_at hl 0 rfl) ?_
      obtain ⟨z3, h3, h⟩ := ob_some h
      refine k_v (va_runV (As := []) (rest := []) ⟨hx, hb, hml, hown, hts⟩ (c_X13_goesOn (l := l) M2 y2_0 ky2_0 h3) (cwV 0 hts gX13_readWay_X13_goesOn rfl rfl rfl hdV_X13_goesOn ⟨Nat.le_of_ble_eq_true rfl, Nat.le_of_ble_eq_true rfl⟩) (pV (T := TX13) hP hK hD hT hG hS ky2_0 (by decide) rfl) rfl rfl hl.1 rfl (lv_room (Nat.le_of_ble_eq_true rfl)) dX13_readWay_89 ⟨Nat.zero_le _, Nat.zero_le _⟩) hS (fun H locs hP hD hT hS => ?_)
      refine lv_aload_n hx hb dX13_readWay_92 rfl (lv_at hl 0 rfl) ?_
      refine r_ldcS (tx := "weighs") (i := 2) hx hb hG hown (by decide +kernel) dX13_readWay_93 ?_
      refine lv_iconst (v := 1) hx hb dX13_readWay_95 rfl ?_
      refine lv_bipush (v := 99) hx hb dX13_readWay_96 rfl ?_
      obtain ⟨z4, h4, h⟩ := ob_some h
      refine k_i (va_runV (As := [.ref (q.2.1 2), .int 1, .int 99]) (rest := []) ⟨hx, hb, hml, hown, hts⟩ (c_X13_readPart (l := l) z3 y2_0 2 1 99 ky2_0 (by decide) h4) (cwV 3 hts gX13_readWay_X13_readPart rfl rfl rfl hdV_X13_readPart ⟨Nat.le_of_ble_eq_true rfl, Nat.le_of_ble_eq_true rfl⟩) (pV (T := TX13) hP hK hD hT hG hS ky2_0 (by decide) rfl) rfl rfl hl.1 rfl (lv_room (Nat.le_of_ble_eq_true rfl)) dX13_readWay_98 ⟨Nat.zero_le _, Nat.zero_le _⟩) hS (fun H locs hP hD hT hS => ?_)
      refine lv_istore_n (lv' := [(2, .int z4.1), (0, .ref (ad y2_0)), (1, .int y2_1)]) hx hb dX13_readWay_101 rfl hl (by decide) rfl (fun ls hl => ?_)
      refine lv_aload_n hx hb dX13_readWay_102 rfl (lv_at hl 1 rfl) ?_
      refine r_ldcS (tx := "pull") (i := 3) hx hb hG hown (by decide +kernel) dX13_readWay_103 ?_
      refine lv_iconst (v := 1) hx hb dX13_readWay_105 rfl ?_
      refine lv_bipush (v := 20) hx hb dX13_readWay_106 rfl ?_
      obtain ⟨z5, h5, h⟩ := ob_some h
      refine k_i (va_runV (As := [.ref (q.2.1 3), .int 1, .int 20]) (rest := []) ⟨hx, hb, hml, hown, hts⟩ (c_X13_readPart (l := l) z4.2 y2_0 3 1 20 ky2_0 (by decide) h5) (cwV 3 hts gX13_readWay_X13_readPart rfl rfl rfl hdV_X13_readPart ⟨Nat.le_of_ble_eq_true rfl, Nat.le_of_ble_eq_true rfl⟩) (pV (T := TX13) hP hK hD hT hG hS ky2_0 (by decide) rfl) rfl rfl hl.1 rfl (lv_room (Nat.le_of_ble_eq_true rfl)) dX13_readWay_108 ⟨Nat.zero_le _, Nat.zero_le _⟩) hS (fun H locs hP hD hT hS => ?_)
      refine lv_istore_n (lv' := [(3, .int z5.1), (2, .int z4.1), (0, .ref (ad y2_0)), (1, .int y2_1)]) hx hb dX13_readWay_111 rfl hl (by decide) rfl (fun ls hl => ?_)
      refine lv_aload_n hx hb dX13_readWay_112 rfl (lv_at hl 2 rfl) ?_
      refine r_get (T := TX13) (v := .int (gI z5.2 y2_0 9)) hx hb hts in13 hown hK hP ky2_0 (by decide) rfl 9 (by decide) (hts (.fieldLink RX13 58 "StoneWalkModel" "sort" "I") (List.mem_of_getElem? (i := 2) (by decide +kernel))) rfl (t := 0) rfl rfl dX13_readWay_113 ?_
      refine lv_iconst (v := 5) hx hb dX13_readWay_116 rfl ?_
      refine lv_icmp_ne (tgt := 121) hx hb dX13_readWay_117 rfl (fun c6 => ?_) (fun c6 => ?_)
      · replace h := ite_f c6 h
        refine lv_aload_n hx hb dX13_readWay_121 rfl (lv_at hl 2 rfl) ?_
        rcases hN7 : gR z5.2 y2_0 4 with _ | b7
        · replace h := oc_n hN7 h
          refine r_get (T := TX13) (v := .null) hx hb hts in13 hown hK hP ky2_0 (by decide) rfl 4 (by decide) (hts (.fieldLink RX13 150 "StoneWalkModel" "read" "LStoneWalkModel$Island;") (List.mem_of_getElem? (i := 1) (by decide +kernel))) rfl (t := 2) rfl (by show va_rf _ = _; rw [hN7]; rfl) dX13_readWay_122 ?_
          exact absurd h (by simp)
        · replace h := oc_s hN7 h
          have kb7 := hT.f ky2_0 (k := 4) (t := 12) (n := 0) rfl hN7
          refine r_get (T := TX13) (v := .ref (ad b7)) hx hb hts in13 hown hK hP ky2_0 (by decide) rfl 4 (by decide) (hts (.fieldLink RX13 150 "StoneWalkModel" "read" "LStoneWalkModel$Island;") (List.mem_of_getElem? (i := 1) (by decide +kernel))) rfl (t := 2) rfl (by show va_rf _ = _; rw [hN7]; rfl) dX13_readWay_122 ?_
          rcases hN8 : gR z5.2 b7 9 with _ | b8
          · exact absurd (oc_n hN8 h) (by simp)
          replace h := oc_s hN8 h
          have kb8 := hT.f kb7 (k := 9) (t := 15) (n := 4) rfl hN8
          refine r_getN (T := TX12) (v := .ref (ad b8)) hx hb hts in12 hown hK hP kb7 (by decide) rfl 9 (by decide) (hG.2.2.1 ("StoneWalkModel", 247, "StoneWalkModel$Island", "kind", "[I", "StoneWalkModel") (List.mem_of_getElem? (i := 8) rfl)) rfl (t := 2) rfl (by show va_rf _ = _; rw [hN8]; rfl) dX13_readWay_125 ?_
          refine lv_aload_n hx hb dX13_readWay_128 rfl (lv_at hl 2 rfl) ?_
          rcases hN9 : gR z5.2 y2_0 4 with _ | b9
          · replace h := oc_n hN9 h
            refine r_get (T := TX13) (v := .null) hx hb hts in13 hown hK hP ky2_0 (by decide) rfl 4 (by decide) (hts (.fieldLink RX13 150 "StoneWalkModel" "read" "LStoneWalkModel$Island;") (List.mem_of_getElem? (i := 1) (by decide +kernel))) rfl (t := 2) rfl (by show va_rf _ = _; rw [hN9]; rfl) dX13_readWay_129 ?_
            exact absurd h (by simp)
          · replace h := oc_s hN9 h
            have kb9 := hT.f ky2_0 (k := 4) (t := 12) (n := 0) rfl hN9
            refine r_get (T := TX13) (v := .ref (ad b9)) hx hb hts in13 hown hK hP ky2_0 (by decide) rfl 4 (by decide) (hts (.fieldLink RX13 150 "StoneWalkModel" "read" "LStoneWalkModel$Island;") (List.mem_of_getElem? (i := 1) (by decide +kernel))) rfl (t := 2) rfl (by show va_rf _ = _; rw [hN9]; rfl) dX13_readWay_129 ?_
            refine r_getN (T := TX12) (v := .int (gI z5.2 b9 0)) hx hb hts in12 hown hK hP kb9 (by decide) rfl 0 (by decide) (hG.2.2.1 ("StoneWalkModel", 185, "StoneWalkModel$Island", "ways", "I", "StoneWalkModel") (List.mem_of_getElem? (i := 5) rfl)) rfl (t := 0) rfl rfl dX13_readWay_132 ?_
            refine lv_iload_n hx hb dX13_readWay_135 rfl (lv_at hl 3 rfl) ?_
            obtain ⟨hn10, h⟩ := chk_some h
            refine r_iast hx hb hK hP hD hT hS kb8 hn10 dX13_readWay_136 (fun H locs hP hD hT hS => ?_)
            generalize pI z5.2 b8 (ix (gI z5.2 b9 0)) y2_1 = Mg1 at h hP hD hT ⊢
            refine lv_aload_n hx hb dX13_readWay_137 rfl (lv_at hl 2 rfl) ?_
            rcases hN11 : gR Mg1 y2_0 4 with _ | b11
            · replace h := oc_n hN11 h
              refine r_get (T := TX13) (v := .null) hx hb hts in13 hown hK hP ky2_0 (by decide) rfl 4 (by decide) (hts (.fieldLink RX13 150 "StoneWalkModel" "read" "LStoneWalkModel$Island;") (List.mem_of_getElem? (i := 1) (by decide +kernel))) rfl (t := 2) rfl (by show va_rf _ = _; rw [hN11]; rfl) dX13_readWay_138 ?_
              exact absurd h (by simp)
            · replace h := oc_s hN11 h
              have kb11 := hT.f ky2_0 (k := 4) (t := 12) (n := 0) rfl hN11
              refine r_get (T := TX13) (v := .ref (ad b11)) hx hb hts in13 hown hK hP ky2_0 (by decide) rfl 4 (by decide) (hts (.fieldLink RX13 150 "StoneWalkModel" "read" "LStoneWalkModel$Island;") (List.mem_of_getElem? (i := 1) (by decide +kernel))) rfl (t := 2) rfl (by show va_rf _ = _; rw [hN11]; rfl) dX13_readWay_138 ?_
              rcases hN12 : gR Mg1 b11 10 with _ | b12
              · exact absurd (oc_n hN12 h) (by simp)
              replace h := oc_s hN12 h
              have kb12 := hT.f kb11 (k := 10) (t := 15) (n := 4) rfl hN12
              refine r_getN (T := TX12) (v := .ref (ad b12)) hx hb hts in12 hown hK hP kb11 (by decide) rfl 10 (by decide) (hG.2.2.1 ("StoneWalkModel", 250, "StoneWalkModel$Island", "weighs", "[I", "StoneWalkModel") (List.mem_of_getElem? (i := 9) rfl)) rfl (t := 2) rfl (by show va_rf _ = _; rw [hN12]; rfl) dX13_readWay_141 ?_
              refine lv_aload_n hx hb dX13_readWay_144 rfl (lv_at hl 2 rfl) ?_
              rcases hN13 : gR Mg1 y2_0 4 with _ | b13
              · replace h := oc_n hN13 h
                refine r_get (T := TX13) (v := .null) hx hb hts in13 hown hK hP ky2_0 (by decide) rfl 4 (by decide) (hts (.fieldLink RX13 150 "StoneWalkModel" "read" "LStoneWalkModel$Island;") (List.mem_of_getElem? (i := 1) (by decide +kernel))) rfl (t := 2) rfl (by show va_rf _ = _; rw [hN13]; rfl) dX13_readWay_145 ?_
                exact absurd h (by simp)
              · replace h := oc_s hN13 h
                have kb13 := hT.f ky2_0 (k := 4) (t := 12) (n := 0) rfl hN13
                refine r_get (T := TX13) (v := .ref (ad b13)) hx hb hts in13 hown hK hP ky2_0 (by decide) rfl 4 (by decide) (hts (.fieldLink RX13 150 "StoneWalkModel" "read" "LStoneWalkModel$Island;") (List.mem_of_getElem? (i := 1) (by decide +kernel))) rfl (t := 2) rfl (by show va_rf _ = _; rw [hN13]; rfl) dX13_readWay_145 ?_
                refine r_getN (T := TX12) (v := .int (gI Mg1 b13 0)) hx hb hts in12 hown hK hP kb13 (by decide) rfl 0 (by decide) (hG.2.2.1 ("StoneWalkModel", 185, "StoneWalkModel$Island", "ways", "I", "StoneWalkModel") (List.mem_of_getElem? (i := 5) rfl)) rfl (t := 0) rfl rfl dX13_readWay_148 ?_
                refine lv_iload_n hx hb dX13_readWay_151 rfl (lv_at hl 1 rfl) ?_
                obtain ⟨hn14, h⟩ := chk_some h
                refine r_iast hx hb hK hP hD hT hS kb12 hn14 dX13_readWay_152 (fun H locs hP hD hT hS => ?_)
                generalize pI Mg1 b12 (ix (gI Mg1 b13 0)) z4.1 = Mg2 at h hP hD hT ⊢
                refine lv_aload_n hx hb dX13_readWay_153 rfl (lv_at hl 2 rfl) ?_
                rcases hN15 : gR Mg2 y2_0 4 with _ | b15
                · replace h := oc_n hN15 h
                  refine r_get (T := TX13) (v := .null) hx hb hts in13 hown hK hP ky2_0 (by decide) rfl 4 (by decide) (hts (.fieldLink RX13 150 "StoneWalkModel" "read" "LStoneWalkModel$Island;") (List.mem_of_getElem? (i := 1) (by decide +kernel))) rfl (t := 2) rfl (by show va_rf _ = _; rw [hN15]; rfl) dX13_readWay_154 ?_
                  exact absurd h (by simp)
                · replace h := oc_s hN15 h
                  have kb15 := hT.f ky2_0 (k := 4) (t := 12) (n := 0) rfl hN15
                  refine r_get (T := TX13) (v := .ref (ad b15)) hx hb hts in13 hown hK hP ky2_0 (by decide) rfl 4 (by decide) (hts (.fieldLink RX13 150 "StoneWalkModel" "read" "LStoneWalkModel$Island;") (List.mem_of_getElem? (i := 1) (by decide +kernel))) rfl (t := 2) rfl (by show va_rf _ = _; rw [hN15]; rfl) dX13_readWay_154 ?_
                  rcases hN16 : gR Mg2 b15 11 with _ | b16
                  · exact absurd (oc_n hN16 h) (by simp)
                  replace h := oc_s hN16 h
                  have kb16 := hT.f kb15 (k := 11) (t := 15) (n := 4) rfl hN16
                  refine r_getN (T := TX12) (v := .ref (ad b16)) hx hb hts in12 hown hK hP kb15 (by decide) rfl 11 (by decide) (hG.2.2.1 ("StoneWalkModel", 252, "StoneWalkModel$Island", "pull", "[I", "StoneWalkModel") (List.mem_of_getElem? (i := 10) rfl)) rfl (t := 2) rfl (by show va_rf _ = _; rw [hN16]; rfl) dX13_readWay_157 ?_
                  refine lv_aload_n hx hb dX13_readWay_160 rfl (lv_at hl 2 rfl) ?_
                  rcases hN17 : gR Mg2 y2_0 4 with _ | b17
                  · replace h := oc_n hN17 h
                    refine r_get (T := TX13) (v := .null) hx hb hts in13 hown hK hP ky2_0 (by decide) rfl 4 (by decide) (hts (.fieldLink RX13 150 "StoneWalkModel" "read" "LStoneWalkModel$Island;") (List.mem_of_getElem? (i := 1) (by decide +kernel))) rfl (t := 2) rfl (by show va_rf _ = _; rw [hN17]; rfl) dX13_readWay_161 ?_
                    exact absurd h (by simp)
                  · replace h := oc_s hN17 h
                    have kb17 := hT.f ky2_0 (k := 4) (t := 12) (n := 0) rfl hN17
                    refine r_get (T := TX13) (v := .ref (ad b17)) hx hb hts in13 hown hK hP ky2_0 (by decide) rfl 4 (by decide) (hts (.fieldLink RX13 150 "StoneWalkModel" "read" "LStoneWalkModel$Island;") (List.mem_of_getElem? (i := 1) (by decide +kernel))) rfl (t := 2) rfl (by show va_rf _ = _; rw [hN17]; rfl) dX13_readWay_161 ?_
                    refine r_getN (T := TX12) (v := .int (gI Mg2 b17 0)) hx hb hts in12 hown hK hP kb17 (by decide) rfl 0 (by decide) (hG.2.2.1 ("StoneWalkModel", 185, "StoneWalkModel$Island", "ways", "I", "StoneWalkModel") (List.mem_of_getElem? (i := 5) rfl)) rfl (t := 0) rfl rfl dX13_readWay_164 ?_
                    refine lv_iload_n hx hb dX13_readWay_167 rfl (lv_at hl 0 rfl) ?_
                    obtain ⟨hn18, h⟩ := chk_some h
                    refine r_iast hx hb hK hP hD hT hS kb16 hn18 dX13_readWay_168 (fun H locs hP hD hT hS => ?_)
                    generalize pI Mg2 b16 (ix (gI Mg2 b17 0)) z5.1 = Mg3 at h hP hD hT ⊢
                    refine lv_aload_n hx hb dX13_readWay_169 rfl (lv_at hl 2 rfl) ?_
                    rcases hN19 : gR Mg3 y2_0 4 with _ | b19
                    · replace h := oc_n hN19 h
                      refine r_get (T := TX13) (v := .null) hx hb hts in13 hown hK hP ky2_0 (by decide) rfl 4 (by decide) (hts (.fieldLink RX13 150 "StoneWalkModel" "read" "LStoneWalkModel$Island;") (List.mem_of_getElem? (i := 1) (by decide +kernel))) rfl (t := 2) rfl (by show va_rf _ = _; rw [hN19]; rfl) dX13_readWay_170 ?_
                      refine lv_dup hx hb dX13_readWay_173 rfl ?_
                      exact absurd h (by simp)
                    · replace h := oc_s hN19 h
                      have kb19 := hT.f ky2_0 (k := 4) (t := 12) (n := 0) rfl hN19
                      refine r_get (T := TX13) (v := .ref (ad b19)) hx hb hts in13 hown hK hP ky2_0 (by decide) rfl 4 (by decide) (hts (.fieldLink RX13 150 "StoneWalkModel" "read" "LStoneWalkModel$Island;") (List.mem_of_getElem? (i := 1) (by decide +kernel))) rfl (t := 2) rfl (by show va_rf _ = _; rw [hN19]; rfl) dX13_readWay_170 ?_
                      refine lv_dup hx hb dX13_readWay_173 rfl ?_
                      refine r_getN (T := TX12) (v := .int (gI Mg3 b19 0)) hx hb hts in12 hown hK hP kb19 (by decide) rfl 0 (by decide) (hG.2.2.1 ("StoneWalkModel", 185, "StoneWalkModel$Island", "ways", "I", "StoneWalkModel") (List.mem_of_getElem? (i := 5) rfl)) rfl (t := 0) rfl rfl dX13_readWay_174 ?_
                      refine lv_iconst (v := 1) hx hb dX13_readWay_177 rfl ?_
                      refine lv_iadd hx hb dX13_readWay_178 ?_
                      refine r_putIN (T := TX12) (ty := .int) (v := (gI Mg3 b19 0) + 1) hx hb hts in12 tyX12 tyX12_ok nmX12 hown hK hP hD hT hS kb19 (by decide) rfl 0 (by decide) (hG.2.2.1 ("StoneWalkModel", 185, "StoneWalkModel$Island", "ways", "I", "StoneWalkModel") (List.mem_of_getElem? (i := 5) rfl)) rfl rfl (tyX12_ok 0 (by decide)) rfl rfl rfl dX13_readWay_179 (fun H locs hP hD hT hS => ?_)
                      generalize pI Mg3 b19 0 ((gI Mg3 b19 0) + 1) = Mg4 at h hP hD hT ⊢
                      exact r_vret hx hb hr hlocks hP hK hD hT hG hS (Option.some.inj h) dX13_readWay_182
      · replace h := ite_t c6 h
        exact r_vret hx hb hr hlocks hP hK hD hT hG hS (Option.some.inj h) dX13_readWay_120
    refine lv_istore_n (lv' := [(1, .int w1_0), (0, .ref (ad y1_0))]) hx hb dX13_readWay_77 rfl hl (by decide) rfl (fun ls hl => ?_)
    refine lv_iload_n hx hb dX13_readWay_78 rfl (lv_at hl 0 rfl) ?_
    refine lv_iconst (v := (-1)) hx hb dX13_readWay_79 rfl ?_
    refine lv_icmp_ne (tgt := 88) hx hb dX13_readWay_80 rfl (fun c20 => ?_) (fun c20 => ?_)
    · replace h := ite_f c20 h
      exact J2 M1 y1_0 w1_0 ky1_0 _ _ h hP hD hT hS ls (lv_sub hl [1, 0] rfl)
    · replace h := ite_t c20 h
      refine lv_aload_n hx hb dX13_readWay_83 rfl (lv_at hl 1 rfl) ?_
      refine lv_iconst (v := 1) hx hb dX13_readWay_84 rfl ?_
      obtain ⟨z21, h21, h⟩ := ob_some h
      refine k_v (va_runV (As := [.int 1]) (rest := []) ⟨hx, hb, hml, hown, hts⟩ (c_X13_wrong (l := l) M1 y1_0 1 ky1_0 h21) (cwV 1 hts gX13_readWay_X13_wrong rfl rfl rfl hdV_X13_wrong ⟨Nat.le_of_ble_eq_true rfl, Nat.le_of_ble_eq_true rfl⟩) (pV (T := TX13) hP hK hD hT hG hS ky1_0 (by decide) rfl) rfl rfl hl.1 rfl (lv_room (Nat.le_of_ble_eq_true rfl)) dX13_readWay_85 ⟨Nat.zero_le _, Nat.zero_le _⟩) hS (fun H locs hP hD hT hS => ?_)
      exact J2 z21 y1_0 w1_0 ky1_0 _ _ h hP hD hT hS ls (lv_sub hl [1, 0] rfl)
  refine lv_aload_n hx hb dX13_readWay_0 rfl (lv_at hl 0 rfl) ?_
  refine lv_aload_n hx hb dX13_readWay_1 rfl (lv_at hl 0 rfl) ?_
  rcases hN22 : gR M a0 4 with _ | b22
  · replace h := oc_n hN22 h
    refine r_get (T := TX13) (v := .null) hx hb hts in13 hown hK hP k0 (by decide) rfl 4 (by decide) (hts (.fieldLink RX13 150 "StoneWalkModel" "read" "LStoneWalkModel$Island;") (List.mem_of_getElem? (i := 1) (by decide +kernel))) rfl (t := 2) rfl (by show va_rf _ = _; rw [hN22]; rfl) dX13_readWay_2 ?_
    exact absurd h (by simp)
  · replace h := oc_s hN22 h
    have kb22 := hT.f k0 (k := 4) (t := 12) (n := 0) rfl hN22
    refine r_get (T := TX13) (v := .ref (ad b22)) hx hb hts in13 hown hK hP k0 (by decide) rfl 4 (by decide) (hts (.fieldLink RX13 150 "StoneWalkModel" "read" "LStoneWalkModel$Island;") (List.mem_of_getElem? (i := 1) (by decide +kernel))) rfl (t := 2) rfl (by show va_rf _ = _; rw [hN22]; rfl) dX13_readWay_2 ?_
    refine r_getN (T := TX12) (v := .int (gI M b22 0)) hx hb hts in12 hown hK hP kb22 (by decide) rfl 0 (by decide) (hG.2.2.1 ("StoneWalkModel", 185, "StoneWalkModel$Island", "ways", "I", "StoneWalkModel") (List.mem_of_getElem? (i := 5) rfl)) rfl (t := 0) rfl rfl dX13_readWay_5 ?_
    refine lv_iconst (v := 4) hx hb dX13_readWay_8 rfl ?_
    obtain ⟨z23, h23, h⟩ := ob_some h
    refine k_v (va_runV (As := [.int (gI M b22 0), .int 4]) (rest := []) ⟨hx, hb, hml, hown, hts⟩ (c_X13_begins (l := l) M a0 (gI M b22 0) 4 k0 h23) (cwV 2 hts gX13_readWay_X13_begins rfl rfl rfl hdV_X13_begins ⟨Nat.le_of_ble_eq_true rfl, Nat.le_of_ble_eq_true rfl⟩) (pV (T := TX13) hP hK hD hT hG hS k0 (by decide) rfl) rfl rfl hl.1 rfl (lv_room (Nat.le_of_ble_eq_true rfl)) dX13_readWay_9 ⟨Nat.zero_le _, Nat.zero_le _⟩) hS (fun H locs hP hD hT hS => ?_)
    refine lv_aload_n hx hb dX13_readWay_12 rfl (lv_at hl 0 rfl) ?_
    refine lv_iconst (v := 0) hx hb dX13_readWay_13 rfl ?_
    refine lv_aload_n hx hb dX13_readWay_14 rfl (lv_at hl 0 rfl) ?_
    rcases hN24 : gR z23 a0 4 with _ | b24
    · replace h := oc_n hN24 h
      refine r_get (T := TX13) (v := .null) hx hb hts in13 hown hK hP k0 (by decide) rfl 4 (by decide) (hts (.fieldLink RX13 150 "StoneWalkModel" "read" "LStoneWalkModel$Island;") (List.mem_of_getElem? (i := 1) (by decide +kernel))) rfl (t := 2) rfl (by show va_rf _ = _; rw [hN24]; rfl) dX13_readWay_15 ?_
      exact absurd h (by simp)
    · replace h := oc_s hN24 h
      have kb24 := hT.f k0 (k := 4) (t := 12) (n := 0) rfl hN24
      refine r_get (T := TX13) (v := .ref (ad b24)) hx hb hts in13 hown hK hP k0 (by decide) rfl 4 (by decide) (hts (.fieldLink RX13 150 "StoneWalkModel" "read" "LStoneWalkModel$Island;") (List.mem_of_getElem? (i := 1) (by decide +kernel))) rfl (t := 2) rfl (by show va_rf _ = _; rw [hN24]; rfl) dX13_readWay_15 ?_
      refine r_getN (T := TX12) (v := .int (gI z23 b24 0)) hx hb hts in12 hown hK hP kb24 (by decide) rfl 0 (by decide) (hG.2.2.1 ("StoneWalkModel", 185, "StoneWalkModel$Island", "ways", "I", "StoneWalkModel") (List.mem_of_getElem? (i := 5) rfl)) rfl (t := 0) rfl rfl dX13_readWay_18 ?_
      obtain ⟨z25, h25, h⟩ := ob_some h
      refine k_v (va_runV (As := [.int 0, .int (gI z23 b24 0)]) (rest := []) ⟨hx, hb, hml, hown, hts⟩ (c_X13_readFresh (l := l) z23 a0 0 (gI z23 b24 0) k0 h25) (cwV 2 hts gX13_readWay_X13_readFresh rfl rfl rfl hdV_X13_readFresh ⟨Nat.le_of_ble_eq_true rfl, Nat.le_of_ble_eq_true rfl⟩) (pV (T := TX13) hP hK hD hT hG hS k0 (by decide) rfl) rfl rfl hl.1 rfl (lv_room (Nat.le_of_ble_eq_true rfl)) dX13_readWay_21 ⟨Nat.zero_le _, Nat.zero_le _⟩) hS (fun H locs hP hD hT hS => ?_)
      refine lv_aload_n hx hb dX13_readWay_24 rfl (lv_at hl 0 rfl) ?_
      refine r_ldcS (tx := "walked") (i := 42) hx hb hG hown (by decide +kernel) dX13_readWay_25 ?_
      obtain ⟨z26, h26, h⟩ := ob_some h
      refine k_z (va_runV (As := [.ref (q.2.1 42)]) (rest := []) ⟨hx, hb, hml, hown, hts⟩ (c_X13_isWord (l := l) z25 a0 42 k0 (by decide) h26) (cwV 1 hts gX13_readWay_X13_isWord rfl rfl rfl hdV_X13_isWord ⟨Nat.le_of_ble_eq_true rfl, Nat.le_of_ble_eq_true rfl⟩) (pV (T := TX13) hP hK hD hT hG hS k0 (by decide) rfl) rfl rfl hl.1 rfl (lv_room (Nat.le_of_ble_eq_true rfl)) dX13_readWay_27 ⟨Nat.zero_le _, Nat.zero_le _⟩) hS (fun H locs hz26 hP hD hT hS => ?_)
      refine lv_if_eq (tgt := 37) hx hb dX13_readWay_30 rfl (fun c27 => ?_) (fun c27 => ?_)
      · replace h := ite_t c27 h
        refine lv_aload_n hx hb dX13_readWay_37 rfl (lv_at hl 0 rfl) ?_
        refine r_ldcS (tx := "sled") (i := 43) hx hb hG hown (by decide +kernel) dX13_readWay_38 ?_
        obtain ⟨z28, h28, h⟩ := ob_some h
        refine k_z (va_runV (As := [.ref (q.2.1 43)]) (rest := []) ⟨hx, hb, hml, hown, hts⟩ (c_X13_isWord (l := l) z25 a0 43 k0 (by decide) h28) (cwV 1 hts gX13_readWay_X13_isWord rfl rfl rfl hdV_X13_isWord ⟨Nat.le_of_ble_eq_true rfl, Nat.le_of_ble_eq_true rfl⟩) (pV (T := TX13) hP hK hD hT hG hS k0 (by decide) rfl) rfl rfl hl.1 rfl (lv_room (Nat.le_of_ble_eq_true rfl)) dX13_readWay_40 ⟨Nat.zero_le _, Nat.zero_le _⟩) hS (fun H locs hz28 hP hD hT hS => ?_)
        refine lv_if_eq (tgt := 50) hx hb dX13_readWay_43 rfl (fun c29 => ?_) (fun c29 => ?_)
        · replace h := ite_t c29 h
          refine lv_aload_n hx hb dX13_readWay_50 rfl (lv_at hl 0 rfl) ?_
          refine r_ldcS (tx := "rolled") (i := 44) hx hb hG hown (by decide +kernel) dX13_readWay_51 ?_
          obtain ⟨z30, h30, h⟩ := ob_some h
          refine k_z (va_runV (As := [.ref (q.2.1 44)]) (rest := []) ⟨hx, hb, hml, hown, hts⟩ (c_X13_isWord (l := l) z25 a0 44 k0 (by decide) h30) (cwV 1 hts gX13_readWay_X13_isWord rfl rfl rfl hdV_X13_isWord ⟨Nat.le_of_ble_eq_true rfl, Nat.le_of_ble_eq_true rfl⟩) (pV (T := TX13) hP hK hD hT hG hS k0 (by decide) rfl) rfl rfl hl.1 rfl (lv_room (Nat.le_of_ble_eq_true rfl)) dX13_readWay_53 ⟨Nat.zero_le _, Nat.zero_le _⟩) hS (fun H locs hz30 hP hD hT hS => ?_)
          refine lv_if_eq (tgt := 63) hx hb dX13_readWay_56 rfl (fun c31 => ?_) (fun c31 => ?_)
          · replace h := ite_t c31 h
            refine lv_aload_n hx hb dX13_readWay_63 rfl (lv_at hl 0 rfl) ?_
            refine r_ldcS (tx := "dragged") (i := 45) hx hb hG hown (by decide +kernel) dX13_readWay_64 ?_
            obtain ⟨z32, h32, h⟩ := ob_some h
            refine k_z (va_runV (As := [.ref (q.2.1 45)]) (rest := []) ⟨hx, hb, hml, hown, hts⟩ (c_X13_isWord (l := l) z25 a0 45 k0 (by decide) h32) (cwV 1 hts gX13_readWay_X13_isWord rfl rfl rfl hdV_X13_isWord ⟨Nat.le_of_ble_eq_true rfl, Nat.le_of_ble_eq_true rfl⟩) (pV (T := TX13) hP hK hD hT hG hS k0 (by decide) rfl) rfl rfl hl.1 rfl (lv_room (Nat.le_of_ble_eq_true rfl)) dX13_readWay_66 ⟨Nat.zero_le _, Nat.zero_le _⟩) hS (fun H locs hz32 hP hD hT hS => ?_)
            refine lv_if_eq (tgt := 76) hx hb dX13_readWay_69 rfl (fun c33 => ?_) (fun c33 => ?_)
            · replace h := ite_t c33 h
              refine lv_iconst (v := (-1)) hx hb dX13_readWay_76 rfl ?_
              exact J1 z25 a0 (-1) k0 _ _ h hP hD hT hS ls (lv_sub hl [0] rfl)
            · replace h := ite_f c33 h
              refine lv_iconst (v := 3) hx hb dX13_readWay_72 rfl ?_
              refine lv_goto (tgt := 77) hx hb dX13_readWay_73 rfl ?_
              exact J1 z25 a0 3 k0 _ _ h hP hD hT hS ls (lv_sub hl [0] rfl)
          · replace h := ite_f c31 h
            refine lv_iconst (v := 2) hx hb dX13_readWay_59 rfl ?_
            refine lv_goto (tgt := 77) hx hb dX13_readWay_60 rfl ?_
            exact J1 z25 a0 2 k0 _ _ h hP hD hT hS ls (lv_sub hl [0] rfl)
        · replace h := ite_f c29 h
          refine lv_iconst (v := 1) hx hb dX13_readWay_46 rfl ?_
          refine lv_goto (tgt := 77) hx hb dX13_readWay_47 rfl ?_
          exact J1 z25 a0 1 k0 _ _ h hP hD hT hS ls (lv_sub hl [0] rfl)
      · replace h := ite_f c27 h
        refine lv_iconst (v := 0) hx hb dX13_readWay_33 rfl ?_
        refine lv_goto (tgt := 77) hx hb dX13_readWay_34 rfl ?_
        exact J1 z25 a0 0 k0 _ _ h hP hD hT hS ls (lv_sub hl [0] rfl)
