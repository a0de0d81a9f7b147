set_option maxHeartbeats 4000000 in
set_option maxRecDepth 100000 in
theorem c_X13_known {l : Launch} {D : va_G} {ad : Nat → Nat} {cy : Nat → ClassId} {A : Nat → Prop} {g : CG} {q : SE} (M : MM) (a0 : Nat) (x1 : Int32) (k0 : ok g a0 13 0) {Z : (Int32 × MM)} (h : f_X13_known M a0 x1 = some Z) : Met l yX13_known wsX13_known ({ frames := 7, cells := 0, slots := 0, locals := 149 }) (va_Pc [.ref (ad a0), .int x1] (Wd D ad cy A g q M)) (va_Qi (fun r u => r = Z.1 ∧ u = Z.2) (Wd D ad cy A g q) A) 0 0 A := by
  refine Met.ofW (cc := cX13_known) (maxL := 3) (ret := (some .int)) (by decide) rfl ?_
  intro p e s m args below meth c s₁ B hml hv
  obtain ⟨rfl, hP, hK, hD, hT, hG⟩ := hv
  have hx := B.exec
  have hb := B.bytes
  have hr := B.returns
  have hts := atoms_spec (ws := wsX13_known) B.pre
  have hown : s.vm.findClass RX13 = some m.cls := findClass_of_methodNamed B.named
  have hlocks := B.notSynchronized
  have in12 : ∀ w ∈ u_ws RX12 TX12 48, w ∈ wsX13_known := fun w h => List.mem_cons_of_mem _ (List.mem_append_right _ h)
  have in13 : ∀ w ∈ u_ws RX13 TX13 29, w ∈ wsX13_known := fun w h => List.mem_cons_of_mem _ (List.mem_append_left _ (List.mem_append_right _ h))
  have hS : va_S A s.heap s.heap [] := va_S.rf
  have hl := lv_entry ([.ref (ad a0), .int x1]) (n := 3) (Nat.le_of_ble_eq_true rfl)
  rw [lg_entry_eq]
  generalize (lg_sl ([.ref (ad a0), .int x1]) ++ List.replicate (3 - (lg_sl ([.ref (ad a0), .int x1])).length) Slot.unset).toArray = ls at hl ⊢
  have hl : lv_has ls 3 [(0, .ref (ad a0)), (1, .int x1)] := hl
  unfold f_X13_known at h
  refine lv_aload_n hx hb dX13_known_0 rfl (lv_at hl 0 rfl) ?_
  obtain ⟨z1, h1, h⟩ := ob_some h
  refine k_z (va_runV (As := []) (rest := []) ⟨hx, hb, hml, hown, hts⟩ (c_X13_isName (l := l) M a0 k0 h1) (cwV 0 hts gX13_known_X13_isName rfl rfl rfl hdV_X13_isName ⟨Nat.le_of_ble_eq_true rfl, Nat.le_of_ble_eq_true rfl⟩) (pV (T := TX13) hP hK hD hT hG hS k0 (by decide) rfl) rfl rfl hl.1 rfl (lv_room (Nat.le_of_ble_eq_true rfl)) dX13_known_1 ⟨Nat.zero_le _, Nat.zero_le _⟩) hS (fun H locs hz1 hP hD hT hS => ?_)
  refine lv_if_ne (tgt := 12) hx hb dX13_known_4 rfl (fun c2 => ?_) (fun c2 => ?_)
  · replace h := ite_f c2 h
    refine lv_aload_n hx hb dX13_known_12 rfl (lv_at hl 0 rfl) ?_
    rcases hN3 : gR M a0 4 with _ | b3
    · replace h := oc_n hN3 h
      refine r_get (T := TX13) (v := .null) hx hb hts in13 hown hK hP k0 (by decide) rfl 4 (by decide) (hts (.fieldLink RX13 150 "StoneWalkModel" "read" "LStoneWalkModel$Island;") (List.mem_of_getElem? (i := 1) (by decide +kernel))) rfl (t := 2) rfl (by show va_rf _ = _; rw [hN3]; rfl) dX13_known_13 ?_
      refine lv_aload_n hx hb dX13_known_16 rfl (lv_at hl 0 rfl) ?_
      refine r_get (T := TX13) (v := .long (gL M a0 15)) hx hb hts in13 hown hK hP k0 (by decide) rfl 15 (by decide) (hts (.fieldLink RX13 77 "StoneWalkModel" "word" "J") (List.mem_of_getElem? (i := 2) (by decide +kernel))) rfl (t := 1) rfl rfl dX13_known_17 ?_
      exact absurd h (by simp)
    · replace h := oc_s hN3 h
      have kb3 := hT.f k0 (k := 4) (t := 12) (n := 0) rfl hN3
      refine r_get (T := TX13) (v := .ref (ad b3)) hx hb hts in13 hown hK hP k0 (by decide) rfl 4 (by decide) (hts (.fieldLink RX13 150 "StoneWalkModel" "read" "LStoneWalkModel$Island;") (List.mem_of_getElem? (i := 1) (by decide +kernel))) rfl (t := 2) rfl (by show va_rf _ = _; rw [hN3]; rfl) dX13_known_13 ?_
      refine lv_aload_n hx hb dX13_known_16 rfl (lv_at hl 0 rfl) ?_
      refine r_get (T := TX13) (v := .long (gL M a0 15)) hx hb hts in13 hown hK hP k0 (by decide) rfl 15 (by decide) (hts (.fieldLink RX13 77 "StoneWalkModel" "word" "J") (List.mem_of_getElem? (i := 2) (by decide +kernel))) rfl (t := 1) rfl rfl dX13_known_17 ?_
      obtain ⟨z4, h4, h⟩ := ob_some h
      refine k_i (va_runV (As := [.long (gL M a0 15)]) (rest := []) ⟨hx, hb, hml, hown, hts⟩ (c_X12_find (l := l) M b3 (gL M a0 15) kb3 h4) (cwV 1 hts gX13_known_X12_find rfl rfl rfl hdV_X12_find ⟨Nat.le_of_ble_eq_true rfl, Nat.le_of_ble_eq_true rfl⟩) (pV (T := TX12) hP hK hD hT hG hS kb3 (by decide) rfl) rfl rfl hl.1 rfl (lv_room (Nat.le_of_ble_eq_true rfl)) dX13_known_20 ⟨Nat.zero_le _, Nat.zero_le _⟩) hS (fun H locs hP hD hT hS => ?_)
      refine lv_istore_n (lv' := [(2, .int z4), (0, .ref (ad a0)), (1, .int x1)]) hx hb dX13_known_23 rfl hl (by decide) rfl (fun ls hl => ?_)
      refine lv_iload_n hx hb dX13_known_24 rfl (lv_at hl 0 rfl) ?_
      refine lv_iconst (v := (-1)) hx hb dX13_known_25 rfl ?_
      refine lv_icmp_eq (tgt := 42) hx hb dX13_known_26 rfl (fun c5 => ?_) (fun c5 => ?_)
      · replace h := ite_t c5 h
        refine lv_aload_n hx hb dX13_known_42 rfl (lv_at hl 1 rfl) ?_
        refine lv_iconst (v := 2) hx hb dX13_known_43 rfl ?_
        obtain ⟨z6, h6, h⟩ := ob_some h
        refine k_v (va_runV (As := [.int 2]) (rest := []) ⟨hx, hb, hml, hown, hts⟩ (c_X13_wrong (l := l) M a0 2 k0 h6) (cwV 1 hts gX13_known_X13_wrong rfl rfl rfl hdV_X13_wrong ⟨Nat.le_of_ble_eq_true rfl, Nat.le_of_ble_eq_true rfl⟩) (pV (T := TX13) hP hK hD hT hG hS k0 (by decide) rfl) rfl rfl hl.1 rfl (lv_room (Nat.le_of_ble_eq_true rfl)) dX13_known_44 ⟨Nat.zero_le _, Nat.zero_le _⟩) hS (fun H locs hP hD hT hS => ?_)
        refine lv_aload_n hx hb dX13_known_47 rfl (lv_at hl 1 rfl) ?_
        refine r_get (T := TX13) (v := .int (gI z6 a0 9)) hx hb hts in13 hown hK hP k0 (by decide) rfl 9 (by decide) (hts (.fieldLink RX13 58 "StoneWalkModel" "sort" "I") (List.mem_of_getElem? (i := 3) (by decide +kernel))) rfl (t := 0) rfl rfl dX13_known_48 ?_
        refine lv_iconst (v := 5) hx hb dX13_known_51 rfl ?_
        refine lv_icmp_ne (tgt := 59) hx hb dX13_known_52 rfl (fun c7 => ?_) (fun c7 => ?_)
        · replace h := ite_f c7 h
          refine lv_aload_n hx hb dX13_known_59 rfl (lv_at hl 1 rfl) ?_
          rcases hN8 : gR z6 a0 4 with _ | b8
          · replace h := oc_n hN8 h
            refine r_get (T := TX13) (v := .null) hx hb hts in13 hown hK hP k0 (by decide) rfl 4 (by decide) (hts (.fieldLink RX13 150 "StoneWalkModel" "read" "LStoneWalkModel$Island;") (List.mem_of_getElem? (i := 1) (by decide +kernel))) rfl (t := 2) rfl (by show va_rf _ = _; rw [hN8]; rfl) dX13_known_60 ?_
            exact absurd h (by simp)
          · replace h := oc_s hN8 h
            have kb8 := hT.f k0 (k := 4) (t := 12) (n := 0) rfl hN8
            refine r_get (T := TX13) (v := .ref (ad b8)) hx hb hts in13 hown hK hP k0 (by decide) rfl 4 (by decide) (hts (.fieldLink RX13 150 "StoneWalkModel" "read" "LStoneWalkModel$Island;") (List.mem_of_getElem? (i := 1) (by decide +kernel))) rfl (t := 2) rfl (by show va_rf _ = _; rw [hN8]; rfl) dX13_known_60 ?_
            rcases hN9 : gR z6 b8 47 with _ | b9
            · exact absurd (oc_n hN9 h) (by simp)
            replace h := oc_s hN9 h
            have kb9 := hT.f kb8 (k := 47) (t := 15) (n := 35) rfl hN9
            refine r_getN (T := TX12) (v := .ref (ad b9)) hx hb hts in12 hown hK hP kb8 (by decide) rfl 47 (by decide) (hG.2.2.1 _ (List.mem_of_getElem? (i := 4) rfl)) rfl (t := 2) rfl (by show va_rf _ = _; rw [hN9]; rfl) dX13_known_63 ?_
            refine lv_iload_n hx hb dX13_known_66 rfl (lv_at hl 0 rfl) ?_
            obtain ⟨hn10, h⟩ := chk_some h
            refine r_iald hx hb hK hP kb9 hn10 dX13_known_67 ?_
            have hZ := Option.some.inj h
            have hZ1 := congrArg Prod.fst hZ
            have hZ2 := congrArg Prod.snd hZ
            exact r_iret hx hb hr hlocks hP hK hD hT hG hS hZ1 hZ2 dX13_known_68
        · replace h := ite_t c7 h
          refine lv_iconst (v := 0) hx hb dX13_known_55 rfl ?_
          refine lv_goto (tgt := 68) hx hb dX13_known_56 rfl ?_
          have hZ := Option.some.inj h
          have hZ1 := congrArg Prod.fst hZ
          have hZ2 := congrArg Prod.snd hZ
          exact r_iret hx hb hr hlocks hP hK hD hT hG hS hZ1 hZ2 dX13_known_68
      · replace h := ite_f c5 h
        refine lv_aload_n hx hb dX13_known_29 rfl (lv_at hl 1 rfl) ?_
        rcases hN11 : gR M a0 4 with _ | b11
        · replace h := oc_n hN11 h
          refine r_get (T := TX13) (v := .null) hx hb hts in13 hown hK hP k0 (by decide) rfl 4 (by decide) (hts (.fieldLink RX13 150 "StoneWalkModel" "read" "LStoneWalkModel$Island;") (List.mem_of_getElem? (i := 1) (by decide +kernel))) rfl (t := 2) rfl (by show va_rf _ = _; rw [hN11]; rfl) dX13_known_30 ?_
          exact absurd h (by simp)
        · replace h := oc_s hN11 h
          have kb11 := hT.f k0 (k := 4) (t := 12) (n := 0) rfl hN11
          refine r_get (T := TX13) (v := .ref (ad b11)) hx hb hts in13 hown hK hP k0 (by decide) rfl 4 (by decide) (hts (.fieldLink RX13 150 "StoneWalkModel" "read" "LStoneWalkModel$Island;") (List.mem_of_getElem? (i := 1) (by decide +kernel))) rfl (t := 2) rfl (by show va_rf _ = _; rw [hN11]; rfl) dX13_known_30 ?_
          rcases hN12 : gR M b11 46 with _ | b12
          · exact absurd (oc_n hN12 h) (by simp)
          replace h := oc_s hN12 h
          have kb12 := hT.f kb11 (k := 46) (t := 15) (n := 35) rfl hN12
          refine r_getN (T := TX12) (v := .ref (ad b12)) hx hb hts in12 hown hK hP kb11 (by decide) rfl 46 (by decide) (hG.2.2.1 _ (List.mem_of_getElem? (i := 3) rfl)) rfl (t := 2) rfl (by show va_rf _ = _; rw [hN12]; rfl) dX13_known_33 ?_
          refine lv_iload_n hx hb dX13_known_36 rfl (lv_at hl 0 rfl) ?_
          obtain ⟨hn13, h⟩ := chk_some h
          refine r_iald hx hb hK hP kb12 hn13 dX13_known_37 ?_
          refine lv_iload_n hx hb dX13_known_38 rfl (lv_at hl 2 rfl) ?_
          refine lv_icmp_eq (tgt := 47) hx hb dX13_known_39 rfl (fun c14 => ?_) (fun c14 => ?_)
          · replace h := ite_t c14 h
            refine lv_aload_n hx hb dX13_known_47 rfl (lv_at hl 1 rfl) ?_
            refine r_get (T := TX13) (v := .int (gI M a0 9)) hx hb hts in13 hown hK hP k0 (by decide) rfl 9 (by decide) (hts (.fieldLink RX13 58 "StoneWalkModel" "sort" "I") (List.mem_of_getElem? (i := 3) (by decide +kernel))) rfl (t := 0) rfl rfl dX13_known_48 ?_
            refine lv_iconst (v := 5) hx hb dX13_known_51 rfl ?_
            refine lv_icmp_ne (tgt := 59) hx hb dX13_known_52 rfl (fun c15 => ?_) (fun c15 => ?_)
            · replace h := ite_f c15 h
              refine lv_aload_n hx hb dX13_known_59 rfl (lv_at hl 1 rfl) ?_
              rcases hN16 : gR M a0 4 with _ | b16
              · replace h := oc_n hN16 h
                refine r_get (T := TX13) (v := .null) hx hb hts in13 hown hK hP k0 (by decide) rfl 4 (by decide) (hts (.fieldLink RX13 150 "StoneWalkModel" "read" "LStoneWalkModel$Island;") (List.mem_of_getElem? (i := 1) (by decide +kernel))) rfl (t := 2) rfl (by show va_rf _ = _; rw [hN16]; rfl) dX13_known_60 ?_
                exact absurd h (by simp)
              · replace h := oc_s hN16 h
                have kb16 := hT.f k0 (k := 4) (t := 12) (n := 0) rfl hN16
                refine r_get (T := TX13) (v := .ref (ad b16)) hx hb hts in13 hown hK hP k0 (by decide) rfl 4 (by decide) (hts (.fieldLink RX13 150 "StoneWalkModel" "read" "LStoneWalkModel$Island;") (List.mem_of_getElem? (i := 1) (by decide +kernel))) rfl (t := 2) rfl (by show va_rf _ = _; rw [hN16]; rfl) dX13_known_60 ?_
                rcases hN17 : gR M b16 47 with _ | b17
                · exact absurd (oc_n hN17 h) (by simp)
                replace h := oc_s hN17 h
                have kb17 := hT.f kb16 (k := 47) (t := 15) (n := 35) rfl hN17
                refine r_getN (T := TX12) (v := .ref (ad b17)) hx hb hts in12 hown hK hP kb16 (by decide) rfl 47 (by decide) (hG.2.2.1 _ (List.mem_of_getElem? (i := 4) rfl)) rfl (t := 2) rfl (by show va_rf _ = _; rw [hN17]; rfl) dX13_known_63 ?_
                refine lv_iload_n hx hb dX13_known_66 rfl (lv_at hl 0 rfl) ?_
                obtain ⟨hn18, h⟩ := chk_some h
                refine r_iald hx hb hK hP kb17 hn18 dX13_known_67 ?_
                have hZ := Option.some.inj h
                have hZ1 := congrArg Prod.fst hZ
                have hZ2 := congrArg Prod.snd hZ
                exact r_iret hx hb hr hlocks hP hK hD hT hG hS hZ1 hZ2 dX13_known_68
            · replace h := ite_t c15 h
              refine lv_iconst (v := 0) hx hb dX13_known_55 rfl ?_
              refine lv_goto (tgt := 68) hx hb dX13_known_56 rfl ?_
              have hZ := Option.some.inj h
              have hZ1 := congrArg Prod.fst hZ
              have hZ2 := congrArg Prod.snd hZ
              exact r_iret hx hb hr hlocks hP hK hD hT hG hS hZ1 hZ2 dX13_known_68
          · replace h := ite_f c14 h
            refine lv_aload_n hx hb dX13_known_42 rfl (lv_at hl 1 rfl) ?_
            refine lv_iconst (v := 2) hx hb dX13_known_43 rfl ?_
            obtain ⟨z19, h19, h⟩ := ob_some h
            refine k_v (va_runV (As := [.int 2]) (rest := []) ⟨hx, hb, hml, hown, hts⟩ (c_X13_wrong (l := l) M a0 2 k0 h19) (cwV 1 hts gX13_known_X13_wrong rfl rfl rfl hdV_X13_wrong ⟨Nat.le_of_ble_eq_true rfl, Nat.le_of_ble_eq_true rfl⟩) (pV (T := TX13) hP hK hD hT hG hS k0 (by decide) rfl) rfl rfl hl.1 rfl (lv_room (Nat.le_of_ble_eq_true rfl)) dX13_known_44 ⟨Nat.zero_le _, Nat.zero_le _⟩) hS (fun H locs hP hD hT hS => ?_)
            refine lv_aload_n hx hb dX13_known_47 rfl (lv_at hl 1 rfl) ?_
            refine r_get (T := TX13) (v := .int (gI z19 a0 9)) hx hb hts in13 hown hK hP k0 (by decide) rfl 9 (by decide) (hts (.fieldLink RX13 58 "StoneWalkModel" "sort" "I") (List.mem_of_getElem? (i := 3) (by decide +kernel))) rfl (t := 0) rfl rfl dX13_known_48 ?_
            refine lv_iconst (v := 5) hx hb dX13_known_51 rfl ?_
            refine lv_icmp_ne (tgt := 59) hx hb dX13_known_52 rfl (fun c20 => ?_) (fun c20 => ?_)
            · replace h := ite_f c20 h
              refine lv_aload_n hx hb dX13_known_59 rfl (lv_at hl 1 rfl) ?_
              rcases hN21 : gR z19 a0 4 with _ | b21
              · replace h := oc_n hN21 h
                refine r_get (T := TX13) (v := .null) hx hb hts in13 hown hK hP k0 (by decide) rfl 4 (by decide) (hts (.fieldLink RX13 150 "StoneWalkModel" "read" "LStoneWalkModel$Island;") (List.mem_of_getElem? (i := 1) (by decide +kernel))) rfl (t := 2) rfl (by show va_rf _ = _; rw [hN21]; rfl) dX13_known_60 ?_
                exact absurd h (by simp)
              · replace h := oc_s hN21 h
                have kb21 := hT.f k0 (k := 4) (t := 12) (n := 0) rfl hN21
                refine r_get (T := TX13) (v := .ref (ad b21)) hx hb hts in13 hown hK hP k0 (by decide) rfl 4 (by decide) (hts (.fieldLink RX13 150 "StoneWalkModel" "read" "LStoneWalkModel$Island;") (List.mem_of_getElem? (i := 1) (by decide +kernel))) rfl (t := 2) rfl (by show va_rf _ = _; rw [hN21]; rfl) dX13_known_60 ?_
                rcases hN22 : gR z19 b21 47 with _ | b22
                · exact absurd (oc_n hN22 h) (by simp)
                replace h := oc_s hN22 h
                have kb22 := hT.f kb21 (k := 47) (t := 15) (n := 35) rfl hN22
                refine r_getN (T := TX12) (v := .ref (ad b22)) hx hb hts in12 hown hK hP kb21 (by decide) rfl 47 (by decide) (hG.2.2.1 _ (List.mem_of_getElem? (i := 4) rfl)) rfl (t := 2) rfl (by show va_rf _ = _; rw [hN22]; rfl) dX13_known_63 ?_
                refine lv_iload_n hx hb dX13_known_66 rfl (lv_at hl 0 rfl) ?_
                obtain ⟨hn23, h⟩ := chk_some h
                refine r_iald hx hb hK hP kb22 hn23 dX13_known_67 ?_
                have hZ := Option.some.inj h
                have hZ1 := congrArg Prod.fst hZ
                have hZ2 := congrArg Prod.snd hZ
                exact r_iret hx hb hr hlocks hP hK hD hT hG hS hZ1 hZ2 dX13_known_68
            · replace h := ite_t c20 h
              refine lv_iconst (v := 0) hx hb dX13_known_55 rfl ?_
              refine lv_goto (tgt := 68) hx hb dX13_known_56 rfl ?_
              have hZ := Option.some.inj h
              have hZ1 := congrArg Prod.fst hZ
              have hZ2 := congrArg Prod.snd hZ
              exact r_iret hx hb hr hlocks hP hK hD hT hG hS hZ1 hZ2 dX13_known_68
  · replace h := ite_t c2 h
    refine lv_aload_n hx hb dX13_known_7 rfl (lv_at hl 0 rfl) ?_
    refine lv_iconst (v := 1) hx hb dX13_known_8 rfl ?_
    obtain ⟨z24, h24, h⟩ := ob_some h
    refine k_v (va_runV (As := [.int 1]) (rest := []) ⟨hx, hb, hml, hown, hts⟩ (c_X13_wrong (l := l) M a0 1 k0 h24) (cwV 1 hts gX13_known_X13_wrong rfl rfl rfl hdV_X13_wrong ⟨Nat.le_of_ble_eq_true rfl, Nat.le_of_ble_eq_true rfl⟩) (pV (T := TX13) hP hK hD hT hG hS k0 (by decide) rfl) rfl rfl hl.1 rfl (lv_room (Nat.le_of_ble_eq_true rfl)) dX13_known_9 ⟨Nat.zero_le _, Nat.zero_le _⟩) hS (fun H locs hP hD hT hS => ?_)
    refine lv_aload_n hx hb dX13_known_12 rfl (lv_at hl 0 rfl) ?_
    rcases hN25 : gR z24 a0 4 with _ | b25
    · replace h := oc_n hN25 h
      refine r_get (T := TX13) (v := .null) hx hb hts in13 hown hK hP k0 (by decide) rfl 4 (by decide) (hts (.fieldLink RX13 150 "StoneWalkModel" "read" "LStoneWalkModel$Island;") (List.mem_of_getElem? (i := 1) (by decide +kernel))) rfl (t := 2) rfl (by show va_rf _ = _; rw [hN25]; rfl) dX13_known_13 ?_
      refine lv_aload_n hx hb dX13_known_16 rfl (lv_at hl 0 rfl) ?_
      refine r_get (T := TX13) (v := .long (gL z24 a0 15)) hx hb hts in13 hown hK hP k0 (by decide) rfl 15 (by decide) (hts (.fieldLink RX13 77 "StoneWalkModel" "word" "J") (List.mem_of_getElem? (i := 2) (by decide +kernel))) rfl (t := 1) rfl rfl dX13_known_17 ?_
      exact absurd h (by simp)
    · replace h := oc_s hN25 h
      have kb25 := hT.f k0 (k := 4) (t := 12) (n := 0) rfl hN25
      refine r_get (T := TX13) (v := .ref (ad b25)) hx hb hts in13 hown hK hP k0 (by decide) rfl 4 (by decide) (hts (.fieldLink RX13 150 "StoneWalkModel" "read" "LStoneWalkModel$Island;") (List.mem_of_getElem? (i := 1) (by decide +kernel))) rfl (t := 2) rfl (by show va_rf _ = _; rw [hN25]; rfl) dX13_known_13 ?_
      refine lv_aload_n hx hb dX13_known_16 rfl (lv_at hl 0 rfl) ?_
      refine r_get (T := TX13) (v := .long (gL z24 a0 15)) hx hb hts in13 hown hK hP k0 (by decide) rfl 15 (by decide) (hts (.fieldLink RX13 77 "StoneWalkModel" "word" "J") (List.mem_of_getElem? (i := 2) (by decide +kernel))) rfl (t := 1) rfl rfl dX13_known_17 ?_
      obtain ⟨z26, h26, h⟩ := ob_some h
      refine k_i (va_runV (As := [.long (gL z24 a0 15)]) (rest := []) ⟨hx, hb, hml, hown, hts⟩ (c_X12_find (l := l) z24 b25 (gL z24 a0 15) kb25 h26) (cwV 1 hts gX13_known_X12_find rfl rfl rfl hdV_X12_find ⟨Nat.le_of_ble_eq_true rfl, Nat.le_of_ble_eq_true rfl⟩) (pV (T := TX12) hP hK hD hT hG hS kb25 (by decide) rfl) rfl rfl hl.1 rfl (lv_room (Nat.le_of_ble_eq_true rfl)) dX13_known_20 ⟨Nat.zero_le _, Nat.zero_le _⟩) hS (fun H locs hP hD hT hS => ?_)
      refine lv_istore_n (lv' := [(2, .int z26), (0, .ref (ad a0)), (1, .int x1)]) hx hb dX13_known_23 rfl hl (by decide) rfl (fun ls hl => ?_)
      refine lv_iload_n hx hb dX13_known_24 rfl (lv_at hl 0 rfl) ?_
      refine lv_iconst (v := (-1)) hx hb dX13_known_25 rfl ?_
      refine lv_icmp_eq (tgt := 42) hx hb dX13_known_26 rfl (fun c27 => ?_) (fun c27 => ?_)
      · replace h := ite_t c27 h
        refine lv_aload_n hx hb dX13_known_42 rfl (lv_at hl 1 rfl) ?_
        refine lv_iconst (v := 2) hx hb dX13_known_43 rfl ?_
        obtain ⟨z28, h28, h⟩ := ob_some h
        refine k_v (va_runV (As := [.int 2]) (rest := []) ⟨hx, hb, hml, hown, hts⟩ (c_X13_wrong (l := l) z24 a0 2 k0 h28) (cwV 1 hts gX13_known_X13_wrong rfl rfl rfl hdV_X13_wrong ⟨Nat.le_of_ble_eq_true rfl, Nat.le_of_ble_eq_true rfl⟩) (pV (T := TX13) hP hK hD hT hG hS k0 (by decide) rfl) rfl rfl hl.1 rfl (lv_room (Nat.le_of_ble_eq_true rfl)) dX13_known_44 ⟨Nat.zero_le _, Nat.zero_le _⟩) hS (fun H locs hP hD hT hS => ?_)
        refine lv_aload_n hx hb dX13_known_47 rfl (lv_at hl 1 rfl) ?_
        refine r_get (T := TX13) (v := .int (gI z28 a0 9)) hx hb hts in13 hown hK hP k0 (by decide) rfl 9 (by decide) (hts (.fieldLink RX13 58 "StoneWalkModel" "sort" "I") (List.mem_of_getElem? (i := 3) (by decide +kernel))) rfl (t := 0) rfl rfl dX13_known_48 ?_
        refine lv_iconst (v := 5) hx hb dX13_known_51 rfl ?_
        refine lv_icmp_ne (tgt := 59) hx hb dX13_known_52 rfl (fun c29 => ?_) (fun c29 => ?_)
        · replace h := ite_f c29 h
          refine lv_aload_n hx hb dX13_known_59 rfl (lv_at hl 1 rfl) ?_
          rcases hN30 : gR z28 a0 4 with _ | b30
          · replace h := oc_n hN30 h
            refine r_get (T := TX13) (v := .null) hx hb hts in13 hown hK hP k0 (by decide) rfl 4 (by decide) (hts (.fieldLink RX13 150 "StoneWalkModel" "read" "LStoneWalkModel$Island;") (List.mem_of_getElem? (i := 1) (by decide +kernel))) rfl (t := 2) rfl (by show va_rf _ = _; rw [hN30]; rfl) dX13_known_60 ?_
            exact absurd h (by simp)
          · replace h := oc_s hN30 h
            have kb30 := hT.f k0 (k := 4) (t := 12) (n := 0) rfl hN30
            refine r_get (T := TX13) (v := .ref (ad b30)) hx hb hts in13 hown hK hP k0 (by decide) rfl 4 (by decide) (hts (.fieldLink RX13 150 "StoneWalkModel" "read" "LStoneWalkModel$Island;") (List.mem_of_getElem? (i := 1) (by decide +kernel))) rfl (t := 2) rfl (by show va_rf _ = _; rw [hN30]; rfl) dX13_known_60 ?_
            rcases hN31 : gR z28 b30 47 with _ | b31
            · exact absurd (oc_n hN31 h) (by simp)
            replace h := oc_s hN31 h
            have kb31 := hT.f kb30 (k := 47) (t := 15) (n := 35) rfl hN31
            refine r_getN (T := TX12) (v := .ref (ad b31)) hx hb hts in12 hown hK hP kb30 (by decide) rfl 47 (by decide) (hG.2.2.1 _ (List.mem_of_getElem? (i := 4) rfl)) rfl (t := 2) rfl (by show va_rf _ = _; rw [hN31]; rfl) dX13_known_63 ?_
            refine lv_iload_n hx hb dX13_known_66 rfl (lv_at hl 0 rfl) ?_
            obtain ⟨hn32, h⟩ := chk_some h
            refine r_iald hx hb hK hP kb31 hn32 dX13_known_67 ?_
            have hZ := Option.some.inj h
            have hZ1 := congrArg Prod.fst hZ
            have hZ2 := congrArg Prod.snd hZ
            exact r_iret hx hb hr hlocks hP hK hD hT hG hS hZ1 hZ2 dX13_known_68
        · replace h := ite_t c29 h
          refine lv_iconst (v := 0) hx hb dX13_known_55 rfl ?_
          refine lv_goto (tgt := 68) hx hb dX13_known_56 rfl ?_
          have hZ := Option.some.inj h
          have hZ1 := congrArg Prod.fst hZ
          have hZ2 := congrArg Prod.snd hZ
          exact r_iret hx hb hr hlocks hP hK hD hT hG hS hZ1 hZ2 dX13_known_68
      · replace h := ite_f c27 h
        refine lv_aload_n hx hb dX13_known_29 rfl (lv_at hl 1 rfl) ?_
        rcases hN33 : gR z24 a0 4 with _ | b33
        · replace h := oc_n hN33 h
          refine r_get (T := TX13) (v := .null) hx hb hts in13 hown hK hP k0 (by decide) rfl 4 (by decide) (hts (.fieldLink RX13 150 "StoneWalkModel" "read" "LStoneWalkModel$Island;") (List.mem_of_getElem? (i := 1) (by decide +kernel))) rfl (t := 2) rfl (by show va_rf _ = _; rw [hN33]; rfl) dX13_known_30 ?_
          exact absurd h (by simp)
        · replace h := oc_s hN33 h
          have kb33 := hT.f k0 (k := 4) (t := 12) (n := 0) rfl hN33
          refine r_get (T := TX13) (v := .ref (ad b33)) hx hb hts in13 hown hK hP k0 (by decide) rfl 4 (by decide) (hts (.fieldLink RX13 150 "StoneWalkModel" "read" "LStoneWalkModel$Island;") (List.mem_of_getElem? (i := 1) (by decide +kernel))) rfl (t := 2) rfl (by show va_rf _ = _; rw [hN33]; rfl) dX13_known_30 ?_
          rcases hN34 : gR z24 b33 46 with _ | b34
          · exact absurd (oc_n hN34 h) (by simp)
          replace h := oc_s hN34 h
          have kb34 := hT.f kb33 (k := 46) (t := 15) (n := 35) rfl hN34
          refine r_getN (T := TX12) (v := .ref (ad b34)) hx hb hts in12 hown hK hP kb33 (by decide) rfl 46 (by decide) (hG.2.2.1 _ (List.mem_of_getElem? (i := 3) rfl)) rfl (t := 2) rfl (by show va_rf _ = _; rw [hN34]; rfl) dX13_known_33 ?_
          refine lv_iload_n hx hb dX13_known_36 rfl (lv_at hl 0 rfl) ?_
          obtain ⟨hn35, h⟩ := chk_some h
          refine r_iald hx hb hK hP kb34 hn35 dX13_known_37 ?_
          refine lv_iload_n hx hb dX13_known_38 rfl (lv_at hl 2 rfl) ?_
          refine lv_icmp_eq (tgt := 47) hx hb dX13_known_39 rfl (fun c36 => ?_) (fun c36 => ?_)
          · replace h := ite_t c36 h
            refine lv_aload_n hx hb dX13_known_47 rfl (lv_at hl 1 rfl) ?_
            refine r_get (T := TX13) (v := .int (gI z24 a0 9)) hx hb hts in13 hown hK hP k0 (by decide) rfl 9 (by decide) (hts (.fieldLink RX13 58 "StoneWalkModel" "sort" "I") (List.mem_of_getElem? (i := 3) (by decide +kernel))) rfl (t := 0) rfl rfl dX13_known_48 ?_
            refine lv_iconst (v := 5) hx hb dX13_known_51 rfl ?_
            refine lv_icmp_ne (tgt := 59) hx hb dX13_known_52 rfl (fun c37 => ?_) (fun c37 => ?_)
            · replace h := ite_f c37 h
              refine lv_aload_n hx hb dX13_known_59 rfl (lv_at hl 1 rfl) ?_
              rcases hN38 : gR z24 a0 4 with _ | b38
              · replace h := oc_n hN38 h
                refine r_get (T := TX13) (v := .null) hx hb hts in13 hown hK hP k0 (by decide) rfl 4 (by decide) (hts (.fieldLink RX13 150 "StoneWalkModel" "read" "LStoneWalkModel$Island;") (List.mem_of_getElem? (i := 1) (by decide +kernel))) rfl (t := 2) rfl (by show va_rf _ = _; rw [hN38]; rfl) dX13_known_60 ?_
                exact absurd h (by simp)
              · replace h := oc_s hN38 h
                have kb38 := hT.f k0 (k := 4) (t := 12) (n := 0) rfl hN38
                refine r_get (T := TX13) (v := .ref (ad b38)) hx hb hts in13 hown hK hP k0 (by decide) rfl 4 (by decide) (hts (.fieldLink RX13 150 "StoneWalkModel" "read" "LStoneWalkModel$Island;") (List.mem_of_getElem? (i := 1) (by decide +kernel))) rfl (t := 2) rfl (by show va_rf _ = _; rw [hN38]; rfl) dX13_known_60 ?_
                rcases hN39 : gR z24 b38 47 with _ | b39
                · exact absurd (oc_n hN39 h) (by simp)
                replace h := oc_s hN39 h
                have kb39 := hT.f kb38 (k := 47) (t := 15) (n := 35) rfl hN39
                refine r_getN (T := TX12) (v := .ref (ad b39)) hx hb hts in12 hown hK hP kb38 (by decide) rfl 47 (by decide) (hG.2.2.1 _ (List.mem_of_getElem? (i := 4) rfl)) rfl (t := 2) rfl (by show va_rf _ = _; rw [hN39]; rfl) dX13_known_63 ?_
                refine lv_iload_n hx hb dX13_known_66 rfl (lv_at hl 0 rfl) ?_
                obtain ⟨hn40, h⟩ := chk_some h
                refine r_iald hx hb hK hP kb39 hn40 dX13_known_67 ?_
                have hZ := Option.some.inj h
                have hZ1 := congrArg Prod.fst hZ
                have hZ2 := congrArg Prod.snd hZ
                exact r_iret hx hb hr hlocks hP hK hD hT hG hS hZ1 hZ2 dX13_known_68
            · replace h := ite_t c37 h
              refine lv_iconst (v := 0) hx hb dX13_known_55 rfl ?_
              refine lv_goto (tgt := 68) hx hb dX13_known_56 rfl ?_
              have hZ := Option.some.inj h
              have hZ1 := congrArg Prod.fst hZ
              have hZ2 := congrArg Prod.snd hZ
              exact r_iret hx hb hr hlocks hP hK hD hT hG hS hZ1 hZ2 dX13_known_68
          · replace h := ite_f c36 h
            refine lv_aload_n hx hb dX13_known_42 rfl (lv_at hl 1 rfl) ?_
            refine lv_iconst (v := 2) hx hb dX13_known_43 rfl ?_
            obtain ⟨z41, h41, h⟩ := ob_some h
            refine k_v (va_runV (As := [.int 2]) (rest := []) ⟨hx, hb, hml, hown, hts⟩ (c_X13_wrong (l := l) z24 a0 2 k0 h41) (cwV 1 hts gX13_known_X13_wrong rfl rfl rfl hdV_X13_wrong ⟨Nat.le_of_ble_eq_true rfl, Nat.le_of_ble_eq_true rfl⟩) (pV (T := TX13) hP hK hD hT hG hS k0 (by decide) rfl) rfl rfl hl.1 rfl (lv_room (Nat.le_of_ble_eq_true rfl)) dX13_known_44 ⟨Nat.zero_le _, Nat.zero_le _⟩) hS (fun H locs hP hD hT hS => ?_)
            refine lv_aload_n hx hb dX13_known_47 rfl (lv_at hl 1 rfl) ?_
            refine r_get (T := TX13) (v := .int (gI z41 a0 9)) hx hb hts in13 hown hK hP k0 (by decide) rfl 9 (by decide) (hts (.fieldLink RX13 58 "StoneWalkModel" "sort" "I") (List.mem_of_getElem? (i := 3) (by decide +kernel))) rfl (t := 0) rfl rfl dX13_known_48 ?_
            refine lv_iconst (v := 5) hx hb dX13_known_51 rfl ?_
            refine lv_icmp_ne (tgt := 59) hx hb dX13_known_52 rfl (fun c42 => ?_) (fun c42 => ?_)
            · replace h := ite_f c42 h
              refine lv_aload_n hx hb dX13_known_59 rfl (lv_at hl 1 rfl) ?_
              rcases hN43 : gR z41 a0 4 with _ | b43
              · replace h := oc_n hN43 h
                refine r_get (T := TX13) (v := .null) hx hb hts in13 hown hK hP k0 (by decide) rfl 4 (by decide) (hts (.fieldLink RX13 150 "StoneWalkModel" "read" "LStoneWalkModel$Island;") (List.mem_of_getElem? (i := 1) (by decide +kernel))) rfl (t := 2) rfl (by show va_rf _ = _; rw [hN43]; rfl) dX13_known_60 ?_
                exact absurd h (by simp)
              · replace h := oc_s hN43 h
                have kb43 := hT.f k0 (k := 4) (t := 12) (n := 0) rfl hN43
                refine r_get (T := TX13) (v := .ref (ad b43)) hx hb hts in13 hown hK hP k0 (by decide) rfl 4 (by decide) (hts (.fieldLink RX13 150 "StoneWalkModel" "read" "LStoneWalkModel$Island;") (List.mem_of_getElem? (i := 1) (by decide +kernel))) rfl (t := 2) rfl (by show va_rf _ = _; rw [hN43]; rfl) dX13_known_60 ?_
                rcases hN44 : gR z41 b43 47 with _ | b44
                · exact absurd (oc_n hN44 h) (by simp)
                replace h := oc_s hN44 h
                have kb44 := hT.f kb43 (k := 47) (t := 15) (n := 35) rfl hN44
                refine r_getN (T := TX12) (v := .ref (ad b44)) hx hb hts in12 hown hK hP kb43 (by decide) rfl 47 (by decide) (hG.2.2.1 _ (List.mem_of_getElem? (i := 4) rfl)) rfl (t := 2) rfl (by show va_rf _ = _; rw [hN44]; rfl) dX13_known_63 ?_
                refine lv_iload_n hx hb dX13_known_66 rfl (lv_at hl 0 rfl) ?_
                obtain ⟨hn45, h⟩ := chk_some h
                refine r_iald hx hb hK hP kb44 hn45 dX13_known_67 ?_
                have hZ := Option.some.inj h
                have hZ1 := congrArg Prod.fst hZ
                have hZ2 := congrArg Prod.snd hZ
                exact r_iret hx hb hr hlocks hP hK hD hT hG hS hZ1 hZ2 dX13_known_68
            · replace h := ite_t c42 h
              refine lv_iconst (v := 0) hx hb dX13_known_55 rfl ?_
              refine lv_goto (tgt := 68) hx hb dX13_known_56 rfl ?_
              have hZ := Option.some.inj h
              have hZ1 := congrArg Prod.fst hZ
              have hZ2 := congrArg Prod.snd hZ
              exact r_iret hx hb hr hlocks hP hK hD hT hG hS hZ1 hZ2 dX13_known_68
set_option maxHeartbeats 4000000 in
set_option maxRecDepth 100000 in
theorem c_X13_readKnown {l : Launch} {D : va_G} {ad : Nat → Nat} {cy : Nat → ClassId} {A : Nat → Prop} {g : CG} {q : SE} (M : MM) (a0 : Nat) (x1 : Int32) (k0 : ok g a0 13 0) {Z : (Int32 × MM)} (h : f_X13_readKnown M a0 x1 = some Z) : Met l yX13_readKnown wsX13_readKnown ({ frames := 8, cells := 0, slots := 0, locals := 171 }) (va_Pc [.ref (ad a0), .int x1] (Wd D ad cy A g q M)) (va_Qi (fun r u => r = Z.1 ∧ u = Z.2) (Wd D ad cy A g q) A) 0 0 A := by
  refine Met.ofW (cc := cX13_readKnown) (maxL := 3) (ret := (some .int)) (by decide) rfl ?_
  intro p e s m args below meth c s₁ B hml hv
  obtain ⟨rfl, hP, hK, hD, hT, hG⟩ := hv
  have hx := B.exec
  have hb := B.bytes
  have hr := B.returns
  have hts := atoms_spec (ws := wsX13_readKnown) B.pre
  have hown : s.vm.findClass RX13 = some m.cls := findClass_of_methodNamed B.named
  have hlocks := B.notSynchronized
  have hS : va_S A s.heap s.heap [] := va_S.rf
  have hl := lv_entry ([.ref (ad a0), .int x1]) (n := 3) (Nat.le_of_ble_eq_true rfl)
  rw [lg_entry_eq]
  generalize (lg_sl ([.ref (ad a0), .int x1]) ++ List.replicate (3 - (lg_sl ([.ref (ad a0), .int x1])).length) Slot.unset).toArray = ls at hl ⊢
  have hl : lv_has ls 3 [(0, .ref (ad a0)), (1, .int x1)] := hl
  unfold f_X13_readKnown at h
  refine lv_aload_n hx hb dX13_readKnown_0 rfl (lv_at hl 0 rfl) ?_
  refine lv_iload_n hx hb dX13_readKnown_1 rfl (lv_at hl 1 rfl) ?_
  obtain ⟨z1, h1, h⟩ := ob_some h
  refine k_i (va_runV (As := [.int x1]) (rest := []) ⟨hx, hb, hml, hown, hts⟩ (c_X13_known (l := l) M a0 x1 k0 h1) (cwV 1 hts gX13_readKnown_X13_known rfl rfl rfl hdV_X13_known ⟨Nat.le_of_ble_eq_true rfl, Nat.le_of_ble_eq_true rfl⟩) (pV (T := TX13) hP hK hD hT hG hS k0 (by decide) rfl) rfl rfl hl.1 rfl (lv_room (Nat.le_of_ble_eq_true rfl)) dX13_readKnown_2 ⟨Nat.zero_le _, Nat.zero_le _⟩) hS (fun H locs hP hD hT hS => ?_)
  refine lv_istore_n (lv' := [(2, .int z1.1), (0, .ref (ad a0)), (1, .int x1)]) hx hb dX13_readKnown_5 rfl hl (by decide) rfl (fun ls hl => ?_)
  refine lv_aload_n hx hb dX13_readKnown_6 rfl (lv_at hl 1 rfl) ?_
  obtain ⟨z2, h2, h⟩ := ob_some h
  refine k_v (va_runV (As := []) (rest := []) ⟨hx, hb, hml, hown, hts⟩ (c_X13_goesOn (l := l) z1.2 a0 k0 h2) (cwV 0 hts gX13_readKnown_X13_goesOn rfl rfl rfl hdV_X13_goesOn ⟨Nat.le_of_ble_eq_true rfl, Nat.le_of_ble_eq_true rfl⟩) (pV (T := TX13) hP hK hD hT hG hS k0 (by decide) rfl) rfl rfl hl.1 rfl (lv_room (Nat.le_of_ble_eq_true rfl)) dX13_readKnown_7 ⟨Nat.zero_le _, Nat.zero_le _⟩) hS (fun H locs hP hD hT hS => ?_)
  refine lv_iload_n hx hb dX13_readKnown_10 rfl (lv_at hl 0 rfl) ?_
  have hZ := Option.some.inj h
  have hZ1 := congrArg Prod.fst hZ
  have hZ2 := congrArg Prod.snd hZ
  exact r_iret hx hb hr hlocks hP hK hD hT hG hS hZ1 hZ2 dX13_readKnown_11
