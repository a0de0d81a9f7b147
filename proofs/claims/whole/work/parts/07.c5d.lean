set_option maxHeartbeats 4000000 in
set_option maxRecDepth 100000 in
theorem c_X13_at {l : Launch} {D : va_G} {ad : Nat → Nat} {cy : Nat → ClassId} {A : Nat → Prop} {g : CG} {q : SE} (M : MM) (a0 : Nat) (x1 : Int32) (k0 : ok g a0 13 0) {Z : (Int32 × MM)} (h : f_X13_at M a0 x1 = some Z) : Met l yX13_at wsX13_at ({ frames := 1, cells := 0, slots := 0, locals := 23 }) (va_Pc [.ref (ad a0), .int x1] (Wd D ad cy A g q M)) (va_Qi (fun r u => r = Z.1 ∧ u = Z.2) (Wd D ad cy A g q) A) 0 0 A := by
  refine Met.ofW (cc := cX13_at) (maxL := 2) (ret := (some .int)) (by decide) rfl ?_
  intro p e s m args below meth c s₁ B hml hv
  obtain ⟨rfl, hP, hK, hD, hT, hG⟩ := hv
  have hx := B.exec
  have hb := B.bytes
  have hr := B.returns
  have hts := atoms_spec (ws := wsX13_at) B.pre
  have hown : s.vm.findClass RX13 = some m.cls := findClass_of_methodNamed B.named
  have hlocks := B.notSynchronized
  have in12 : ∀ w ∈ u_ws RX12 TX12 48, w ∈ wsX13_at := fun w h => List.mem_cons_of_mem _ (List.mem_append_right _ h)
  have in13 : ∀ w ∈ u_ws RX13 TX13 29, w ∈ wsX13_at := fun w h => List.mem_cons_of_mem _ (List.mem_append_left _ (List.mem_append_right _ h))
  have hS : va_S A s.heap s.heap [] := va_S.rf
  have hl := lv_entry ([.ref (ad a0), .int x1]) (n := 2) (Nat.le_of_ble_eq_true rfl)
  rw [lg_entry_eq]
  generalize (lg_sl ([.ref (ad a0), .int x1]) ++ List.replicate (2 - (lg_sl ([.ref (ad a0), .int x1])).length) Slot.unset).toArray = ls at hl ⊢
  have hl : lv_has ls 2 [(0, .ref (ad a0)), (1, .int x1)] := hl
  unfold f_X13_at at h
  refine lv_aload_n hx hb dX13_at_0 rfl (lv_at hl 0 rfl) ?_
  refine lv_iconst (v := 0) hx hb dX13_at_1 rfl ?_
  refine r_putI (T := TX13) (ty := .int) (v := 0) hx hb hts in13 tyX13 tyX13_ok nmX13 hown hK hP hD hT hS k0 (by decide) rfl 0 (by decide) (hts (.fieldLink RX13 30 "StoneWalkModel" "thrown" "I") (List.mem_of_getElem? (i := 1) (by decide +kernel))) rfl rfl (tyX13_ok 0 (by decide)) rfl rfl rfl dX13_at_2 (fun H locs hP hD hT hS => ?_)
  generalize pI M a0 0 0 = Mg1 at h hP hD hT ⊢
  refine lv_iload_n hx hb dX13_at_5 rfl (lv_at hl 1 rfl) ?_
  refine lv_iconst (v := 0) hx hb dX13_at_6 rfl ?_
  refine lv_bipush (v := 8) hx hb dX13_at_7 rfl ?_
  obtain ⟨z1, h1, h⟩ := ob_some h
  refine k_z (va_runS (As := [.int x1, .int 0, .int 8]) (rest := []) ⟨hx, hb, hml, hown, hts⟩ (c_X13_in (l := l) Mg1 x1 0 8 h1) (va_cwS 3 hts gX13_at_X13_in rfl rfl rfl hdS_X13_in ⟨Nat.le_of_ble_eq_true rfl, Nat.le_of_ble_eq_true rfl⟩) (pS hP hK hD hT hG hS) rfl rfl hl.1 rfl (lv_room (Nat.le_of_ble_eq_true rfl)) dX13_at_9 ⟨Nat.zero_le _, Nat.zero_le _⟩) hS (fun H locs hz1 hP hD hT hS => ?_)
  refine lv_if_ne (tgt := 21) hx hb dX13_at_12 rfl (fun c2 => ?_) (fun c2 => ?_)
  · replace h := ite_f c2 h
    refine lv_aload_n hx hb dX13_at_21 rfl (lv_at hl 0 rfl) ?_
    refine r_get (T := TX13) (v := .int (gI Mg1 a0 17)) hx hb hts in13 hown hK hP k0 (by decide) rfl 17 (by decide) (hts (.fieldLink RX13 17 "StoneWalkModel" "moved" "I") (List.mem_of_getElem? (i := 2) (by decide +kernel))) rfl (t := 0) rfl rfl dX13_at_22 ?_
    refine lv_iconst (v := (-1)) hx hb dX13_at_25 rfl ?_
    refine lv_icmp_ne (tgt := 36) hx hb dX13_at_26 rfl (fun c3 => ?_) (fun c3 => ?_)
    · replace h := ite_f c3 h
      refine lv_iload_n hx hb dX13_at_36 rfl (lv_at hl 1 rfl) ?_
      by_cases c4_0 : x1 = 0
      · replace h := ite_t c4_0 h
        refine lv_tableIn (tgt := 84) (off := 47) hx hb dX13_at_37 (by rw [c4_0]; decide) (by rw [c4_0]; decide) (by rw [c4_0]; decide) rfl ?_
        refine lv_aload_n hx hb dX13_at_84 rfl (lv_at hl 0 rfl) ?_
        refine lv_aload_n hx hb dX13_at_85 rfl (lv_at hl 0 rfl) ?_
        refine r_get (T := TX13) (v := .int (gI Mg1 a0 21)) hx hb hts in13 hown hK hP k0 (by decide) rfl 21 (by decide) (hts (.fieldLink RX13 500 "StoneWalkModel" "told" "I") (List.mem_of_getElem? (i := 3) (by decide +kernel))) rfl (t := 0) rfl rfl dX13_at_86 ?_
        obtain ⟨z5, h5, h⟩ := ob_some h
        refine k_i (va_runV (As := [.int (gI Mg1 a0 21)]) (rest := []) ⟨hx, hb, hml, hown, hts⟩ (c_X13_done (l := l) Mg1 a0 (gI Mg1 a0 21) k0 h5) (cwV 1 hts gX13_at_X13_done rfl rfl rfl hdV_X13_done ⟨Nat.le_of_ble_eq_true rfl, Nat.le_of_ble_eq_true rfl⟩) (pV (T := TX13) hP hK hD hT hG hS k0 (by decide) rfl) rfl rfl hl.1 rfl (lv_room (Nat.le_of_ble_eq_true rfl)) dX13_at_89 ⟨Nat.zero_le _, Nat.zero_le _⟩) hS (fun H locs hP hD hT hS => ?_)
        have hZ := Option.some.inj h
        have hZ1 := congrArg Prod.fst hZ
        have hZ2 := congrArg Prod.snd hZ
        exact r_iret hx hb hr hlocks hP hK hD hT hG hS hZ1 hZ2 dX13_at_92
      · replace h := ite_f c4_0 h
        by_cases c4_1 : x1 = 1
        · replace h := ite_t c4_1 h
          refine lv_tableIn (tgt := 93) (off := 56) hx hb dX13_at_37 (by rw [c4_1]; decide) (by rw [c4_1]; decide) (by rw [c4_1]; decide) rfl ?_
          refine lv_aload_n hx hb dX13_at_93 rfl (lv_at hl 0 rfl) ?_
          refine lv_aload_n hx hb dX13_at_94 rfl (lv_at hl 0 rfl) ?_
          refine r_get (T := TX13) (v := .int (gI Mg1 a0 22)) hx hb hts in13 hown hK hP k0 (by decide) rfl 22 (by decide) (hts (.fieldLink RX13 503 "StoneWalkModel" "slopesGone" "I") (List.mem_of_getElem? (i := 4) (by decide +kernel))) rfl (t := 0) rfl rfl dX13_at_95 ?_
          obtain ⟨z6, h6, h⟩ := ob_some h
          refine k_i (va_runV (As := [.int (gI Mg1 a0 22)]) (rest := []) ⟨hx, hb, hml, hown, hts⟩ (c_X13_done (l := l) Mg1 a0 (gI Mg1 a0 22) k0 h6) (cwV 1 hts gX13_at_X13_done rfl rfl rfl hdV_X13_done ⟨Nat.le_of_ble_eq_true rfl, Nat.le_of_ble_eq_true rfl⟩) (pV (T := TX13) hP hK hD hT hG hS k0 (by decide) rfl) rfl rfl hl.1 rfl (lv_room (Nat.le_of_ble_eq_true rfl)) dX13_at_98 ⟨Nat.zero_le _, Nat.zero_le _⟩) hS (fun H locs hP hD hT hS => ?_)
          have hZ := Option.some.inj h
          have hZ1 := congrArg Prod.fst hZ
          have hZ2 := congrArg Prod.snd hZ
          exact r_iret hx hb hr hlocks hP hK hD hT hG hS hZ1 hZ2 dX13_at_101
        · replace h := ite_f c4_1 h
          by_cases c4_2 : x1 = 2
          · replace h := ite_t c4_2 h
            refine lv_tableIn (tgt := 102) (off := 65) hx hb dX13_at_37 (by rw [c4_2]; decide) (by rw [c4_2]; decide) (by rw [c4_2]; decide) rfl ?_
            refine lv_aload_n hx hb dX13_at_102 rfl (lv_at hl 0 rfl) ?_
            refine lv_aload_n hx hb dX13_at_103 rfl (lv_at hl 0 rfl) ?_
            refine r_get (T := TX13) (v := .int (gI Mg1 a0 23)) hx hb hts in13 hown hK hP k0 (by decide) rfl 23 (by decide) (hts (.fieldLink RX13 506 "StoneWalkModel" "minutesGone" "I") (List.mem_of_getElem? (i := 5) (by decide +kernel))) rfl (t := 0) rfl rfl dX13_at_104 ?_
            obtain ⟨z7, h7, h⟩ := ob_some h
            refine k_i (va_runV (As := [.int (gI Mg1 a0 23)]) (rest := []) ⟨hx, hb, hml, hown, hts⟩ (c_X13_done (l := l) Mg1 a0 (gI Mg1 a0 23) k0 h7) (cwV 1 hts gX13_at_X13_done rfl rfl rfl hdV_X13_done ⟨Nat.le_of_ble_eq_true rfl, Nat.le_of_ble_eq_true rfl⟩) (pV (T := TX13) hP hK hD hT hG hS k0 (by decide) rfl) rfl rfl hl.1 rfl (lv_room (Nat.le_of_ble_eq_true rfl)) dX13_at_107 ⟨Nat.zero_le _, Nat.zero_le _⟩) hS (fun H locs hP hD hT hS => ?_)
            have hZ := Option.some.inj h
            have hZ1 := congrArg Prod.fst hZ
            have hZ2 := congrArg Prod.snd hZ
            exact r_iret hx hb hr hlocks hP hK hD hT hG hS hZ1 hZ2 dX13_at_110
          · replace h := ite_f c4_2 h
            by_cases c4_3 : x1 = 3
            · replace h := ite_t c4_3 h
              refine lv_tableIn (tgt := 111) (off := 74) hx hb dX13_at_37 (by rw [c4_3]; decide) (by rw [c4_3]; decide) (by rw [c4_3]; decide) rfl ?_
              refine lv_aload_n hx hb dX13_at_111 rfl (lv_at hl 0 rfl) ?_
              refine lv_aload_n hx hb dX13_at_112 rfl (lv_at hl 0 rfl) ?_
              refine lv_aload_n hx hb dX13_at_113 rfl (lv_at hl 0 rfl) ?_
              refine r_get (T := TX13) (v := .int (gI Mg1 a0 18)) hx hb hts in13 hown hK hP k0 (by decide) rfl 18 (by decide) (hts (.fieldLink RX13 490 "StoneWalkModel" "movedBy" "I") (List.mem_of_getElem? (i := 6) (by decide +kernel))) rfl (t := 0) rfl rfl dX13_at_114 ?_
              refine lv_aload_n hx hb dX13_at_117 rfl (lv_at hl 0 rfl) ?_
              rcases hN8 : gR Mg1 a0 3 with _ | b8
              · replace h := oc_n hN8 h
                refine r_get (T := TX13) (v := .null) hx hb hts in13 hown hK hP k0 (by decide) rfl 3 (by decide) (hts (.fieldLink RX13 431 "StoneWalkModel" "island" "LStoneWalkModel$Island;") (List.mem_of_getElem? (i := 7) (by decide +kernel))) rfl (t := 2) rfl (by show va_rf _ = _; rw [hN8]; rfl) dX13_at_118 ?_
                exact absurd h (by simp)
              · replace h := oc_s hN8 h
                have kb8 := hT.f k0 (k := 3) (t := 12) (n := 0) rfl hN8
                refine r_get (T := TX13) (v := .ref (ad b8)) hx hb hts in13 hown hK hP k0 (by decide) rfl 3 (by decide) (hts (.fieldLink RX13 431 "StoneWalkModel" "island" "LStoneWalkModel$Island;") (List.mem_of_getElem? (i := 7) (by decide +kernel))) rfl (t := 2) rfl (by show va_rf _ = _; rw [hN8]; rfl) dX13_at_118 ?_
                rcases hN9 : gR Mg1 b8 15 with _ | b9
                · exact absurd (oc_n hN9 h) (by simp)
                replace h := oc_s hN9 h
                have kb9 := hT.f kb8 (k := 15) (t := 15) (n := 10) rfl hN9
                refine r_getN (T := TX12) (v := .ref (ad b9)) hx hb hts in12 hown hK hP kb8 (by decide) rfl 15 (by decide) (hG.2.2.1 ("StoneWalkModel", 301, "StoneWalkModel$Island", "tons", "[I", "StoneWalkModel") (List.mem_of_getElem? (i := 15) rfl)) rfl (t := 2) rfl (by show va_rf _ = _; rw [hN9]; rfl) dX13_at_121 ?_
                refine lv_aload_n hx hb dX13_at_124 rfl (lv_at hl 0 rfl) ?_
                refine r_get (T := TX13) (v := .int (gI Mg1 a0 17)) hx hb hts in13 hown hK hP k0 (by decide) rfl 17 (by decide) (hts (.fieldLink RX13 17 "StoneWalkModel" "moved" "I") (List.mem_of_getElem? (i := 2) (by decide +kernel))) rfl (t := 0) rfl rfl dX13_at_125 ?_
                obtain ⟨hn10, h⟩ := chk_some h
                refine r_iald hx hb hK hP kb9 hn10 dX13_at_128 ?_
                obtain ⟨z11, h11, h⟩ := ob_some h
                refine k_i (va_runV (As := [.int (gI Mg1 a0 18), .int (gI Mg1 b9 (ix (gI Mg1 a0 17)))]) (rest := [.ref (ad a0)]) ⟨hx, hb, hml, hown, hts⟩ (c_X13_woodOf (l := l) Mg1 a0 (gI Mg1 a0 18) (gI Mg1 b9 (ix (gI Mg1 a0 17))) k0 h11) (cwV 2 hts gX13_at_X13_woodOf rfl rfl rfl hdV_X13_woodOf ⟨Nat.le_of_ble_eq_true rfl, Nat.le_of_ble_eq_true rfl⟩) (pV (T := TX13) hP hK hD hT hG hS k0 (by decide) rfl) rfl rfl hl.1 rfl (lv_room (Nat.le_of_ble_eq_true rfl)) dX13_at_129 ⟨Nat.zero_le _, Nat.zero_le _⟩) hS (fun H locs hP hD hT hS => ?_)
                refine lv_aload_n hx hb dX13_at_132 rfl (lv_at hl 0 rfl) ?_
                refine r_get (T := TX13) (v := .int (gI Mg1 a0 22)) hx hb hts in13 hown hK hP k0 (by decide) rfl 22 (by decide) (hts (.fieldLink RX13 503 "StoneWalkModel" "slopesGone" "I") (List.mem_of_getElem? (i := 4) (by decide +kernel))) rfl (t := 0) rfl rfl dX13_at_133 ?_
                refine lv_aload_n hx hb dX13_at_136 rfl (lv_at hl 0 rfl) ?_
                refine r_get (T := TX13) (v := .int (gI Mg1 a0 21)) hx hb hts in13 hown hK hP k0 (by decide) rfl 21 (by decide) (hts (.fieldLink RX13 500 "StoneWalkModel" "told" "I") (List.mem_of_getElem? (i := 3) (by decide +kernel))) rfl (t := 0) rfl rfl dX13_at_137 ?_
                refine lv_iconst (v := 3) hx hb dX13_at_140 rfl ?_
                refine lv_icmp_ne (tgt := 148) hx hb dX13_at_141 rfl (fun c12 => ?_) (fun c12 => ?_)
                · replace h := ite_f c12 h
                  refine lv_iconst (v := 0) hx hb dX13_at_148 rfl ?_
                  refine lv_iadd hx hb dX13_at_149 ?_
                  refine lv_imul hx hb dX13_at_150 ?_
                  obtain ⟨z13, h13, h⟩ := ob_some h
                  refine k_i (va_runV (As := [.int (z11 * ((gI Mg1 a0 22) + 0))]) (rest := []) ⟨hx, hb, hml, hown, hts⟩ (c_X13_done (l := l) Mg1 a0 (z11 * ((gI Mg1 a0 22) + 0)) k0 h13) (cwV 1 hts gX13_at_X13_done rfl rfl rfl hdV_X13_done ⟨Nat.le_of_ble_eq_true rfl, Nat.le_of_ble_eq_true rfl⟩) (pV (T := TX13) hP hK hD hT hG hS k0 (by decide) rfl) rfl rfl hl.1 rfl (lv_room (Nat.le_of_ble_eq_true rfl)) dX13_at_151 ⟨Nat.zero_le _, Nat.zero_le _⟩) hS (fun H locs hP hD hT hS => ?_)
                  have hZ := Option.some.inj h
                  have hZ1 := congrArg Prod.fst hZ
                  have hZ2 := congrArg Prod.snd hZ
                  exact r_iret hx hb hr hlocks hP hK hD hT hG hS hZ1 hZ2 dX13_at_154
                · replace h := ite_t c12 h
                  refine lv_iconst (v := 1) hx hb dX13_at_144 rfl ?_
                  refine lv_goto (tgt := 149) hx hb dX13_at_145 rfl ?_
                  refine lv_iadd hx hb dX13_at_149 ?_
                  refine lv_imul hx hb dX13_at_150 ?_
                  obtain ⟨z14, h14, h⟩ := ob_some h
                  refine k_i (va_runV (As := [.int (z11 * ((gI Mg1 a0 22) + 1))]) (rest := []) ⟨hx, hb, hml, hown, hts⟩ (c_X13_done (l := l) Mg1 a0 (z11 * ((gI Mg1 a0 22) + 1)) k0 h14) (cwV 1 hts gX13_at_X13_done rfl rfl rfl hdV_X13_done ⟨Nat.le_of_ble_eq_true rfl, Nat.le_of_ble_eq_true rfl⟩) (pV (T := TX13) hP hK hD hT hG hS k0 (by decide) rfl) rfl rfl hl.1 rfl (lv_room (Nat.le_of_ble_eq_true rfl)) dX13_at_151 ⟨Nat.zero_le _, Nat.zero_le _⟩) hS (fun H locs hP hD hT hS => ?_)
                  have hZ := Option.some.inj h
                  have hZ1 := congrArg Prod.fst hZ
                  have hZ2 := congrArg Prod.snd hZ
                  exact r_iret hx hb hr hlocks hP hK hD hT hG hS hZ1 hZ2 dX13_at_154
            · replace h := ite_f c4_3 h
              by_cases c4_4 : x1 = 4
              · replace h := ite_t c4_4 h
                refine lv_tableIn (tgt := 155) (off := 118) hx hb dX13_at_37 (by rw [c4_4]; decide) (by rw [c4_4]; decide) (by rw [c4_4]; decide) rfl ?_
                refine lv_aload_n hx hb dX13_at_155 rfl (lv_at hl 0 rfl) ?_
                refine lv_aload_n hx hb dX13_at_156 rfl (lv_at hl 0 rfl) ?_
                refine r_get (T := TX13) (v := .int (gI Mg1 a0 24)) hx hb hts in13 hown hK hP k0 (by decide) rfl 24 (by decide) (hts (.fieldLink RX13 509 "StoneWalkModel" "liesNow" "I") (List.mem_of_getElem? (i := 8) (by decide +kernel))) rfl (t := 0) rfl rfl dX13_at_157 ?_
                obtain ⟨z15, h15, h⟩ := ob_some h
                refine k_i (va_runV (As := [.int (gI Mg1 a0 24)]) (rest := []) ⟨hx, hb, hml, hown, hts⟩ (c_X13_done (l := l) Mg1 a0 (gI Mg1 a0 24) k0 h15) (cwV 1 hts gX13_at_X13_done rfl rfl rfl hdV_X13_done ⟨Nat.le_of_ble_eq_true rfl, Nat.le_of_ble_eq_true rfl⟩) (pV (T := TX13) hP hK hD hT hG hS k0 (by decide) rfl) rfl rfl hl.1 rfl (lv_room (Nat.le_of_ble_eq_true rfl)) dX13_at_160 ⟨Nat.zero_le _, Nat.zero_le _⟩) hS (fun H locs hP hD hT hS => ?_)
                have hZ := Option.some.inj h
                have hZ1 := congrArg Prod.fst hZ
                have hZ2 := congrArg Prod.snd hZ
                exact r_iret hx hb hr hlocks hP hK hD hT hG hS hZ1 hZ2 dX13_at_163
              · replace h := ite_f c4_4 h
                by_cases c4_5 : x1 = 5
                · replace h := ite_t c4_5 h
                  refine lv_tableIn (tgt := 164) (off := 127) hx hb dX13_at_37 (by rw [c4_5]; decide) (by rw [c4_5]; decide) (by rw [c4_5]; decide) rfl ?_
                  refine lv_aload_n hx hb dX13_at_164 rfl (lv_at hl 0 rfl) ?_
                  refine lv_aload_n hx hb dX13_at_165 rfl (lv_at hl 0 rfl) ?_
                  refine r_get (T := TX13) (v := .int (gI Mg1 a0 17)) hx hb hts in13 hown hK hP k0 (by decide) rfl 17 (by decide) (hts (.fieldLink RX13 17 "StoneWalkModel" "moved" "I") (List.mem_of_getElem? (i := 2) (by decide +kernel))) rfl (t := 0) rfl rfl dX13_at_166 ?_
                  obtain ⟨z16, h16, h⟩ := ob_some h
                  refine k_i (va_runV (As := [.int (gI Mg1 a0 17)]) (rest := []) ⟨hx, hb, hml, hown, hts⟩ (c_X13_done (l := l) Mg1 a0 (gI Mg1 a0 17) k0 h16) (cwV 1 hts gX13_at_X13_done rfl rfl rfl hdV_X13_done ⟨Nat.le_of_ble_eq_true rfl, Nat.le_of_ble_eq_true rfl⟩) (pV (T := TX13) hP hK hD hT hG hS k0 (by decide) rfl) rfl rfl hl.1 rfl (lv_room (Nat.le_of_ble_eq_true rfl)) dX13_at_169 ⟨Nat.zero_le _, Nat.zero_le _⟩) hS (fun H locs hP hD hT hS => ?_)
                  have hZ := Option.some.inj h
                  have hZ1 := congrArg Prod.fst hZ
                  have hZ2 := congrArg Prod.snd hZ
                  exact r_iret hx hb hr hlocks hP hK hD hT hG hS hZ1 hZ2 dX13_at_172
                · replace h := ite_f c4_5 h
                  by_cases c4_6 : x1 = 6
                  · replace h := ite_t c4_6 h
                    refine lv_tableIn (tgt := 173) (off := 136) hx hb dX13_at_37 (by rw [c4_6]; decide) (by rw [c4_6]; decide) (by rw [c4_6]; decide) rfl ?_
                    refine lv_aload_n hx hb dX13_at_173 rfl (lv_at hl 0 rfl) ?_
                    refine lv_aload_n hx hb dX13_at_174 rfl (lv_at hl 0 rfl) ?_
                    refine r_get (T := TX13) (v := .int (gI Mg1 a0 18)) hx hb hts in13 hown hK hP k0 (by decide) rfl 18 (by decide) (hts (.fieldLink RX13 490 "StoneWalkModel" "movedBy" "I") (List.mem_of_getElem? (i := 6) (by decide +kernel))) rfl (t := 0) rfl rfl dX13_at_175 ?_
                    obtain ⟨z17, h17, h⟩ := ob_some h
                    refine k_i (va_runV (As := [.int (gI Mg1 a0 18)]) (rest := []) ⟨hx, hb, hml, hown, hts⟩ (c_X13_done (l := l) Mg1 a0 (gI Mg1 a0 18) k0 h17) (cwV 1 hts gX13_at_X13_done rfl rfl rfl hdV_X13_done ⟨Nat.le_of_ble_eq_true rfl, Nat.le_of_ble_eq_true rfl⟩) (pV (T := TX13) hP hK hD hT hG hS k0 (by decide) rfl) rfl rfl hl.1 rfl (lv_room (Nat.le_of_ble_eq_true rfl)) dX13_at_178 ⟨Nat.zero_le _, Nat.zero_le _⟩) hS (fun H locs hP hD hT hS => ?_)
                    have hZ := Option.some.inj h
                    have hZ1 := congrArg Prod.fst hZ
                    have hZ2 := congrArg Prod.snd hZ
                    exact r_iret hx hb hr hlocks hP hK hD hT hG hS hZ1 hZ2 dX13_at_181
                  · replace h := ite_f c4_6 h
                    by_cases c4_7 : x1 = 7
                    · replace h := ite_t c4_7 h
                      refine lv_tableIn (tgt := 182) (off := 145) hx hb dX13_at_37 (by rw [c4_7]; decide) (by rw [c4_7]; decide) (by rw [c4_7]; decide) rfl ?_
                      refine lv_aload_n hx hb dX13_at_182 rfl (lv_at hl 0 rfl) ?_
                      refine lv_aload_n hx hb dX13_at_183 rfl (lv_at hl 0 rfl) ?_
                      refine r_get (T := TX13) (v := .int (gI Mg1 a0 19)) hx hb hts in13 hown hK hP k0 (by decide) rfl 19 (by decide) (hts (.fieldLink RX13 493 "StoneWalkModel" "movedOn" "I") (List.mem_of_getElem? (i := 9) (by decide +kernel))) rfl (t := 0) rfl rfl dX13_at_184 ?_
                      obtain ⟨z18, h18, h⟩ := ob_some h
                      refine k_i (va_runV (As := [.int (gI Mg1 a0 19)]) (rest := []) ⟨hx, hb, hml, hown, hts⟩ (c_X13_done (l := l) Mg1 a0 (gI Mg1 a0 19) k0 h18) (cwV 1 hts gX13_at_X13_done rfl rfl rfl hdV_X13_done ⟨Nat.le_of_ble_eq_true rfl, Nat.le_of_ble_eq_true rfl⟩) (pV (T := TX13) hP hK hD hT hG hS k0 (by decide) rfl) rfl rfl hl.1 rfl (lv_room (Nat.le_of_ble_eq_true rfl)) dX13_at_187 ⟨Nat.zero_le _, Nat.zero_le _⟩) hS (fun H locs hP hD hT hS => ?_)
                      have hZ := Option.some.inj h
                      have hZ1 := congrArg Prod.fst hZ
                      have hZ2 := congrArg Prod.snd hZ
                      exact r_iret hx hb hr hlocks hP hK hD hT hG hS hZ1 hZ2 dX13_at_190
                    · replace h := ite_f c4_7 h
                      refine lv_tableOut (tgt := 191) hx hb dX13_at_37 (by
                          have e0 := lv_neT (a := 0) c4_0 rfl
                          have e1 := lv_neT (a := 1) c4_1 rfl
                          have e2 := lv_neT (a := 2) c4_2 rfl
                          have e3 := lv_neT (a := 3) c4_3 rfl
                          have e4 := lv_neT (a := 4) c4_4 rfl
                          have e5 := lv_neT (a := 5) c4_5 rfl
                          have e6 := lv_neT (a := 6) c4_6 rfl
                          have e7 := lv_neT (a := 7) c4_7 rfl
                          omega) rfl ?_
                      refine lv_aload_n hx hb dX13_at_191 rfl (lv_at hl 0 rfl) ?_
                      refine lv_aload_n hx hb dX13_at_192 rfl (lv_at hl 0 rfl) ?_
                      refine r_get (T := TX13) (v := .int (gI Mg1 a0 20)) hx hb hts in13 hown hK hP k0 (by decide) rfl 20 (by decide) (hts (.fieldLink RX13 496 "StoneWalkModel" "people" "I") (List.mem_of_getElem? (i := 10) (by decide +kernel))) rfl (t := 0) rfl rfl dX13_at_193 ?_
                      obtain ⟨z19, h19, h⟩ := ob_some h
                      refine k_i (va_runV (As := [.int (gI Mg1 a0 20)]) (rest := []) ⟨hx, hb, hml, hown, hts⟩ (c_X13_done (l := l) Mg1 a0 (gI Mg1 a0 20) k0 h19) (cwV 1 hts gX13_at_X13_done rfl rfl rfl hdV_X13_done ⟨Nat.le_of_ble_eq_true rfl, Nat.le_of_ble_eq_true rfl⟩) (pV (T := TX13) hP hK hD hT hG hS k0 (by decide) rfl) rfl rfl hl.1 rfl (lv_room (Nat.le_of_ble_eq_true rfl)) dX13_at_196 ⟨Nat.zero_le _, Nat.zero_le _⟩) hS (fun H locs hP hD hT hS => ?_)
                      have hZ := Option.some.inj h
                      have hZ1 := congrArg Prod.fst hZ
                      have hZ2 := congrArg Prod.snd hZ
                      exact r_iret hx hb hr hlocks hP hK hD hT hG hS hZ1 hZ2 dX13_at_199
    · replace h := ite_t c3 h
      refine lv_aload_n hx hb dX13_at_29 rfl (lv_at hl 0 rfl) ?_
      refine lv_bipush (v := 6) hx hb dX13_at_30 rfl ?_
      obtain ⟨z20, h20, h⟩ := ob_some h
      refine k_i (va_runV (As := [.int 6]) (rest := []) ⟨hx, hb, hml, hown, hts⟩ (c_X13_refused (l := l) Mg1 a0 6 k0 h20) (cwV 1 hts gX13_at_X13_refused rfl rfl rfl hdV_X13_refused ⟨Nat.le_of_ble_eq_true rfl, Nat.le_of_ble_eq_true rfl⟩) (pV (T := TX13) hP hK hD hT hG hS k0 (by decide) rfl) rfl rfl hl.1 rfl (lv_room (Nat.le_of_ble_eq_true rfl)) dX13_at_32 ⟨Nat.zero_le _, Nat.zero_le _⟩) hS (fun H locs hP hD hT hS => ?_)
      have hZ := Option.some.inj h
      have hZ1 := congrArg Prod.fst hZ
      have hZ2 := congrArg Prod.snd hZ
      exact r_iret hx hb hr hlocks hP hK hD hT hG hS hZ1 hZ2 dX13_at_35
  · replace h := ite_t c2 h
    refine lv_aload_n hx hb dX13_at_15 rfl (lv_at hl 0 rfl) ?_
    refine lv_iconst (v := 1) hx hb dX13_at_16 rfl ?_
    obtain ⟨z21, h21, h⟩ := ob_some h
    refine k_i (va_runV (As := [.int 1]) (rest := []) ⟨hx, hb, hml, hown, hts⟩ (c_X13_refused (l := l) Mg1 a0 1 k0 h21) (cwV 1 hts gX13_at_X13_refused rfl rfl rfl hdV_X13_refused ⟨Nat.le_of_ble_eq_true rfl, Nat.le_of_ble_eq_true rfl⟩) (pV (T := TX13) hP hK hD hT hG hS k0 (by decide) rfl) rfl rfl hl.1 rfl (lv_room (Nat.le_of_ble_eq_true rfl)) dX13_at_17 ⟨Nat.zero_le _, Nat.zero_le _⟩) hS (fun H locs hP hD hT hS => ?_)
    have hZ := Option.some.inj h
    have hZ1 := congrArg Prod.fst hZ
    have hZ2 := congrArg Prod.snd hZ
    exact r_iret hx hb hr hlocks hP hK hD hT hG hS hZ1 hZ2 dX13_at_20
set_option maxHeartbeats 4000000 in
set_option maxRecDepth 100000 in
theorem c_X13_tries {l : Launch} {D : va_G} {ad : Nat → Nat} {cy : Nat → ClassId} {A : Nat → Prop} {g : CG} {q : SE} (M : MM) (a0 : Nat) (x1 : Int32) (k0 : ok g a0 13 0) {Z : (Int32 × MM)} (h : f_X13_tries M a0 x1 = some Z) : Met l yX13_tries wsX13_tries ({ frames := 4, cells := 0, slots := 0, locals := 94 }) (va_Pc [.ref (ad a0), .int x1] (Wd D ad cy A g q M)) (va_Qi (fun r u => r = Z.1 ∧ u = Z.2) (Wd D ad cy A g q) A) 0 0 A := by
  refine Met.ofW (cc := cX13_tries) (maxL := 8) (ret := (some .int)) (by decide) rfl ?_
  intro p e s m args below meth c s₁ B hml hv
  obtain ⟨rfl, hP, hK, hD, hT, hG⟩ := hv
  have hx := B.exec
  have hb := B.bytes
  have hr := B.returns
  have hts := atoms_spec (ws := wsX13_tries) B.pre
  have hown : s.vm.findClass RX13 = some m.cls := findClass_of_methodNamed B.named
  have hlocks := B.notSynchronized
  have in13 : ∀ w ∈ u_ws RX13 TX13 29, w ∈ wsX13_tries := fun w h => List.mem_cons_of_mem _ (List.mem_append_left _ (List.mem_append_right _ h))
  have hS : va_S A s.heap s.heap [] := va_S.rf
  have hl := lv_entry ([.ref (ad a0), .int x1]) (n := 8) (Nat.le_of_ble_eq_true rfl)
  rw [lg_entry_eq]
  generalize (lg_sl ([.ref (ad a0), .int x1]) ++ List.replicate (8 - (lg_sl ([.ref (ad a0), .int x1])).length) Slot.unset).toArray = ls at hl ⊢
  have hl : lv_has ls 8 [(0, .ref (ad a0)), (1, .int x1)] := hl
  unfold f_X13_tries at h
  refine lv_aload_n hx hb dX13_tries_0 rfl (lv_at hl 0 rfl) ?_
  refine lv_iconst (v := 0) hx hb dX13_tries_1 rfl ?_
  refine r_putI (T := TX13) (ty := .int) (v := 0) hx hb hts in13 tyX13 tyX13_ok nmX13 hown hK hP hD hT hS k0 (by decide) rfl 0 (by decide) (hts (.fieldLink RX13 30 "StoneWalkModel" "thrown" "I") (List.mem_of_getElem? (i := 1) (by decide +kernel))) rfl rfl (tyX13_ok 0 (by decide)) rfl rfl rfl dX13_tries_2 (fun H locs hP hD hT hS => ?_)
  generalize pI M a0 0 0 = Mg1 at h hP hD hT ⊢
  refine lv_aload_n hx hb dX13_tries_5 rfl (lv_at hl 0 rfl) ?_
  refine r_get (T := TX13) (v := .int (gI Mg1 a0 17)) hx hb hts in13 hown hK hP k0 (by decide) rfl 17 (by decide) (hts (.fieldLink RX13 17 "StoneWalkModel" "moved" "I") (List.mem_of_getElem? (i := 2) (by decide +kernel))) rfl (t := 0) rfl rfl dX13_tries_6 ?_
  refine lv_iconst (v := (-1)) hx hb dX13_tries_9 rfl ?_
  refine lv_icmp_ne (tgt := 20) hx hb dX13_tries_10 rfl (fun c1 => ?_) (fun c1 => ?_)
  · replace h := ite_f c1 h
    refine lv_iload_n hx hb dX13_tries_20 rfl (lv_at hl 1 rfl) ?_
    refine lv_iconst (v := 1) hx hb dX13_tries_21 rfl ?_
    refine lv_bipush (v := 100) hx hb dX13_tries_22 rfl ?_
    obtain ⟨z2, h2, h⟩ := ob_some h
    refine k_z (va_runS (As := [.int x1, .int 1, .int 100]) (rest := []) ⟨hx, hb, hml, hown, hts⟩ (c_X13_in (l := l) Mg1 x1 1 100 h2) (va_cwS 3 hts gX13_tries_X13_in rfl rfl rfl hdS_X13_in ⟨Nat.le_of_ble_eq_true rfl, Nat.le_of_ble_eq_true rfl⟩) (pS hP hK hD hT hG hS) rfl rfl hl.1 rfl (lv_room (Nat.le_of_ble_eq_true rfl)) dX13_tries_24 ⟨Nat.zero_le _, Nat.zero_le _⟩) hS (fun H locs hz2 hP hD hT hS => ?_)
    refine lv_if_ne (tgt := 36) hx hb dX13_tries_27 rfl (fun c3 => ?_) (fun c3 => ?_)
    · replace h := ite_f c3 h
      refine lv_aload_n hx hb dX13_tries_36 rfl (lv_at hl 0 rfl) ?_
      refine r_get (T := TX13) (v := .int (gI Mg1 a0 21)) hx hb hts in13 hown hK hP k0 (by decide) rfl 21 (by decide) (hts (.fieldLink RX13 500 "StoneWalkModel" "told" "I") (List.mem_of_getElem? (i := 3) (by decide +kernel))) rfl (t := 0) rfl rfl dX13_tries_37 ?_
      refine lv_istore_n (lv' := [(2, .int (gI Mg1 a0 21)), (0, .ref (ad a0)), (1, .int x1)]) hx hb dX13_tries_40 rfl hl (by decide) rfl (fun ls hl => ?_)
      refine lv_aload_n hx hb dX13_tries_41 rfl (lv_at hl 1 rfl) ?_
      refine r_get (T := TX13) (v := .int (gI Mg1 a0 22)) hx hb hts in13 hown hK hP k0 (by decide) rfl 22 (by decide) (hts (.fieldLink RX13 503 "StoneWalkModel" "slopesGone" "I") (List.mem_of_getElem? (i := 4) (by decide +kernel))) rfl (t := 0) rfl rfl dX13_tries_42 ?_
      refine lv_istore_n (lv' := [(3, .int (gI Mg1 a0 22)), (2, .int (gI Mg1 a0 21)), (0, .ref (ad a0)), (1, .int x1)]) hx hb dX13_tries_45 rfl hl (by decide) rfl (fun ls hl => ?_)
      refine lv_aload_n hx hb dX13_tries_46 rfl (lv_at hl 2 rfl) ?_
      refine r_get (T := TX13) (v := .int (gI Mg1 a0 23)) hx hb hts in13 hown hK hP k0 (by decide) rfl 23 (by decide) (hts (.fieldLink RX13 506 "StoneWalkModel" "minutesGone" "I") (List.mem_of_getElem? (i := 5) (by decide +kernel))) rfl (t := 0) rfl rfl dX13_tries_47 ?_
      refine lv_istore (lv' := [(4, .int (gI Mg1 a0 23)), (3, .int (gI Mg1 a0 22)), (2, .int (gI Mg1 a0 21)), (0, .ref (ad a0)), (1, .int x1)]) hx hb dX13_tries_50 hl (by decide) rfl (fun ls hl => ?_)
      refine lv_aload_n hx hb dX13_tries_52 rfl (lv_at hl 3 rfl) ?_
      refine r_get (T := TX13) (v := .int (gI Mg1 a0 24)) hx hb hts in13 hown hK hP k0 (by decide) rfl 24 (by decide) (hts (.fieldLink RX13 509 "StoneWalkModel" "liesNow" "I") (List.mem_of_getElem? (i := 6) (by decide +kernel))) rfl (t := 0) rfl rfl dX13_tries_53 ?_
      refine lv_istore (lv' := [(5, .int (gI Mg1 a0 24)), (4, .int (gI Mg1 a0 23)), (3, .int (gI Mg1 a0 22)), (2, .int (gI Mg1 a0 21)), (0, .ref (ad a0)), (1, .int x1)]) hx hb dX13_tries_56 hl (by decide) rfl (fun ls hl => ?_)
      refine lv_iconst (v := 0) hx hb dX13_tries_58 rfl ?_
      refine lv_istore (lv' := [(6, .int 0), (5, .int (gI Mg1 a0 24)), (4, .int (gI Mg1 a0 23)), (3, .int (gI Mg1 a0 22)), (2, .int (gI Mg1 a0 21)), (0, .ref (ad a0)), (1, .int x1)]) hx hb dX13_tries_59 hl (by decide) rfl (fun ls hl => ?_)
      refine lv_iconst (v := 0) hx hb dX13_tries_61 rfl ?_
      refine lv_istore (lv' := [(7, .int 0), (6, .int 0), (5, .int (gI Mg1 a0 24)), (4, .int (gI Mg1 a0 23)), (3, .int (gI Mg1 a0 22)), (2, .int (gI Mg1 a0 21)), (0, .ref (ad a0)), (1, .int x1)]) hx hb dX13_tries_62 hl (by decide) rfl (fun ls hl => ?_)
      have L4 : ∀ n4 : Nat, ∀ (M4 : MM) (y4_0 : Nat) (y4_1 : Int32) (y4_2 : Int32) (y4_3 : Int32) (y4_4 : Int32) (y4_5 : Int32) (y4_6 : Int32) (y4_7 : Int32) (ky4_0 : ok g y4_0 13 0) (H : Heap) (locs : List Loc), f_X13_tries_L64 n4 M4 y4_0 y4_1 y4_2 y4_3 y4_4 y4_5 y4_6 y4_7 = some Z → va_P D vwCl (wd ad cy g M4) H → va_D A (wd ad cy g M4) → WT g M4 → va_S A s.heap H locs → ∀ (ls : Array Slot), lv_has ls 8 [(0, .ref (ad y4_0)), (1, .int y4_1), (2, .int y4_2), (3, .int y4_3), (4, .int y4_4), (5, .int y4_5), (6, .int y4_6), (7, .int y4_7)] → W p l e ((headSpec wsX13_tries ({ frames := 4, cells := 0, slots := 0, locals := 94 })).room) s m (([.ref (ad a0), .int x1] : List Value).toArray) below meth c H locs 0 0 (MQ below (va_Qi (fun r u => r = Z.1 ∧ u = Z.2) (Wd D ad cy A g q) A) ([.ref (ad a0), .int x1]).toArray s 0 0 A) (F0 m 64 ls []) := by
        intro n4
        induction n4 with
        | zero => intro M4 y4_0 y4_1 y4_2 y4_3 y4_4 y4_5 y4_6 y4_7 ky4_0 H locs h; exact absurd h (by simp [f_X13_tries_L64])
        | succ n4 ih4 =>
          intro M4 y4_0 y4_1 y4_2 y4_3 y4_4 y4_5 y4_6 y4_7 ky4_0 H locs h hP hD hT hS ls hl
          rw [f_X13_tries_L64] at h
          refine lv_iload hx hb dX13_tries_64 (lv_at hl 7 rfl) ?_
          refine lv_iload_n hx hb dX13_tries_66 rfl (lv_at hl 1 rfl) ?_
          refine lv_icmp_ge (tgt := 117) hx hb dX13_tries_67 rfl (fun c5 => ?_) (fun c5 => ?_)
          · replace h := ite_t c5 h
            refine lv_aload_n hx hb dX13_tries_117 rfl (lv_at hl 0 rfl) ?_
            refine lv_iload_n hx hb dX13_tries_118 rfl (lv_at hl 2 rfl) ?_
            refine r_putI (T := TX13) (ty := .int) (v := y4_2) hx hb hts in13 tyX13 tyX13_ok nmX13 hown hK hP hD hT hS ky4_0 (by decide) rfl 21 (by decide) (hts (.fieldLink RX13 500 "StoneWalkModel" "told" "I") (List.mem_of_getElem? (i := 3) (by decide +kernel))) rfl rfl (tyX13_ok 21 (by decide)) rfl rfl rfl dX13_tries_119 (fun H locs hP hD hT hS => ?_)
            generalize pI M4 y4_0 21 y4_2 = Mg2 at h hP hD hT ⊢
            refine lv_aload_n hx hb dX13_tries_122 rfl (lv_at hl 0 rfl) ?_
            refine lv_iload_n hx hb dX13_tries_123 rfl (lv_at hl 3 rfl) ?_
            refine r_putI (T := TX13) (ty := .int) (v := y4_3) hx hb hts in13 tyX13 tyX13_ok nmX13 hown hK hP hD hT hS ky4_0 (by decide) rfl 22 (by decide) (hts (.fieldLink RX13 503 "StoneWalkModel" "slopesGone" "I") (List.mem_of_getElem? (i := 4) (by decide +kernel))) rfl rfl (tyX13_ok 22 (by decide)) rfl rfl rfl dX13_tries_124 (fun H locs hP hD hT hS => ?_)
            generalize pI Mg2 y4_0 22 y4_3 = Mg3 at h hP hD hT ⊢
            refine lv_aload_n hx hb dX13_tries_127 rfl (lv_at hl 0 rfl) ?_
            refine lv_iload hx hb dX13_tries_128 (lv_at hl 4 rfl) ?_
            refine r_putI (T := TX13) (ty := .int) (v := y4_4) hx hb hts in13 tyX13 tyX13_ok nmX13 hown hK hP hD hT hS ky4_0 (by decide) rfl 23 (by decide) (hts (.fieldLink RX13 506 "StoneWalkModel" "minutesGone" "I") (List.mem_of_getElem? (i := 5) (by decide +kernel))) rfl rfl (tyX13_ok 23 (by decide)) rfl rfl rfl dX13_tries_130 (fun H locs hP hD hT hS => ?_)
            generalize pI Mg3 y4_0 23 y4_4 = Mg4 at h hP hD hT ⊢
            refine lv_aload_n hx hb dX13_tries_133 rfl (lv_at hl 0 rfl) ?_
            refine lv_iload hx hb dX13_tries_134 (lv_at hl 5 rfl) ?_
            refine r_putI (T := TX13) (ty := .int) (v := y4_5) hx hb hts in13 tyX13 tyX13_ok nmX13 hown hK hP hD hT hS ky4_0 (by decide) rfl 24 (by decide) (hts (.fieldLink RX13 509 "StoneWalkModel" "liesNow" "I") (List.mem_of_getElem? (i := 6) (by decide +kernel))) rfl rfl (tyX13_ok 24 (by decide)) rfl rfl rfl dX13_tries_136 (fun H locs hP hD hT hS => ?_)
            generalize pI Mg4 y4_0 24 y4_5 = Mg5 at h hP hD hT ⊢
            refine lv_aload_n hx hb dX13_tries_139 rfl (lv_at hl 0 rfl) ?_
            refine lv_iload hx hb dX13_tries_140 (lv_at hl 6 rfl) ?_
            obtain ⟨z6, h6, h⟩ := ob_some h
            refine k_i (va_runV (As := [.int y4_6]) (rest := []) ⟨hx, hb, hml, hown, hts⟩ (c_X13_done (l := l) Mg5 y4_0 y4_6 ky4_0 h6) (cwV 1 hts gX13_tries_X13_done rfl rfl rfl hdV_X13_done ⟨Nat.le_of_ble_eq_true rfl, Nat.le_of_ble_eq_true rfl⟩) (pV (T := TX13) hP hK hD hT hG hS ky4_0 (by decide) rfl) rfl rfl hl.1 rfl (lv_room (Nat.le_of_ble_eq_true rfl)) dX13_tries_142 ⟨Nat.zero_le _, Nat.zero_le _⟩) hS (fun H locs hP hD hT hS => ?_)
            have hZ := Option.some.inj h
            have hZ1 := congrArg Prod.fst hZ
            have hZ2 := congrArg Prod.snd hZ
            exact r_iret hx hb hr hlocks hP hK hD hT hG hS hZ1 hZ2 dX13_tries_145
          · replace h := ite_f c5 h
            refine lv_aload_n hx hb dX13_tries_70 rfl (lv_at hl 0 rfl) ?_
            obtain ⟨z7, h7, h⟩ := ob_some h
            refine k_v (va_runV (As := []) (rest := []) ⟨hx, hb, hml, hown, hts⟩ (c_X13_startsAnew (l := l) M4 y4_0 ky4_0 h7) (cwV 0 hts gX13_tries_X13_startsAnew rfl rfl rfl hdV_X13_startsAnew ⟨Nat.le_of_ble_eq_true rfl, Nat.le_of_ble_eq_true rfl⟩) (pV (T := TX13) hP hK hD hT hG hS ky4_0 (by decide) rfl) rfl rfl hl.1 rfl (lv_room (Nat.le_of_ble_eq_true rfl)) dX13_tries_71 ⟨Nat.zero_le _, Nat.zero_le _⟩) hS (fun H locs hP hD hT hS => ?_)
            have L8 : ∀ n8 : Nat, ∀ (M8 : MM) (y8_0 : Nat) (y8_1 : Int32) (y8_2 : Int32) (y8_3 : Int32) (y8_4 : Int32) (y8_5 : Int32) (y8_6 : Int32) (y8_7 : Int32) (ky8_0 : ok g y8_0 13 0) (H : Heap) (locs : List Loc), f_X13_tries_L74 (fun M y4_0 y4_1 y4_2 y4_3 y4_4 y4_5 y4_6 y4_7 => f_X13_tries_L64 n4 M y4_0 y4_1 y4_2 y4_3 y4_4 y4_5 y4_6 y4_7) n8 M8 y8_0 y8_1 y8_2 y8_3 y8_4 y8_5 y8_6 y8_7 = some Z → va_P D vwCl (wd ad cy g M8) H → va_D A (wd ad cy g M8) → WT g M8 → va_S A s.heap H locs → ∀ (ls : Array Slot), lv_has ls 8 [(0, .ref (ad y8_0)), (1, .int y8_1), (2, .int y8_2), (3, .int y8_3), (4, .int y8_4), (5, .int y8_5), (6, .int y8_6), (7, .int y8_7)] → W p l e ((headSpec wsX13_tries ({ frames := 4, cells := 0, slots := 0, locals := 94 })).room) s m (([.ref (ad a0), .int x1] : List Value).toArray) below meth c H locs 0 0 (MQ below (va_Qi (fun r u => r = Z.1 ∧ u = Z.2) (Wd D ad cy A g q) A) ([.ref (ad a0), .int x1]).toArray s 0 0 A) (F0 m 74 ls []) := by
              intro n8
              induction n8 with
              | zero => intro M8 y8_0 y8_1 y8_2 y8_3 y8_4 y8_5 y8_6 y8_7 ky8_0 H locs h; exact absurd h (by simp [f_X13_tries_L74])
              | succ n8 ih8 =>
                intro M8 y8_0 y8_1 y8_2 y8_3 y8_4 y8_5 y8_6 y8_7 ky8_0 H locs h hP hD hT hS ls hl
                rw [f_X13_tries_L74] at h
                refine lv_aload_n hx hb dX13_tries_74 rfl (lv_at hl 0 rfl) ?_
                refine r_get (T := TX13) (v := .int (gI M8 y8_0 21)) hx hb hts in13 hown hK hP ky8_0 (by decide) rfl 21 (by decide) (hts (.fieldLink RX13 500 "StoneWalkModel" "told" "I") (List.mem_of_getElem? (i := 3) (by decide +kernel))) rfl (t := 0) rfl rfl dX13_tries_75 ?_
                refine lv_iconst (v := 1) hx hb dX13_tries_78 rfl ?_
                refine lv_icmp_ne (tgt := 93) hx hb dX13_tries_79 rfl (fun c9 => ?_) (fun c9 => ?_)
                · replace h := ite_f c9 h
                  refine lv_iload hx hb dX13_tries_93 (lv_at hl 6 rfl) ?_
                  refine lv_aload_n hx hb dX13_tries_95 rfl (lv_at hl 0 rfl) ?_
                  refine r_get (T := TX13) (v := .int (gI M8 y8_0 21)) hx hb hts in13 hown hK hP ky8_0 (by decide) rfl 21 (by decide) (hts (.fieldLink RX13 500 "StoneWalkModel" "told" "I") (List.mem_of_getElem? (i := 3) (by decide +kernel))) rfl (t := 0) rfl rfl dX13_tries_96 ?_
                  refine lv_iconst (v := 2) hx hb dX13_tries_99 rfl ?_
                  refine lv_icmp_ne (tgt := 107) hx hb dX13_tries_100 rfl (fun c10 => ?_) (fun c10 => ?_)
                  · replace h := ite_f c10 h
                    refine lv_iconst (v := 0) hx hb dX13_tries_107 rfl ?_
                    refine lv_iadd hx hb dX13_tries_108 ?_
                    refine lv_istore (lv' := [(6, .int (y8_6 + 0)), (0, .ref (ad y8_0)), (1, .int y8_1), (2, .int y8_2), (3, .int y8_3), (4, .int y8_4), (5, .int y8_5), (7, .int y8_7)]) hx hb dX13_tries_109 hl (by decide) rfl (fun ls hl => ?_)
                    refine lv_iinc (v := y8_7 + 1) (lv' := [(7, .int (y8_7 + 1)), (6, .int (y8_6 + 0)), (0, .ref (ad y8_0)), (1, .int y8_1), (2, .int y8_2), (3, .int y8_3), (4, .int y8_4), (5, .int y8_5)]) hx hb dX13_tries_111 hl (k := 7) rfl rfl (by decide) rfl (fun ls hl => ?_)
                    refine lv_goto (tgt := 64) hx hb dX13_tries_114 rfl ?_
                    exact ih4 M8 y8_0 y8_1 y8_2 y8_3 y8_4 y8_5 (y8_6 + 0) (y8_7 + 1) ky8_0 _ _ h hP hD hT hS ls (lv_sub hl [2, 3, 4, 5, 6, 7, 1, 0] rfl)
                  · replace h := ite_t c10 h
                    refine lv_iconst (v := 1) hx hb dX13_tries_103 rfl ?_
                    refine lv_goto (tgt := 108) hx hb dX13_tries_104 rfl ?_
                    refine lv_iadd hx hb dX13_tries_108 ?_
                    refine lv_istore (lv' := [(6, .int (y8_6 + 1)), (0, .ref (ad y8_0)), (1, .int y8_1), (2, .int y8_2), (3, .int y8_3), (4, .int y8_4), (5, .int y8_5), (7, .int y8_7)]) hx hb dX13_tries_109 hl (by decide) rfl (fun ls hl => ?_)
                    refine lv_iinc (v := y8_7 + 1) (lv' := [(7, .int (y8_7 + 1)), (6, .int (y8_6 + 1)), (0, .ref (ad y8_0)), (1, .int y8_1), (2, .int y8_2), (3, .int y8_3), (4, .int y8_4), (5, .int y8_5)]) hx hb dX13_tries_111 hl (k := 7) rfl rfl (by decide) rfl (fun ls hl => ?_)
                    refine lv_goto (tgt := 64) hx hb dX13_tries_114 rfl ?_
                    exact ih4 M8 y8_0 y8_1 y8_2 y8_3 y8_4 y8_5 (y8_6 + 1) (y8_7 + 1) ky8_0 _ _ h hP hD hT hS ls (lv_sub hl [2, 3, 4, 5, 6, 7, 1, 0] rfl)
                · replace h := ite_t c9 h
                  refine lv_aload_n hx hb dX13_tries_82 rfl (lv_at hl 0 rfl) ?_
                  refine lv_aload_n hx hb dX13_tries_83 rfl (lv_at hl 0 rfl) ?_
                  obtain ⟨z11, h11, h⟩ := ob_some h
                  refine k_i (va_runV (As := []) (rest := [.ref (ad y8_0)]) ⟨hx, hb, hml, hown, hts⟩ (c_X13_steps (l := l) M8 y8_0 ky8_0 h11) (cwV 0 hts gX13_tries_X13_steps rfl rfl rfl hdV_X13_steps ⟨Nat.le_of_ble_eq_true rfl, Nat.le_of_ble_eq_true rfl⟩) (pV (T := TX13) hP hK hD hT hG hS ky8_0 (by decide) rfl) rfl rfl hl.1 rfl (lv_room (Nat.le_of_ble_eq_true rfl)) dX13_tries_84 ⟨Nat.zero_le _, Nat.zero_le _⟩) hS (fun H locs hP hD hT hS => ?_)
                  refine r_putI (T := TX13) (ty := .int) (v := z11.1) hx hb hts in13 tyX13 tyX13_ok nmX13 hown hK hP hD hT hS ky8_0 (by decide) rfl 21 (by decide) (hts (.fieldLink RX13 500 "StoneWalkModel" "told" "I") (List.mem_of_getElem? (i := 3) (by decide +kernel))) rfl rfl (tyX13_ok 21 (by decide)) rfl rfl rfl dX13_tries_87 (fun H locs hP hD hT hS => ?_)
                  generalize pI z11.2 y8_0 21 z11.1 = Mg6 at h hP hD hT ⊢
                  refine lv_goto (tgt := 74) hx hb dX13_tries_90 rfl ?_
                  exact ih8 Mg6 y8_0 y8_1 y8_2 y8_3 y8_4 y8_5 y8_6 y8_7 ky8_0 _ _ h hP hD hT hS ls (lv_sub hl [0, 1, 2, 3, 4, 5, 6, 7] rfl)
            exact L8 FU z7 y4_0 y4_1 y4_2 y4_3 y4_4 y4_5 y4_6 y4_7 ky4_0 _ _ h hP hD hT hS ls (lv_sub hl [0, 1, 2, 3, 4, 5, 6, 7] rfl)
      exact L4 FU Mg1 a0 x1 (gI Mg1 a0 21) (gI Mg1 a0 22) (gI Mg1 a0 23) (gI Mg1 a0 24) 0 0 k0 _ _ h hP hD hT hS ls (lv_sub hl [6, 7, 5, 4, 3, 2, 1, 0] rfl)
    · replace h := ite_t c3 h
      refine lv_aload_n hx hb dX13_tries_30 rfl (lv_at hl 0 rfl) ?_
      refine lv_iconst (v := 2) hx hb dX13_tries_31 rfl ?_
      obtain ⟨z12, h12, h⟩ := ob_some h
      refine k_i (va_runV (As := [.int 2]) (rest := []) ⟨hx, hb, hml, hown, hts⟩ (c_X13_refused (l := l) Mg1 a0 2 k0 h12) (cwV 1 hts gX13_tries_X13_refused rfl rfl rfl hdV_X13_refused ⟨Nat.le_of_ble_eq_true rfl, Nat.le_of_ble_eq_true rfl⟩) (pV (T := TX13) hP hK hD hT hG hS k0 (by decide) rfl) rfl rfl hl.1 rfl (lv_room (Nat.le_of_ble_eq_true rfl)) dX13_tries_32 ⟨Nat.zero_le _, Nat.zero_le _⟩) hS (fun H locs hP hD hT hS => ?_)
      have hZ := Option.some.inj h
      have hZ1 := congrArg Prod.fst hZ
      have hZ2 := congrArg Prod.snd hZ
      exact r_iret hx hb hr hlocks hP hK hD hT hG hS hZ1 hZ2 dX13_tries_35
  · replace h := ite_t c1 h
    refine lv_aload_n hx hb dX13_tries_13 rfl (lv_at hl 0 rfl) ?_
    refine lv_bipush (v := 6) hx hb dX13_tries_14 rfl ?_
    obtain ⟨z13, h13, h⟩ := ob_some h
    refine k_i (va_runV (As := [.int 6]) (rest := []) ⟨hx, hb, hml, hown, hts⟩ (c_X13_refused (l := l) Mg1 a0 6 k0 h13) (cwV 1 hts gX13_tries_X13_refused rfl rfl rfl hdV_X13_refused ⟨Nat.le_of_ble_eq_true rfl, Nat.le_of_ble_eq_true rfl⟩) (pV (T := TX13) hP hK hD hT hG hS k0 (by decide) rfl) rfl rfl hl.1 rfl (lv_room (Nat.le_of_ble_eq_true rfl)) dX13_tries_16 ⟨Nat.zero_le _, Nat.zero_le _⟩) hS (fun H locs hP hD hT hS => ?_)
    have hZ := Option.some.inj h
    have hZ1 := congrArg Prod.fst hZ
    have hZ2 := congrArg Prod.snd hZ
    exact r_iret hx hb hr hlocks hP hK hD hT hG hS hZ1 hZ2 dX13_tries_19
set_option maxHeartbeats 4000000 in
set_option maxRecDepth 100000 in
theorem c_X13_image {l : Launch} {D : va_G} {ad : Nat → Nat} {cy : Nat → ClassId} {A : Nat → Prop} {g : CG} {q : SE} (M : MM) (a0 : Nat) (k0 : ok g a0 13 0) {Z : (Int64 × MM)} (h : f_X13_image M a0 = some Z) : Met l yX13_image wsX13_image ({ frames := 1, cells := 0, slots := 0, locals := 21 }) (va_Pc [.ref (ad a0)] (Wd D ad cy A g q M)) (va_Ql (fun r u => r = Z.1 ∧ u = Z.2) (Wd D ad cy A g q) A) 0 0 A := by
  refine Met.ofW (cc := cX13_image) (maxL := 3) (ret := (some .long)) (by decide) rfl ?_
  intro p e s m args below meth c s₁ B hml hv
  obtain ⟨rfl, hP, hK, hD, hT, hG⟩ := hv
  have hx := B.exec
  have hb := B.bytes
  have hr := B.returns
  have hts := atoms_spec (ws := wsX13_image) B.pre
  have hown : s.vm.findClass RX13 = some m.cls := findClass_of_methodNamed B.named
  have hlocks := B.notSynchronized
  have in13 : ∀ w ∈ u_ws RX13 TX13 29, w ∈ wsX13_image := fun w h => List.mem_cons_of_mem _ (List.mem_append_right _ h)
  have hS : va_S A s.heap s.heap [] := va_S.rf
  have hl := lv_entry ([.ref (ad a0)]) (n := 3) (Nat.le_of_ble_eq_true rfl)
  rw [lg_entry_eq]
  generalize (lg_sl ([.ref (ad a0)]) ++ List.replicate (3 - (lg_sl ([.ref (ad a0)])).length) Slot.unset).toArray = ls at hl ⊢
  have hl : lv_has ls 3 [(0, .ref (ad a0))] := hl
  unfold f_X13_image at h
  refine lv_aload_n hx hb dX13_image_0 rfl (lv_at hl 0 rfl) ?_
  refine lv_iconst (v := 0) hx hb dX13_image_1 rfl ?_
  refine r_putI (T := TX13) (ty := .int) (v := 0) hx hb hts in13 tyX13 tyX13_ok nmX13 hown hK hP hD hT hS k0 (by decide) rfl 0 (by decide) (hts (.fieldLink RX13 30 "StoneWalkModel" "thrown" "I") (List.mem_of_getElem? (i := 1) (by decide +kernel))) rfl rfl (tyX13_ok 0 (by decide)) rfl rfl rfl dX13_image_2 (fun H locs hP hD hT hS => ?_)
  generalize pI M a0 0 0 = Mg1 at h hP hD hT ⊢
  refine lv_aload_n hx hb dX13_image_5 rfl (lv_at hl 0 rfl) ?_
  refine r_get (T := TX13) (v := .int (gI Mg1 a0 17)) hx hb hts in13 hown hK hP k0 (by decide) rfl 17 (by decide) (hts (.fieldLink RX13 17 "StoneWalkModel" "moved" "I") (List.mem_of_getElem? (i := 2) (by decide +kernel))) rfl (t := 0) rfl rfl dX13_image_6 ?_
  refine lv_iconst (v := (-1)) hx hb dX13_image_9 rfl ?_
  refine lv_icmp_ne (tgt := 21) hx hb dX13_image_10 rfl (fun c1 => ?_) (fun c1 => ?_)
  · replace h := ite_f c1 h
    refine lv_aload_n hx hb dX13_image_21 rfl (lv_at hl 0 rfl) ?_
    refine lv_iconst (v := 0) hx hb dX13_image_22 rfl ?_
    obtain ⟨z2, h2, h⟩ := ob_some h
    refine k_i (va_runV (As := [.int 0]) (rest := []) ⟨hx, hb, hml, hown, hts⟩ (c_X13_done (l := l) Mg1 a0 0 k0 h2) (cwV 1 hts gX13_image_X13_done rfl rfl rfl hdV_X13_done ⟨Nat.le_of_ble_eq_true rfl, Nat.le_of_ble_eq_true rfl⟩) (pV (T := TX13) hP hK hD hT hG hS k0 (by decide) rfl) rfl rfl hl.1 rfl (lv_room (Nat.le_of_ble_eq_true rfl)) dX13_image_23 ⟨Nat.zero_le _, Nat.zero_le _⟩) hS (fun H locs hP hD hT hS => ?_)
    refine lv_pop hx hb dX13_image_26 rfl ?_
    refine lv_aload_n hx hb dX13_image_27 rfl (lv_at hl 0 rfl) ?_
    refine r_get (T := TX13) (v := .int (gI z2.2 a0 16)) hx hb hts in13 hown hK hP k0 (by decide) rfl 16 (by decide) (hts (.fieldLink RX13 437 "StoneWalkModel" "seed" "I") (List.mem_of_getElem? (i := 3) (by decide +kernel))) rfl (t := 0) rfl rfl dX13_image_28 ?_
    refine lv_i2l hx hb dX13_image_31 rfl ?_
    refine lv_lstore_n (lv' := [(1, .long ((gI z2.2 a0 16).toInt64)), (0, .ref (ad a0))]) hx hb dX13_image_32 rfl hl (by decide) rfl (fun ls hl => ?_)
    refine lv_ldc2 hx hb hown (hts (.constantLong RX13 527 (6)) (List.mem_of_getElem? (i := 4) (by decide +kernel))) dX13_image_33 ?_
    refine lv_lload_n hx hb dX13_image_36 rfl (lv_at hl 0 rfl) ?_
    refine lv_lmul hx hb dX13_image_37 ?_
    refine lv_aload_n hx hb dX13_image_38 rfl (lv_at hl 1 rfl) ?_
    refine r_get (T := TX13) (v := .int (gI z2.2 a0 21)) hx hb hts in13 hown hK hP k0 (by decide) rfl 21 (by decide) (hts (.fieldLink RX13 500 "StoneWalkModel" "told" "I") (List.mem_of_getElem? (i := 5) (by decide +kernel))) rfl (t := 0) rfl rfl dX13_image_39 ?_
    refine lv_i2l hx hb dX13_image_42 rfl ?_
    refine lv_ladd hx hb dX13_image_43 ?_
    refine lv_lstore_n (lv' := [(1, .long ((6 * ((gI z2.2 a0 16).toInt64)) + ((gI z2.2 a0 21).toInt64))), (0, .ref (ad a0))]) hx hb dX13_image_44 rfl hl (by decide) rfl (fun ls hl => ?_)
    refine lv_ldc2 hx hb hown (hts (.constantLong RX13 529 (7)) (List.mem_of_getElem? (i := 6) (by decide +kernel))) dX13_image_45 ?_
    refine lv_lload_n hx hb dX13_image_48 rfl (lv_at hl 0 rfl) ?_
    refine lv_lmul hx hb dX13_image_49 ?_
    refine lv_aload_n hx hb dX13_image_50 rfl (lv_at hl 1 rfl) ?_
    refine r_get (T := TX13) (v := .int (gI z2.2 a0 22)) hx hb hts in13 hown hK hP k0 (by decide) rfl 22 (by decide) (hts (.fieldLink RX13 503 "StoneWalkModel" "slopesGone" "I") (List.mem_of_getElem? (i := 7) (by decide +kernel))) rfl (t := 0) rfl rfl dX13_image_51 ?_
    refine lv_i2l hx hb dX13_image_54 rfl ?_
    refine lv_ladd hx hb dX13_image_55 ?_
    refine lv_lstore_n (lv' := [(1, .long ((7 * ((6 * ((gI z2.2 a0 16).toInt64)) + ((gI z2.2 a0 21).toInt64))) + ((gI z2.2 a0 22).toInt64))), (0, .ref (ad a0))]) hx hb dX13_image_56 rfl hl (by decide) rfl (fun ls hl => ?_)
    refine lv_ldc2 hx hb hown (hts (.constantLong RX13 531 (541)) (List.mem_of_getElem? (i := 8) (by decide +kernel))) dX13_image_57 ?_
    refine lv_lload_n hx hb dX13_image_60 rfl (lv_at hl 0 rfl) ?_
    refine lv_lmul hx hb dX13_image_61 ?_
    refine lv_aload_n hx hb dX13_image_62 rfl (lv_at hl 1 rfl) ?_
    refine r_get (T := TX13) (v := .int (gI z2.2 a0 23)) hx hb hts in13 hown hK hP k0 (by decide) rfl 23 (by decide) (hts (.fieldLink RX13 506 "StoneWalkModel" "minutesGone" "I") (List.mem_of_getElem? (i := 9) (by decide +kernel))) rfl (t := 0) rfl rfl dX13_image_63 ?_
    refine lv_i2l hx hb dX13_image_66 rfl ?_
    refine lv_ladd hx hb dX13_image_67 ?_
    refine lv_lstore_n (lv' := [(1, .long ((541 * ((7 * ((6 * ((gI z2.2 a0 16).toInt64)) + ((gI z2.2 a0 21).toInt64))) + ((gI z2.2 a0 22).toInt64))) + ((gI z2.2 a0 23).toInt64))), (0, .ref (ad a0))]) hx hb dX13_image_68 rfl hl (by decide) rfl (fun ls hl => ?_)
    refine lv_ldc2 hx hb hown (hts (.constantLong RX13 533 (4)) (List.mem_of_getElem? (i := 10) (by decide +kernel))) dX13_image_69 ?_
    refine lv_lload_n hx hb dX13_image_72 rfl (lv_at hl 0 rfl) ?_
    refine lv_lmul hx hb dX13_image_73 ?_
    refine lv_aload_n hx hb dX13_image_74 rfl (lv_at hl 1 rfl) ?_
    refine r_get (T := TX13) (v := .int (gI z2.2 a0 24)) hx hb hts in13 hown hK hP k0 (by decide) rfl 24 (by decide) (hts (.fieldLink RX13 509 "StoneWalkModel" "liesNow" "I") (List.mem_of_getElem? (i := 11) (by decide +kernel))) rfl (t := 0) rfl rfl dX13_image_75 ?_
    refine lv_bipush (v := (-2)) hx hb dX13_image_78 rfl ?_
    refine lv_icmp_ne (tgt := 87) hx hb dX13_image_80 rfl (fun c3 => ?_) (fun c3 => ?_)
    · replace h := ite_f c3 h
      refine lv_aload_n hx hb dX13_image_87 rfl (lv_at hl 1 rfl) ?_
      refine r_get (T := TX13) (v := .int (gI z2.2 a0 24)) hx hb hts in13 hown hK hP k0 (by decide) rfl 24 (by decide) (hts (.fieldLink RX13 509 "StoneWalkModel" "liesNow" "I") (List.mem_of_getElem? (i := 11) (by decide +kernel))) rfl (t := 0) rfl rfl dX13_image_88 ?_
      refine lv_i2l hx hb dX13_image_91 rfl ?_
      refine lv_ladd hx hb dX13_image_92 ?_
      refine lv_lstore_n (lv' := [(1, .long ((4 * ((541 * ((7 * ((6 * ((gI z2.2 a0 16).toInt64)) + ((gI z2.2 a0 21).toInt64))) + ((gI z2.2 a0 22).toInt64))) + ((gI z2.2 a0 23).toInt64))) + ((gI z2.2 a0 24).toInt64))), (0, .ref (ad a0))]) hx hb dX13_image_93 rfl hl (by decide) rfl (fun ls hl => ?_)
      refine lv_ldc2 hx hb hown (hts (.constantLong RX13 535 (10)) (List.mem_of_getElem? (i := 12) (by decide +kernel))) dX13_image_94 ?_
      refine lv_lload_n hx hb dX13_image_97 rfl (lv_at hl 0 rfl) ?_
      refine lv_lmul hx hb dX13_image_98 ?_
      refine lv_aload_n hx hb dX13_image_99 rfl (lv_at hl 1 rfl) ?_
      refine r_get (T := TX13) (v := .int (gI z2.2 a0 17)) hx hb hts in13 hown hK hP k0 (by decide) rfl 17 (by decide) (hts (.fieldLink RX13 17 "StoneWalkModel" "moved" "I") (List.mem_of_getElem? (i := 2) (by decide +kernel))) rfl (t := 0) rfl rfl dX13_image_100 ?_
      refine lv_i2l hx hb dX13_image_103 rfl ?_
      refine lv_ladd hx hb dX13_image_104 ?_
      refine lv_lstore_n (lv' := [(1, .long ((10 * ((4 * ((541 * ((7 * ((6 * ((gI z2.2 a0 16).toInt64)) + ((gI z2.2 a0 21).toInt64))) + ((gI z2.2 a0 22).toInt64))) + ((gI z2.2 a0 23).toInt64))) + ((gI z2.2 a0 24).toInt64))) + ((gI z2.2 a0 17).toInt64))), (0, .ref (ad a0))]) hx hb dX13_image_105 rfl hl (by decide) rfl (fun ls hl => ?_)
      refine lv_ldc2 hx hb hown (hts (.constantLong RX13 533 (4)) (List.mem_of_getElem? (i := 10) (by decide +kernel))) dX13_image_106 ?_
      refine lv_lload_n hx hb dX13_image_109 rfl (lv_at hl 0 rfl) ?_
      refine lv_lmul hx hb dX13_image_110 ?_
      refine lv_aload_n hx hb dX13_image_111 rfl (lv_at hl 1 rfl) ?_
      refine r_get (T := TX13) (v := .int (gI z2.2 a0 18)) hx hb hts in13 hown hK hP k0 (by decide) rfl 18 (by decide) (hts (.fieldLink RX13 490 "StoneWalkModel" "movedBy" "I") (List.mem_of_getElem? (i := 13) (by decide +kernel))) rfl (t := 0) rfl rfl dX13_image_112 ?_
      refine lv_i2l hx hb dX13_image_115 rfl ?_
      refine lv_ladd hx hb dX13_image_116 ?_
      refine lv_lstore_n (lv' := [(1, .long ((4 * ((10 * ((4 * ((541 * ((7 * ((6 * ((gI z2.2 a0 16).toInt64)) + ((gI z2.2 a0 21).toInt64))) + ((gI z2.2 a0 22).toInt64))) + ((gI z2.2 a0 23).toInt64))) + ((gI z2.2 a0 24).toInt64))) + ((gI z2.2 a0 17).toInt64))) + ((gI z2.2 a0 18).toInt64))), (0, .ref (ad a0))]) hx hb dX13_image_117 rfl hl (by decide) rfl (fun ls hl => ?_)
      refine lv_ldc2 hx hb hown (hts (.constantLong RX13 537 (3)) (List.mem_of_getElem? (i := 14) (by decide +kernel))) dX13_image_118 ?_
      refine lv_lload_n hx hb dX13_image_121 rfl (lv_at hl 0 rfl) ?_
      refine lv_lmul hx hb dX13_image_122 ?_
      refine lv_aload_n hx hb dX13_image_123 rfl (lv_at hl 1 rfl) ?_
      refine r_get (T := TX13) (v := .int (gI z2.2 a0 19)) hx hb hts in13 hown hK hP k0 (by decide) rfl 19 (by decide) (hts (.fieldLink RX13 493 "StoneWalkModel" "movedOn" "I") (List.mem_of_getElem? (i := 15) (by decide +kernel))) rfl (t := 0) rfl rfl dX13_image_124 ?_
      refine lv_i2l hx hb dX13_image_127 rfl ?_
      refine lv_ladd hx hb dX13_image_128 ?_
      refine lv_lstore_n (lv' := [(1, .long ((3 * ((4 * ((10 * ((4 * ((541 * ((7 * ((6 * ((gI z2.2 a0 16).toInt64)) + ((gI z2.2 a0 21).toInt64))) + ((gI z2.2 a0 22).toInt64))) + ((gI z2.2 a0 23).toInt64))) + ((gI z2.2 a0 24).toInt64))) + ((gI z2.2 a0 17).toInt64))) + ((gI z2.2 a0 18).toInt64))) + ((gI z2.2 a0 19).toInt64))), (0, .ref (ad a0))]) hx hb dX13_image_129 rfl hl (by decide) rfl (fun ls hl => ?_)
      refine lv_ldc2 hx hb hown (hts (.constantLong RX13 539 (201)) (List.mem_of_getElem? (i := 16) (by decide +kernel))) dX13_image_130 ?_
      refine lv_lload_n hx hb dX13_image_133 rfl (lv_at hl 0 rfl) ?_
      refine lv_lmul hx hb dX13_image_134 ?_
      refine lv_aload_n hx hb dX13_image_135 rfl (lv_at hl 1 rfl) ?_
      refine r_get (T := TX13) (v := .int (gI z2.2 a0 20)) hx hb hts in13 hown hK hP k0 (by decide) rfl 20 (by decide) (hts (.fieldLink RX13 496 "StoneWalkModel" "people" "I") (List.mem_of_getElem? (i := 17) (by decide +kernel))) rfl (t := 0) rfl rfl dX13_image_136 ?_
      refine lv_i2l hx hb dX13_image_139 rfl ?_
      refine lv_ladd hx hb dX13_image_140 ?_
      have hZ := Option.some.inj h
      have hZ1 := congrArg Prod.fst hZ
      have hZ2 := congrArg Prod.snd hZ
      exact r_lret hx hb hr hlocks hP hK hD hT hG hS hZ1 hZ2 dX13_image_141
    · replace h := ite_t c3 h
      refine lv_iconst (v := 3) hx hb dX13_image_83 rfl ?_
      refine lv_goto (tgt := 91) hx hb dX13_image_84 rfl ?_
      refine lv_i2l hx hb dX13_image_91 rfl ?_
      refine lv_ladd hx hb dX13_image_92 ?_
      refine lv_lstore_n (lv' := [(1, .long ((4 * ((541 * ((7 * ((6 * ((gI z2.2 a0 16).toInt64)) + ((gI z2.2 a0 21).toInt64))) + ((gI z2.2 a0 22).toInt64))) + ((gI z2.2 a0 23).toInt64))) + ((3 : Int32).toInt64))), (0, .ref (ad a0))]) hx hb dX13_image_93 rfl hl (by decide) rfl (fun ls hl => ?_)
      refine lv_ldc2 hx hb hown (hts (.constantLong RX13 535 (10)) (List.mem_of_getElem? (i := 12) (by decide +kernel))) dX13_image_94 ?_
      refine lv_lload_n hx hb dX13_image_97 rfl (lv_at hl 0 rfl) ?_
      refine lv_lmul hx hb dX13_image_98 ?_
      refine lv_aload_n hx hb dX13_image_99 rfl (lv_at hl 1 rfl) ?_
      refine r_get (T := TX13) (v := .int (gI z2.2 a0 17)) hx hb hts in13 hown hK hP k0 (by decide) rfl 17 (by decide) (hts (.fieldLink RX13 17 "StoneWalkModel" "moved" "I") (List.mem_of_getElem? (i := 2) (by decide +kernel))) rfl (t := 0) rfl rfl dX13_image_100 ?_
      refine lv_i2l hx hb dX13_image_103 rfl ?_
      refine lv_ladd hx hb dX13_image_104 ?_
      refine lv_lstore_n (lv' := [(1, .long ((10 * ((4 * ((541 * ((7 * ((6 * ((gI z2.2 a0 16).toInt64)) + ((gI z2.2 a0 21).toInt64))) + ((gI z2.2 a0 22).toInt64))) + ((gI z2.2 a0 23).toInt64))) + ((3 : Int32).toInt64))) + ((gI z2.2 a0 17).toInt64))), (0, .ref (ad a0))]) hx hb dX13_image_105 rfl hl (by decide) rfl (fun ls hl => ?_)
      refine lv_ldc2 hx hb hown (hts (.constantLong RX13 533 (4)) (List.mem_of_getElem? (i := 10) (by decide +kernel))) dX13_image_106 ?_
      refine lv_lload_n hx hb dX13_image_109 rfl (lv_at hl 0 rfl) ?_
      refine lv_lmul hx hb dX13_image_110 ?_
      refine lv_aload_n hx hb dX13_image_111 rfl (lv_at hl 1 rfl) ?_
      refine r_get (T := TX13) (v := .int (gI z2.2 a0 18)) hx hb hts in13 hown hK hP k0 (by decide) rfl 18 (by decide) (hts (.fieldLink RX13 490 "StoneWalkModel" "movedBy" "I") (List.mem_of_getElem? (i := 13) (by decide +kernel))) rfl (t := 0) rfl rfl dX13_image_112 ?_
      refine lv_i2l hx hb dX13_image_115 rfl ?_
      refine lv_ladd hx hb dX13_image_116 ?_
      refine lv_lstore_n (lv' := [(1, .long ((4 * ((10 * ((4 * ((541 * ((7 * ((6 * ((gI z2.2 a0 16).toInt64)) + ((gI z2.2 a0 21).toInt64))) + ((gI z2.2 a0 22).toInt64))) + ((gI z2.2 a0 23).toInt64))) + ((3 : Int32).toInt64))) + ((gI z2.2 a0 17).toInt64))) + ((gI z2.2 a0 18).toInt64))), (0, .ref (ad a0))]) hx hb dX13_image_117 rfl hl (by decide) rfl (fun ls hl => ?_)
      refine lv_ldc2 hx hb hown (hts (.constantLong RX13 537 (3)) (List.mem_of_getElem? (i := 14) (by decide +kernel))) dX13_image_118 ?_
      refine lv_lload_n hx hb dX13_image_121 rfl (lv_at hl 0 rfl) ?_
      refine lv_lmul hx hb dX13_image_122 ?_
      refine lv_aload_n hx hb dX13_image_123 rfl (lv_at hl 1 rfl) ?_
      refine r_get (T := TX13) (v := .int (gI z2.2 a0 19)) hx hb hts in13 hown hK hP k0 (by decide) rfl 19 (by decide) (hts (.fieldLink RX13 493 "StoneWalkModel" "movedOn" "I") (List.mem_of_getElem? (i := 15) (by decide +kernel))) rfl (t := 0) rfl rfl dX13_image_124 ?_
      refine lv_i2l hx hb dX13_image_127 rfl ?_
      refine lv_ladd hx hb dX13_image_128 ?_
      refine lv_lstore_n (lv' := [(1, .long ((3 * ((4 * ((10 * ((4 * ((541 * ((7 * ((6 * ((gI z2.2 a0 16).toInt64)) + ((gI z2.2 a0 21).toInt64))) + ((gI z2.2 a0 22).toInt64))) + ((gI z2.2 a0 23).toInt64))) + ((3 : Int32).toInt64))) + ((gI z2.2 a0 17).toInt64))) + ((gI z2.2 a0 18).toInt64))) + ((gI z2.2 a0 19).toInt64))), (0, .ref (ad a0))]) hx hb dX13_image_129 rfl hl (by decide) rfl (fun ls hl => ?_)
      refine lv_ldc2 hx hb hown (hts (.constantLong RX13 539 (201)) (List.mem_of_getElem? (i := 16) (by decide +kernel))) dX13_image_130 ?_
      refine lv_lload_n hx hb dX13_image_133 rfl (lv_at hl 0 rfl) ?_
      refine lv_lmul hx hb dX13_image_134 ?_
      refine lv_aload_n hx hb dX13_image_135 rfl (lv_at hl 1 rfl) ?_
      refine r_get (T := TX13) (v := .int (gI z2.2 a0 20)) hx hb hts in13 hown hK hP k0 (by decide) rfl 20 (by decide) (hts (.fieldLink RX13 496 "StoneWalkModel" "people" "I") (List.mem_of_getElem? (i := 17) (by decide +kernel))) rfl (t := 0) rfl rfl dX13_image_136 ?_
      refine lv_i2l hx hb dX13_image_139 rfl ?_
      refine lv_ladd hx hb dX13_image_140 ?_
      have hZ := Option.some.inj h
      have hZ1 := congrArg Prod.fst hZ
      have hZ2 := congrArg Prod.snd hZ
      exact r_lret hx hb hr hlocks hP hK hD hT hG hS hZ1 hZ2 dX13_image_141
  · replace h := ite_t c1 h
    refine lv_aload_n hx hb dX13_image_13 rfl (lv_at hl 0 rfl) ?_
    refine lv_bipush (v := 6) hx hb dX13_image_14 rfl ?_
    obtain ⟨z4, h4, h⟩ := ob_some h
    refine k_i (va_runV (As := [.int 6]) (rest := []) ⟨hx, hb, hml, hown, hts⟩ (c_X13_refused (l := l) Mg1 a0 6 k0 h4) (cwV 1 hts gX13_image_X13_refused rfl rfl rfl hdV_X13_refused ⟨Nat.le_of_ble_eq_true rfl, Nat.le_of_ble_eq_true rfl⟩) (pV (T := TX13) hP hK hD hT hG hS k0 (by decide) rfl) rfl rfl hl.1 rfl (lv_room (Nat.le_of_ble_eq_true rfl)) dX13_image_16 ⟨Nat.zero_le _, Nat.zero_le _⟩) hS (fun H locs hP hD hT hS => ?_)
    refine lv_i2l hx hb dX13_image_19 rfl ?_
    have hZ := Option.some.inj h
    have hZ1 := congrArg Prod.fst hZ
    have hZ2 := congrArg Prod.snd hZ
    exact r_lret hx hb hr hlocks hP hK hD hT hG hS hZ1 hZ2 dX13_image_20
