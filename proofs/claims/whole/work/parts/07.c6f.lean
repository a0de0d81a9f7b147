set_option maxHeartbeats 4000000 in
set_option maxRecDepth 100000 in
theorem c_X13_led {l : Launch} {D : va_G} {ad : Nat → Nat} {cy : Nat → ClassId} {A : Nat → Prop} {g : CG} {q : SE} (M : MM) (a0 : Nat) (x1 : Int32) (x2 : Int32) (k0 : ok g a0 13 0) {Z : (Int32 × MM)} (h : f_X13_led M a0 x1 x2 = some Z) : Met l yX13_led wsX13_led ({ frames := 2, cells := 0, slots := 0, locals := 47 }) (va_Pc [.ref (ad a0), .int x1, .int x2] (Wd D ad cy A g q M)) (va_Qi (fun r u => r = Z.1 ∧ u = Z.2) (Wd D ad cy A g q) A) 0 0 A := by
  refine Met.ofW (cc := cX13_led) (maxL := 5) (ret := (some .int)) (by decide) rfl ?_
  intro p e s m args below meth c s₁ B hml hv
  obtain ⟨rfl, hP, hK, hD, hT, hG⟩ := hv
  have hx := B.exec
  have hb := B.bytes
  have hr := B.returns
  have hts := atoms_spec (ws := wsX13_led) B.pre
  have hown : s.vm.findClass RX13 = some m.cls := findClass_of_methodNamed B.named
  have hlocks := B.notSynchronized
  have in12 : ∀ w ∈ u_ws RX12 TX12 48, w ∈ wsX13_led := fun w h => List.mem_cons_of_mem _ (List.mem_append_right _ h)
  have in13 : ∀ w ∈ u_ws RX13 TX13 29, w ∈ wsX13_led := fun w h => List.mem_cons_of_mem _ (List.mem_append_left _ (List.mem_append_right _ h))
  have hS : va_S A s.heap s.heap [] := va_S.rf
  have hl := lv_entry ([.ref (ad a0), .int x1, .int x2]) (n := 5) (Nat.le_of_ble_eq_true rfl)
  rw [lg_entry_eq]
  generalize (lg_sl ([.ref (ad a0), .int x1, .int x2]) ++ List.replicate (5 - (lg_sl ([.ref (ad a0), .int x1, .int x2])).length) Slot.unset).toArray = ls at hl ⊢
  have hl : lv_has ls 5 [(0, .ref (ad a0)), (1, .int x1), (2, .int x2)] := hl
  unfold f_X13_led at h
  refine lv_aload_n hx hb dX13_led_0 rfl (lv_at hl 0 rfl) ?_
  refine lv_iconst (v := 0) hx hb dX13_led_1 rfl ?_
  refine r_putI (T := TX13) (ty := .int) (v := 0) hx hb hts in13 tyX13 tyX13_ok nmX13 hown hK hP hD hT hS k0 (by decide) rfl 0 (by decide) (hts (.fieldLink RX13 30 "StoneWalkModel" "thrown" "I") (List.mem_of_getElem? (i := 1) (by decide +kernel))) rfl rfl (tyX13_ok 0 (by decide)) rfl rfl rfl dX13_led_2 (fun H locs hP hD hT hS => ?_)
  generalize pI M a0 0 0 = Mg1 at h hP hD hT ⊢
  refine lv_iconst (v := 0) hx hb dX13_led_5 rfl ?_
  refine lv_istore_n (lv' := [(3, .int 0), (0, .ref (ad a0)), (1, .int x1), (2, .int x2)]) hx hb dX13_led_6 rfl hl (by decide) rfl (fun ls hl => ?_)
  refine lv_iconst (v := 0) hx hb dX13_led_7 rfl ?_
  refine lv_istore (lv' := [(4, .int 0), (3, .int 0), (0, .ref (ad a0)), (1, .int x1), (2, .int x2)]) hx hb dX13_led_8 hl (by decide) rfl (fun ls hl => ?_)
  have L1 : ∀ n1 : Nat, ∀ (M1 : MM) (y1_0 : Nat) (y1_1 : Int32) (y1_2 : Int32) (y1_3 : Int32) (y1_4 : Int32) (ky1_0 : ok g y1_0 13 0) (H : Heap) (locs : List Loc), f_X13_led_L10 n1 M1 y1_0 y1_1 y1_2 y1_3 y1_4 = some Z → va_P D vwCl (wd ad cy g M1) H → va_D A (wd ad cy g M1) → WT g M1 → va_S A s.heap H locs → ∀ (ls : Array Slot), lv_has ls 5 [(0, .ref (ad y1_0)), (1, .int y1_1), (2, .int y1_2), (3, .int y1_3), (4, .int y1_4)] → W p l e ((headSpec wsX13_led ({ frames := 2, cells := 0, slots := 0, locals := 47 })).room) s m (([.ref (ad a0), .int x1, .int x2] : List Value).toArray) below meth c H locs 0 0 (MQ below (va_Qi (fun r u => r = Z.1 ∧ u = Z.2) (Wd D ad cy A g q) A) ([.ref (ad a0), .int x1, .int x2]).toArray s 0 0 A) (F0 m 10 ls []) := by
    intro n1
    induction n1 with
    | zero => intro M1 y1_0 y1_1 y1_2 y1_3 y1_4 ky1_0 H locs h; exact absurd h (by simp [f_X13_led_L10])
    | succ n1 ih1 =>
      intro M1 y1_0 y1_1 y1_2 y1_3 y1_4 ky1_0 H locs h hP hD hT hS ls hl
      rw [f_X13_led_L10] at h
      refine lv_aload_n hx hb dX13_led_10 rfl (lv_at hl 0 rfl) ?_
      refine lv_iload_n hx hb dX13_led_11 rfl (lv_at hl 1 rfl) ?_
      obtain ⟨z2, h2, h⟩ := ob_some h
      refine k_z (va_runV (As := [.int y1_1]) (rest := []) ⟨hx, hb, hml, hown, hts⟩ (c_X13_isWay (l := l) M1 y1_0 y1_1 ky1_0 h2) (cwV 1 hts gX13_led_X13_isWay rfl rfl rfl hdV_X13_isWay ⟨Nat.le_of_ble_eq_true rfl, Nat.le_of_ble_eq_true rfl⟩) (pV (T := TX13) hP hK hD hT hG hS ky1_0 (by decide) rfl) rfl rfl hl.1 rfl (lv_room (Nat.le_of_ble_eq_true rfl)) dX13_led_12 ⟨Nat.zero_le _, Nat.zero_le _⟩) hS (fun H locs hz2 hP hD hT hS => ?_)
      refine lv_if_eq (tgt := 75) hx hb dX13_led_15 rfl (fun c3 => ?_) (fun c3 => ?_)
      · replace h := ite_t c3 h
        refine lv_aload_n hx hb dX13_led_75 rfl (lv_at hl 0 rfl) ?_
        refine lv_iconst (v := 1) hx hb dX13_led_76 rfl ?_
        refine r_putI (T := TX13) (ty := .int) (v := 1) hx hb hts in13 tyX13 tyX13_ok nmX13 hown hK hP hD hT hS ky1_0 (by decide) rfl 0 (by decide) (hts (.fieldLink RX13 30 "StoneWalkModel" "thrown" "I") (List.mem_of_getElem? (i := 1) (by decide +kernel))) rfl rfl (tyX13_ok 0 (by decide)) rfl rfl rfl dX13_led_77 (fun H locs hP hD hT hS => ?_)
        generalize pI M1 y1_0 0 1 = Mg2 at h hP hD hT ⊢
        refine lv_iconst (v := 0) hx hb dX13_led_80 rfl ?_
        have hZ := Option.some.inj h
        have hZ1 := congrArg Prod.fst hZ
        have hZ2 := congrArg Prod.snd hZ
        exact r_iret hx hb hr hlocks hP hK hD hT hG hS hZ1 hZ2 dX13_led_81
      · replace h := ite_f c3 h
        refine lv_iload hx hb dX13_led_18 (lv_at hl 4 rfl) ?_
        refine lv_aload_n hx hb dX13_led_20 rfl (lv_at hl 0 rfl) ?_
        rcases hN4 : gR M1 y1_0 3 with _ | b4
        · replace h := oc_n hN4 h
          refine r_get (T := TX13) (v := .null) hx hb hts in13 hown hK hP ky1_0 (by decide) rfl 3 (by decide) (hts (.fieldLink RX13 431 "StoneWalkModel" "island" "LStoneWalkModel$Island;") (List.mem_of_getElem? (i := 2) (by decide +kernel))) rfl (t := 2) rfl (by show va_rf _ = _; rw [hN4]; rfl) dX13_led_21 ?_
          exact absurd h (by simp)
        · replace h := oc_s hN4 h
          have kb4 := hT.f ky1_0 (k := 3) (t := 12) (n := 0) rfl hN4
          refine r_get (T := TX13) (v := .ref (ad b4)) hx hb hts in13 hown hK hP ky1_0 (by decide) rfl 3 (by decide) (hts (.fieldLink RX13 431 "StoneWalkModel" "island" "LStoneWalkModel$Island;") (List.mem_of_getElem? (i := 2) (by decide +kernel))) rfl (t := 2) rfl (by show va_rf _ = _; rw [hN4]; rfl) dX13_led_21 ?_
          refine r_getN (T := TX12) (v := .int (gI M1 b4 2)) hx hb hts in12 hown hK hP kb4 (by decide) rfl 2 (by decide) (hG.2.2.1 ("StoneWalkModel", 191, "StoneWalkModel$Island", "statues", "I", "StoneWalkModel") (List.mem_of_getElem? (i := 7) rfl)) rfl (t := 0) rfl rfl dX13_led_24 ?_
          refine lv_icmp_ge (tgt := 75) hx hb dX13_led_27 rfl (fun c5 => ?_) (fun c5 => ?_)
          · replace h := ite_t c5 h
            refine lv_aload_n hx hb dX13_led_75 rfl (lv_at hl 0 rfl) ?_
            refine lv_iconst (v := 1) hx hb dX13_led_76 rfl ?_
            refine r_putI (T := TX13) (ty := .int) (v := 1) hx hb hts in13 tyX13 tyX13_ok nmX13 hown hK hP hD hT hS ky1_0 (by decide) rfl 0 (by decide) (hts (.fieldLink RX13 30 "StoneWalkModel" "thrown" "I") (List.mem_of_getElem? (i := 1) (by decide +kernel))) rfl rfl (tyX13_ok 0 (by decide)) rfl rfl rfl dX13_led_77 (fun H locs hP hD hT hS => ?_)
            generalize pI M1 y1_0 0 1 = Mg3 at h hP hD hT ⊢
            refine lv_iconst (v := 0) hx hb dX13_led_80 rfl ?_
            have hZ := Option.some.inj h
            have hZ1 := congrArg Prod.fst hZ
            have hZ2 := congrArg Prod.snd hZ
            exact r_iret hx hb hr hlocks hP hK hD hT hG hS hZ1 hZ2 dX13_led_81
          · replace h := ite_f c5 h
            refine lv_aload_n hx hb dX13_led_30 rfl (lv_at hl 0 rfl) ?_
            rcases hN6 : gR M1 y1_0 3 with _ | b6
            · replace h := oc_n hN6 h
              refine r_get (T := TX13) (v := .null) hx hb hts in13 hown hK hP ky1_0 (by decide) rfl 3 (by decide) (hts (.fieldLink RX13 431 "StoneWalkModel" "island" "LStoneWalkModel$Island;") (List.mem_of_getElem? (i := 2) (by decide +kernel))) rfl (t := 2) rfl (by show va_rf _ = _; rw [hN6]; rfl) dX13_led_31 ?_
              exact absurd h (by simp)
            · replace h := oc_s hN6 h
              have kb6 := hT.f ky1_0 (k := 3) (t := 12) (n := 0) rfl hN6
              refine r_get (T := TX13) (v := .ref (ad b6)) hx hb hts in13 hown hK hP ky1_0 (by decide) rfl 3 (by decide) (hts (.fieldLink RX13 431 "StoneWalkModel" "island" "LStoneWalkModel$Island;") (List.mem_of_getElem? (i := 2) (by decide +kernel))) rfl (t := 2) rfl (by show va_rf _ = _; rw [hN6]; rfl) dX13_led_31 ?_
              rcases hN7 : gR M1 b6 18 with _ | b7
              · exact absurd (oc_n hN7 h) (by simp)
              replace h := oc_s hN7 h
              have kb7 := hT.f kb6 (k := 18) (t := 15) (n := 10) rfl hN7
              refine r_getN (T := TX12) (v := .ref (ad b7)) hx hb hts in12 hown hK hP kb6 (by decide) rfl 18 (by decide) (hG.2.2.1 ("StoneWalkModel", 307, "StoneWalkModel$Island", "sort", "[I", "StoneWalkModel") (List.mem_of_getElem? (i := 18) rfl)) rfl (t := 2) rfl (by show va_rf _ = _; rw [hN7]; rfl) dX13_led_34 ?_
              refine lv_iload hx hb dX13_led_37 (lv_at hl 4 rfl) ?_
              obtain ⟨hn8, h⟩ := chk_some h
              refine r_iald hx hb hK hP kb7 hn8 dX13_led_39 ?_
              refine lv_iconst (v := 5) hx hb dX13_led_40 rfl ?_
              refine lv_icmp_ne (tgt := 69) hx hb dX13_led_41 rfl (fun c9 => ?_) (fun c9 => ?_)
              · replace h := ite_f c9 h
                refine lv_iinc (v := y1_4 + 1) (lv' := [(4, .int (y1_4 + 1)), (0, .ref (ad y1_0)), (1, .int y1_1), (2, .int y1_2), (3, .int y1_3)]) hx hb dX13_led_69 hl (k := 4) rfl rfl (by decide) rfl (fun ls hl => ?_)
                refine lv_goto (tgt := 10) hx hb dX13_led_72 rfl ?_
                exact ih1 M1 y1_0 y1_1 y1_2 y1_3 (y1_4 + 1) ky1_0 _ _ h hP hD hT hS ls (lv_sub hl [1, 2, 3, 4, 0] rfl)
              · replace h := ite_t c9 h
                refine lv_aload_n hx hb dX13_led_44 rfl (lv_at hl 0 rfl) ?_
                refine lv_iload_n hx hb dX13_led_45 rfl (lv_at hl 1 rfl) ?_
                refine lv_iload hx hb dX13_led_46 (lv_at hl 4 rfl) ?_
                obtain ⟨z10, h10, h⟩ := ob_some h
                refine k_i (va_runV (As := [.int y1_1, .int y1_4]) (rest := []) ⟨hx, hb, hml, hown, hts⟩ (c_X13_liesBy (l := l) M1 y1_0 y1_1 y1_4 ky1_0 h10) (cwV 2 hts gX13_led_X13_liesBy rfl rfl rfl hdV_X13_liesBy ⟨Nat.le_of_ble_eq_true rfl, Nat.le_of_ble_eq_true rfl⟩) (pV (T := TX13) hP hK hD hT hG hS ky1_0 (by decide) rfl) rfl rfl hl.1 rfl (lv_room (Nat.le_of_ble_eq_true rfl)) dX13_led_48 ⟨Nat.zero_le _, Nat.zero_le _⟩) hS (fun H locs hP hD hT hS => ?_)
                refine lv_iconst (v := 5) hx hb dX13_led_51 rfl ?_
                refine lv_icmp_ge (tgt := 58) hx hb dX13_led_52 rfl (fun c11 => ?_) (fun c11 => ?_)
                · replace h := ite_t c11 h
                  refine lv_iload_n hx hb dX13_led_58 rfl (lv_at hl 3 rfl) ?_
                  refine lv_iload_n hx hb dX13_led_59 rfl (lv_at hl 2 rfl) ?_
                  refine lv_icmp_ne (tgt := 66) hx hb dX13_led_60 rfl (fun c12 => ?_) (fun c12 => ?_)
                  · replace h := ite_f c12 h
                    refine lv_iinc (v := y1_3 + 1) (lv' := [(3, .int (y1_3 + 1)), (0, .ref (ad y1_0)), (1, .int y1_1), (2, .int y1_2), (4, .int y1_4)]) hx hb dX13_led_66 hl (k := 3) rfl rfl (by decide) rfl (fun ls hl => ?_)
                    refine lv_iinc (v := y1_4 + 1) (lv' := [(4, .int (y1_4 + 1)), (3, .int (y1_3 + 1)), (0, .ref (ad y1_0)), (1, .int y1_1), (2, .int y1_2)]) hx hb dX13_led_69 hl (k := 4) rfl rfl (by decide) rfl (fun ls hl => ?_)
                    refine lv_goto (tgt := 10) hx hb dX13_led_72 rfl ?_
                    exact ih1 M1 y1_0 y1_1 y1_2 (y1_3 + 1) (y1_4 + 1) ky1_0 _ _ h hP hD hT hS ls (lv_sub hl [2, 3, 4, 1, 0] rfl)
                  · replace h := ite_t c12 h
                    refine lv_iload hx hb dX13_led_63 (lv_at hl 4 rfl) ?_
                    have hZ := Option.some.inj h
                    have hZ1 := congrArg Prod.fst hZ
                    have hZ2 := congrArg Prod.snd hZ
                    exact r_iret hx hb hr hlocks hP hK hD hT hG hS hZ1 hZ2 dX13_led_65
                · replace h := ite_f c11 h
                  refine lv_goto (tgt := 69) hx hb dX13_led_55 rfl ?_
                  refine lv_iinc (v := y1_4 + 1) (lv' := [(4, .int (y1_4 + 1)), (0, .ref (ad y1_0)), (1, .int y1_1), (2, .int y1_2), (3, .int y1_3)]) hx hb dX13_led_69 hl (k := 4) rfl rfl (by decide) rfl (fun ls hl => ?_)
                  refine lv_goto (tgt := 10) hx hb dX13_led_72 rfl ?_
                  exact ih1 M1 y1_0 y1_1 y1_2 y1_3 (y1_4 + 1) ky1_0 _ _ h hP hD hT hS ls (lv_sub hl [1, 2, 3, 4, 0] rfl)
  exact L1 FU Mg1 a0 x1 x2 0 0 k0 _ _ h hP hD hT hS ls (lv_sub hl [2, 3, 4, 1, 0] rfl)
set_option maxHeartbeats 4000000 in
set_option maxRecDepth 100000 in
theorem c_X13_size {l : Launch} {D : va_G} {ad : Nat → Nat} {cy : Nat → ClassId} {A : Nat → Prop} {g : CG} {q : SE} (M : MM) (a0 : Nat) (x1 : Int32) (k0 : ok g a0 13 0) {Z : (Int32 × MM)} (h : f_X13_size M a0 x1 = some Z) : Met l yX13_size wsX13_size ({ frames := 1, cells := 0, slots := 0, locals := 22 }) (va_Pc [.ref (ad a0), .int x1] (Wd D ad cy A g q M)) (va_Qi (fun r u => r = Z.1 ∧ u = Z.2) (Wd D ad cy A g q) A) 0 0 A := by
  refine Met.ofW (cc := cX13_size) (maxL := 2) (ret := (some .int)) (by decide) rfl ?_
  intro p e s m args below meth c s₁ B hml hv
  obtain ⟨rfl, hP, hK, hD, hT, hG⟩ := hv
  have hx := B.exec
  have hb := B.bytes
  have hr := B.returns
  have hts := atoms_spec (ws := wsX13_size) B.pre
  have hown : s.vm.findClass RX13 = some m.cls := findClass_of_methodNamed B.named
  have hlocks := B.notSynchronized
  have in12 : ∀ w ∈ u_ws RX12 TX12 48, w ∈ wsX13_size := fun w h => List.mem_cons_of_mem _ (List.mem_append_right _ h)
  have in13 : ∀ w ∈ u_ws RX13 TX13 29, w ∈ wsX13_size := fun w h => List.mem_cons_of_mem _ (List.mem_append_left _ (List.mem_append_right _ h))
  have hS : va_S A s.heap s.heap [] := va_S.rf
  have hl := lv_entry ([.ref (ad a0), .int x1]) (n := 2) (Nat.le_of_ble_eq_true rfl)
  rw [lg_entry_eq]
  generalize (lg_sl ([.ref (ad a0), .int x1]) ++ List.replicate (2 - (lg_sl ([.ref (ad a0), .int x1])).length) Slot.unset).toArray = ls at hl ⊢
  have hl : lv_has ls 2 [(0, .ref (ad a0)), (1, .int x1)] := hl
  unfold f_X13_size at h
  refine lv_aload_n hx hb dX13_size_0 rfl (lv_at hl 0 rfl) ?_
  refine lv_iconst (v := 0) hx hb dX13_size_1 rfl ?_
  refine r_putI (T := TX13) (ty := .int) (v := 0) hx hb hts in13 tyX13 tyX13_ok nmX13 hown hK hP hD hT hS k0 (by decide) rfl 0 (by decide) (hts (.fieldLink RX13 30 "StoneWalkModel" "thrown" "I") (List.mem_of_getElem? (i := 1) (by decide +kernel))) rfl rfl (tyX13_ok 0 (by decide)) rfl rfl rfl dX13_size_2 (fun H locs hP hD hT hS => ?_)
  generalize pI M a0 0 0 = Mg1 at h hP hD hT ⊢
  refine lv_iload_n hx hb dX13_size_5 rfl (lv_at hl 1 rfl) ?_
  refine lv_bipush (v := 9) hx hb dX13_size_6 rfl ?_
  refine lv_icmp_ne (tgt := 16) hx hb dX13_size_8 rfl (fun c1 => ?_) (fun c1 => ?_)
  · replace h := ite_f c1 h
    refine lv_iload_n hx hb dX13_size_16 rfl (lv_at hl 1 rfl) ?_
    refine lv_iconst (v := 0) hx hb dX13_size_17 rfl ?_
    refine lv_bipush (v := 10) hx hb dX13_size_18 rfl ?_
    obtain ⟨z2, h2, h⟩ := ob_some h
    refine k_z (va_runS (As := [.int x1, .int 0, .int 10]) (rest := []) ⟨hx, hb, hml, hown, hts⟩ (c_X13_in (l := l) Mg1 x1 0 10 h2) (va_cwS 3 hts gX13_size_X13_in rfl rfl rfl hdS_X13_in ⟨Nat.le_of_ble_eq_true rfl, Nat.le_of_ble_eq_true rfl⟩) (pS hP hK hD hT hG hS) rfl rfl hl.1 rfl (lv_room (Nat.le_of_ble_eq_true rfl)) dX13_size_20 ⟨Nat.zero_le _, Nat.zero_le _⟩) hS (fun H locs hz2 hP hD hT hS => ?_)
    refine lv_if_ne (tgt := 28) hx hb dX13_size_23 rfl (fun c3 => ?_) (fun c3 => ?_)
    · replace h := ite_f c3 h
      refine lv_aload_n hx hb dX13_size_28 rfl (lv_at hl 0 rfl) ?_
      rcases hN4 : gR Mg1 a0 3 with _ | b4
      · replace h := oc_n hN4 h
        refine r_get (T := TX13) (v := .null) hx hb hts in13 hown hK hP k0 (by decide) rfl 3 (by decide) (hts (.fieldLink RX13 431 "StoneWalkModel" "island" "LStoneWalkModel$Island;") (List.mem_of_getElem? (i := 3) (by decide +kernel))) rfl (t := 2) rfl (by show va_rf _ = _; rw [hN4]; rfl) dX13_size_29 ?_
        refine lv_ifnonnullN hx hb dX13_size_32 ?_
        refine lv_iconst (v := 0) hx hb dX13_size_35 rfl ?_
        have hZ := Option.some.inj h
        have hZ1 := congrArg Prod.fst hZ
        have hZ2 := congrArg Prod.snd hZ
        exact r_iret hx hb hr hlocks hP hK hD hT hG hS hZ1 hZ2 dX13_size_36
      · replace h := oc_s hN4 h
        have kb4 := hT.f k0 (k := 3) (t := 12) (n := 0) rfl hN4
        refine r_get (T := TX13) (v := .ref (ad b4)) hx hb hts in13 hown hK hP k0 (by decide) rfl 3 (by decide) (hts (.fieldLink RX13 431 "StoneWalkModel" "island" "LStoneWalkModel$Island;") (List.mem_of_getElem? (i := 3) (by decide +kernel))) rfl (t := 2) rfl (by show va_rf _ = _; rw [hN4]; rfl) dX13_size_29 ?_
        refine lv_ifnonnull (tgt := 37) hx hb dX13_size_32 rfl ?_
        refine lv_iload_n hx hb dX13_size_37 rfl (lv_at hl 1 rfl) ?_
        by_cases c5_0 : x1 = 0
        · replace h := ite_t c5_0 h
          refine lv_tableIn (tgt := 88) (off := 50) hx hb dX13_size_38 (by rw [c5_0]; decide) (by rw [c5_0]; decide) (by rw [c5_0]; decide) rfl ?_
          refine lv_aload_n hx hb dX13_size_88 rfl (lv_at hl 0 rfl) ?_
          rcases hN6 : gR Mg1 a0 3 with _ | b6
          · replace h := oc_n hN6 h
            refine r_get (T := TX13) (v := .null) hx hb hts in13 hown hK hP k0 (by decide) rfl 3 (by decide) (hts (.fieldLink RX13 431 "StoneWalkModel" "island" "LStoneWalkModel$Island;") (List.mem_of_getElem? (i := 3) (by decide +kernel))) rfl (t := 2) rfl (by show va_rf _ = _; rw [hN6]; rfl) dX13_size_89 ?_
            exact absurd h (by simp)
          · replace h := oc_s hN6 h
            have kb6 := hT.f k0 (k := 3) (t := 12) (n := 0) rfl hN6
            refine r_get (T := TX13) (v := .ref (ad b6)) hx hb hts in13 hown hK hP k0 (by decide) rfl 3 (by decide) (hts (.fieldLink RX13 431 "StoneWalkModel" "island" "LStoneWalkModel$Island;") (List.mem_of_getElem? (i := 3) (by decide +kernel))) rfl (t := 2) rfl (by show va_rf _ = _; rw [hN6]; rfl) dX13_size_89 ?_
            refine r_getN (T := TX12) (v := .int (gI Mg1 b6 0)) hx hb hts in12 hown hK hP kb6 (by decide) rfl 0 (by decide) (hG.2.2.1 ("StoneWalkModel", 185, "StoneWalkModel$Island", "ways", "I", "StoneWalkModel") (List.mem_of_getElem? (i := 5) rfl)) rfl (t := 0) rfl rfl dX13_size_92 ?_
            have hZ := Option.some.inj h
            have hZ1 := congrArg Prod.fst hZ
            have hZ2 := congrArg Prod.snd hZ
            exact r_iret hx hb hr hlocks hP hK hD hT hG hS hZ1 hZ2 dX13_size_95
        · replace h := ite_f c5_0 h
          by_cases c5_1 : x1 = 1
          · replace h := ite_t c5_1 h
            refine lv_tableIn (tgt := 96) (off := 58) hx hb dX13_size_38 (by rw [c5_1]; decide) (by rw [c5_1]; decide) (by rw [c5_1]; decide) rfl ?_
            refine lv_aload_n hx hb dX13_size_96 rfl (lv_at hl 0 rfl) ?_
            rcases hN7 : gR Mg1 a0 3 with _ | b7
            · replace h := oc_n hN7 h
              refine r_get (T := TX13) (v := .null) hx hb hts in13 hown hK hP k0 (by decide) rfl 3 (by decide) (hts (.fieldLink RX13 431 "StoneWalkModel" "island" "LStoneWalkModel$Island;") (List.mem_of_getElem? (i := 3) (by decide +kernel))) rfl (t := 2) rfl (by show va_rf _ = _; rw [hN7]; rfl) dX13_size_97 ?_
              exact absurd h (by simp)
            · replace h := oc_s hN7 h
              have kb7 := hT.f k0 (k := 3) (t := 12) (n := 0) rfl hN7
              refine r_get (T := TX13) (v := .ref (ad b7)) hx hb hts in13 hown hK hP k0 (by decide) rfl 3 (by decide) (hts (.fieldLink RX13 431 "StoneWalkModel" "island" "LStoneWalkModel$Island;") (List.mem_of_getElem? (i := 3) (by decide +kernel))) rfl (t := 2) rfl (by show va_rf _ = _; rw [hN7]; rfl) dX13_size_97 ?_
              refine r_getN (T := TX12) (v := .int (gI Mg1 b7 1)) hx hb hts in12 hown hK hP kb7 (by decide) rfl 1 (by decide) (hG.2.2.1 ("StoneWalkModel", 188, "StoneWalkModel$Island", "roads", "I", "StoneWalkModel") (List.mem_of_getElem? (i := 6) rfl)) rfl (t := 0) rfl rfl dX13_size_100 ?_
              have hZ := Option.some.inj h
              have hZ1 := congrArg Prod.fst hZ
              have hZ2 := congrArg Prod.snd hZ
              exact r_iret hx hb hr hlocks hP hK hD hT hG hS hZ1 hZ2 dX13_size_103
          · replace h := ite_f c5_1 h
            by_cases c5_2 : x1 = 2
            · replace h := ite_t c5_2 h
              refine lv_tableIn (tgt := 104) (off := 66) hx hb dX13_size_38 (by rw [c5_2]; decide) (by rw [c5_2]; decide) (by rw [c5_2]; decide) rfl ?_
              refine lv_aload_n hx hb dX13_size_104 rfl (lv_at hl 0 rfl) ?_
              rcases hN8 : gR Mg1 a0 3 with _ | b8
              · replace h := oc_n hN8 h
                refine r_get (T := TX13) (v := .null) hx hb hts in13 hown hK hP k0 (by decide) rfl 3 (by decide) (hts (.fieldLink RX13 431 "StoneWalkModel" "island" "LStoneWalkModel$Island;") (List.mem_of_getElem? (i := 3) (by decide +kernel))) rfl (t := 2) rfl (by show va_rf _ = _; rw [hN8]; rfl) dX13_size_105 ?_
                exact absurd h (by simp)
              · replace h := oc_s hN8 h
                have kb8 := hT.f k0 (k := 3) (t := 12) (n := 0) rfl hN8
                refine r_get (T := TX13) (v := .ref (ad b8)) hx hb hts in13 hown hK hP k0 (by decide) rfl 3 (by decide) (hts (.fieldLink RX13 431 "StoneWalkModel" "island" "LStoneWalkModel$Island;") (List.mem_of_getElem? (i := 3) (by decide +kernel))) rfl (t := 2) rfl (by show va_rf _ = _; rw [hN8]; rfl) dX13_size_105 ?_
                refine r_getN (T := TX12) (v := .int (gI Mg1 b8 2)) hx hb hts in12 hown hK hP kb8 (by decide) rfl 2 (by decide) (hG.2.2.1 ("StoneWalkModel", 191, "StoneWalkModel$Island", "statues", "I", "StoneWalkModel") (List.mem_of_getElem? (i := 7) rfl)) rfl (t := 0) rfl rfl dX13_size_108 ?_
                have hZ := Option.some.inj h
                have hZ1 := congrArg Prod.fst hZ
                have hZ2 := congrArg Prod.snd hZ
                exact r_iret hx hb hr hlocks hP hK hD hT hG hS hZ1 hZ2 dX13_size_111
            · replace h := ite_f c5_2 h
              by_cases c5_3 : x1 = 3
              · replace h := ite_t c5_3 h
                refine lv_tableIn (tgt := 112) (off := 74) hx hb dX13_size_38 (by rw [c5_3]; decide) (by rw [c5_3]; decide) (by rw [c5_3]; decide) rfl ?_
                refine lv_aload_n hx hb dX13_size_112 rfl (lv_at hl 0 rfl) ?_
                rcases hN9 : gR Mg1 a0 3 with _ | b9
                · replace h := oc_n hN9 h
                  refine r_get (T := TX13) (v := .null) hx hb hts in13 hown hK hP k0 (by decide) rfl 3 (by decide) (hts (.fieldLink RX13 431 "StoneWalkModel" "island" "LStoneWalkModel$Island;") (List.mem_of_getElem? (i := 3) (by decide +kernel))) rfl (t := 2) rfl (by show va_rf _ = _; rw [hN9]; rfl) dX13_size_113 ?_
                  exact absurd h (by simp)
                · replace h := oc_s hN9 h
                  have kb9 := hT.f k0 (k := 3) (t := 12) (n := 0) rfl hN9
                  refine r_get (T := TX13) (v := .ref (ad b9)) hx hb hts in13 hown hK hP k0 (by decide) rfl 3 (by decide) (hts (.fieldLink RX13 431 "StoneWalkModel" "island" "LStoneWalkModel$Island;") (List.mem_of_getElem? (i := 3) (by decide +kernel))) rfl (t := 2) rfl (by show va_rf _ = _; rw [hN9]; rfl) dX13_size_113 ?_
                  refine r_getN (T := TX12) (v := .int (gI Mg1 b9 4)) hx hb hts in12 hown hK hP kb9 (by decide) rfl 4 (by decide) (hG.2.2.1 ("StoneWalkModel", 317, "StoneWalkModel$Island", "trials", "I", "StoneWalkModel") (List.mem_of_getElem? (i := 22) rfl)) rfl (t := 0) rfl rfl dX13_size_116 ?_
                  have hZ := Option.some.inj h
                  have hZ1 := congrArg Prod.fst hZ
                  have hZ2 := congrArg Prod.snd hZ
                  exact r_iret hx hb hr hlocks hP hK hD hT hG hS hZ1 hZ2 dX13_size_119
              · replace h := ite_f c5_3 h
                by_cases c5_4 : x1 = 4
                · replace h := ite_t c5_4 h
                  refine lv_tableIn (tgt := 120) (off := 82) hx hb dX13_size_38 (by rw [c5_4]; decide) (by rw [c5_4]; decide) (by rw [c5_4]; decide) rfl ?_
                  refine lv_aload_n hx hb dX13_size_120 rfl (lv_at hl 0 rfl) ?_
                  rcases hN10 : gR Mg1 a0 3 with _ | b10
                  · replace h := oc_n hN10 h
                    refine r_get (T := TX13) (v := .null) hx hb hts in13 hown hK hP k0 (by decide) rfl 3 (by decide) (hts (.fieldLink RX13 431 "StoneWalkModel" "island" "LStoneWalkModel$Island;") (List.mem_of_getElem? (i := 3) (by decide +kernel))) rfl (t := 2) rfl (by show va_rf _ = _; rw [hN10]; rfl) dX13_size_121 ?_
                    exact absurd h (by simp)
                  · replace h := oc_s hN10 h
                    have kb10 := hT.f k0 (k := 3) (t := 12) (n := 0) rfl hN10
                    refine r_get (T := TX13) (v := .ref (ad b10)) hx hb hts in13 hown hK hP k0 (by decide) rfl 3 (by decide) (hts (.fieldLink RX13 431 "StoneWalkModel" "island" "LStoneWalkModel$Island;") (List.mem_of_getElem? (i := 3) (by decide +kernel))) rfl (t := 2) rfl (by show va_rf _ = _; rw [hN10]; rfl) dX13_size_121 ?_
                    refine r_getN (T := TX12) (v := .int (gI Mg1 b10 5)) hx hb hts in12 hown hK hP kb10 (by decide) rfl 5 (by decide) (hG.2.2.1 ("StoneWalkModel", 371, "StoneWalkModel$Island", "stories", "I", "StoneWalkModel") (List.mem_of_getElem? (i := 36) rfl)) rfl (t := 0) rfl rfl dX13_size_124 ?_
                    have hZ := Option.some.inj h
                    have hZ1 := congrArg Prod.fst hZ
                    have hZ2 := congrArg Prod.snd hZ
                    exact r_iret hx hb hr hlocks hP hK hD hT hG hS hZ1 hZ2 dX13_size_127
                · replace h := ite_f c5_4 h
                  by_cases c5_5 : x1 = 5
                  · replace h := ite_t c5_5 h
                    refine lv_tableIn (tgt := 128) (off := 90) hx hb dX13_size_38 (by rw [c5_5]; decide) (by rw [c5_5]; decide) (by rw [c5_5]; decide) rfl ?_
                    refine lv_aload_n hx hb dX13_size_128 rfl (lv_at hl 0 rfl) ?_
                    rcases hN11 : gR Mg1 a0 3 with _ | b11
                    · replace h := oc_n hN11 h
                      refine r_get (T := TX13) (v := .null) hx hb hts in13 hown hK hP k0 (by decide) rfl 3 (by decide) (hts (.fieldLink RX13 431 "StoneWalkModel" "island" "LStoneWalkModel$Island;") (List.mem_of_getElem? (i := 3) (by decide +kernel))) rfl (t := 2) rfl (by show va_rf _ = _; rw [hN11]; rfl) dX13_size_129 ?_
                      exact absurd h (by simp)
                    · replace h := oc_s hN11 h
                      have kb11 := hT.f k0 (k := 3) (t := 12) (n := 0) rfl hN11
                      refine r_get (T := TX13) (v := .ref (ad b11)) hx hb hts in13 hown hK hP k0 (by decide) rfl 3 (by decide) (hts (.fieldLink RX13 431 "StoneWalkModel" "island" "LStoneWalkModel$Island;") (List.mem_of_getElem? (i := 3) (by decide +kernel))) rfl (t := 2) rfl (by show va_rf _ = _; rw [hN11]; rfl) dX13_size_129 ?_
                      refine r_getN (T := TX12) (v := .int (gI Mg1 b11 6)) hx hb hts in12 hown hK hP kb11 (by decide) rfl 6 (by decide) (hG.2.2.1 ("StoneWalkModel", 393, "StoneWalkModel$Island", "tellers", "I", "StoneWalkModel") (List.mem_of_getElem? (i := 41) rfl)) rfl (t := 0) rfl rfl dX13_size_132 ?_
                      have hZ := Option.some.inj h
                      have hZ1 := congrArg Prod.fst hZ
                      have hZ2 := congrArg Prod.snd hZ
                      exact r_iret hx hb hr hlocks hP hK hD hT hG hS hZ1 hZ2 dX13_size_135
                  · replace h := ite_f c5_5 h
                    by_cases c5_6 : x1 = 6
                    · replace h := ite_t c5_6 h
                      refine lv_tableIn (tgt := 136) (off := 98) hx hb dX13_size_38 (by rw [c5_6]; decide) (by rw [c5_6]; decide) (by rw [c5_6]; decide) rfl ?_
                      refine lv_aload_n hx hb dX13_size_136 rfl (lv_at hl 0 rfl) ?_
                      rcases hN12 : gR Mg1 a0 3 with _ | b12
                      · replace h := oc_n hN12 h
                        refine r_get (T := TX13) (v := .null) hx hb hts in13 hown hK hP k0 (by decide) rfl 3 (by decide) (hts (.fieldLink RX13 431 "StoneWalkModel" "island" "LStoneWalkModel$Island;") (List.mem_of_getElem? (i := 3) (by decide +kernel))) rfl (t := 2) rfl (by show va_rf _ = _; rw [hN12]; rfl) dX13_size_137 ?_
                        exact absurd h (by simp)
                      · replace h := oc_s hN12 h
                        have kb12 := hT.f k0 (k := 3) (t := 12) (n := 0) rfl hN12
                        refine r_get (T := TX13) (v := .ref (ad b12)) hx hb hts in13 hown hK hP k0 (by decide) rfl 3 (by decide) (hts (.fieldLink RX13 431 "StoneWalkModel" "island" "LStoneWalkModel$Island;") (List.mem_of_getElem? (i := 3) (by decide +kernel))) rfl (t := 2) rfl (by show va_rf _ = _; rw [hN12]; rfl) dX13_size_137 ?_
                        refine r_getN (T := TX12) (v := .int (gI Mg1 b12 7)) hx hb hts in12 hown hK hP kb12 (by decide) rfl 7 (by decide) (hG.2.2.1 ("StoneWalkModel", 409, "StoneWalkModel$Island", "tries", "I", "StoneWalkModel") (List.mem_of_getElem? (i := 44) rfl)) rfl (t := 0) rfl rfl dX13_size_140 ?_
                        have hZ := Option.some.inj h
                        have hZ1 := congrArg Prod.fst hZ
                        have hZ2 := congrArg Prod.snd hZ
                        exact r_iret hx hb hr hlocks hP hK hD hT hG hS hZ1 hZ2 dX13_size_143
                    · replace h := ite_f c5_6 h
                      by_cases c5_7 : x1 = 7
                      · replace h := ite_t c5_7 h
                        refine lv_tableIn (tgt := 144) (off := 106) hx hb dX13_size_38 (by rw [c5_7]; decide) (by rw [c5_7]; decide) (by rw [c5_7]; decide) rfl ?_
                        refine lv_aload_n hx hb dX13_size_144 rfl (lv_at hl 0 rfl) ?_
                        refine r_get (T := TX13) (v := .int (gI Mg1 a0 25)) hx hb hts in13 hown hK hP k0 (by decide) rfl 25 (by decide) (hts (.fieldLink RX13 434 "StoneWalkModel" "seen" "I") (List.mem_of_getElem? (i := 4) (by decide +kernel))) rfl (t := 0) rfl rfl dX13_size_145 ?_
                        have hZ := Option.some.inj h
                        have hZ1 := congrArg Prod.fst hZ
                        have hZ2 := congrArg Prod.snd hZ
                        exact r_iret hx hb hr hlocks hP hK hD hT hG hS hZ1 hZ2 dX13_size_148
                      · replace h := ite_f c5_7 h
                        by_cases c5_8 : x1 = 8
                        · replace h := ite_t c5_8 h
                          refine lv_tableIn (tgt := 149) (off := 111) hx hb dX13_size_38 (by rw [c5_8]; decide) (by rw [c5_8]; decide) (by rw [c5_8]; decide) rfl ?_
                          refine lv_aload_n hx hb dX13_size_149 rfl (lv_at hl 0 rfl) ?_
                          refine r_get (T := TX13) (v := .int (gI Mg1 a0 16)) hx hb hts in13 hown hK hP k0 (by decide) rfl 16 (by decide) (hts (.fieldLink RX13 437 "StoneWalkModel" "seed" "I") (List.mem_of_getElem? (i := 5) (by decide +kernel))) rfl (t := 0) rfl rfl dX13_size_150 ?_
                          have hZ := Option.some.inj h
                          have hZ1 := congrArg Prod.fst hZ
                          have hZ2 := congrArg Prod.snd hZ
                          exact r_iret hx hb hr hlocks hP hK hD hT hG hS hZ1 hZ2 dX13_size_153
                        · replace h := ite_f c5_8 h
                          refine lv_tableOut (tgt := 154) hx hb dX13_size_38 (by
                              have e0 := lv_neT (a := 0) c5_0 rfl
                              have e1 := lv_neT (a := 1) c5_1 rfl
                              have e2 := lv_neT (a := 2) c5_2 rfl
                              have e3 := lv_neT (a := 3) c5_3 rfl
                              have e4 := lv_neT (a := 4) c5_4 rfl
                              have e5 := lv_neT (a := 5) c5_5 rfl
                              have e6 := lv_neT (a := 6) c5_6 rfl
                              have e7 := lv_neT (a := 7) c5_7 rfl
                              have e8 := lv_neT (a := 8) c5_8 rfl
                              omega) rfl ?_
                          refine lv_aload_n hx hb dX13_size_154 rfl (lv_at hl 0 rfl) ?_
                          rcases hN13 : gR Mg1 a0 3 with _ | b13
                          · replace h := oc_n hN13 h
                            refine r_get (T := TX13) (v := .null) hx hb hts in13 hown hK hP k0 (by decide) rfl 3 (by decide) (hts (.fieldLink RX13 431 "StoneWalkModel" "island" "LStoneWalkModel$Island;") (List.mem_of_getElem? (i := 3) (by decide +kernel))) rfl (t := 2) rfl (by show va_rf _ = _; rw [hN13]; rfl) dX13_size_155 ?_
                            exact absurd h (by simp)
                          · replace h := oc_s hN13 h
                            have kb13 := hT.f k0 (k := 3) (t := 12) (n := 0) rfl hN13
                            refine r_get (T := TX13) (v := .ref (ad b13)) hx hb hts in13 hown hK hP k0 (by decide) rfl 3 (by decide) (hts (.fieldLink RX13 431 "StoneWalkModel" "island" "LStoneWalkModel$Island;") (List.mem_of_getElem? (i := 3) (by decide +kernel))) rfl (t := 2) rfl (by show va_rf _ = _; rw [hN13]; rfl) dX13_size_155 ?_
                            refine r_getN (T := TX12) (v := .int (gI Mg1 b13 3)) hx hb hts in12 hown hK hP kb13 (by decide) rfl 3 (by decide) (hG.2.2.1 ("StoneWalkModel", 286, "StoneWalkModel$Island", "lying", "I", "StoneWalkModel") (List.mem_of_getElem? (i := 14) rfl)) rfl (t := 0) rfl rfl dX13_size_158 ?_
                            have hZ := Option.some.inj h
                            have hZ1 := congrArg Prod.fst hZ
                            have hZ2 := congrArg Prod.snd hZ
                            exact r_iret hx hb hr hlocks hP hK hD hT hG hS hZ1 hZ2 dX13_size_161
    · replace h := ite_t c3 h
      refine lv_iconst (v := (-1)) hx hb dX13_size_26 rfl ?_
      have hZ := Option.some.inj h
      have hZ1 := congrArg Prod.fst hZ
      have hZ2 := congrArg Prod.snd hZ
      exact r_iret hx hb hr hlocks hP hK hD hT hG hS hZ1 hZ2 dX13_size_27
  · replace h := ite_t c1 h
    refine lv_aload_n hx hb dX13_size_11 rfl (lv_at hl 0 rfl) ?_
    refine r_get (T := TX13) (v := .int (gI Mg1 a0 6)) hx hb hts in13 hown hK hP k0 (by decide) rfl 6 (by decide) (hts (.fieldLink RX13 424 "StoneWalkModel" "taped" "I") (List.mem_of_getElem? (i := 2) (by decide +kernel))) rfl (t := 0) rfl rfl dX13_size_12 ?_
    have hZ := Option.some.inj h
    have hZ1 := congrArg Prod.fst hZ
    have hZ2 := congrArg Prod.snd hZ
    exact r_iret hx hb hr hlocks hP hK hD hT hG hS hZ1 hZ2 dX13_size_15
set_option maxHeartbeats 4000000 in
set_option maxRecDepth 100000 in
theorem c_X13_statue {l : Launch} {D : va_G} {ad : Nat → Nat} {cy : Nat → ClassId} {A : Nat → Prop} {g : CG} {q : SE} (M : MM) (a0 : Nat) (x1 : Int32) (x2 : Int32) (k0 : ok g a0 13 0) {Z : (Int32 × MM)} (h : f_X13_statue M a0 x1 x2 = some Z) : Met l yX13_statue wsX13_statue ({ frames := 1, cells := 0, slots := 0, locals := 22 }) (va_Pc [.ref (ad a0), .int x1, .int x2] (Wd D ad cy A g q M)) (va_Qi (fun r u => r = Z.1 ∧ u = Z.2) (Wd D ad cy A g q) A) 0 0 A := by
  refine Met.ofW (cc := cX13_statue) (maxL := 3) (ret := (some .int)) (by decide) rfl ?_
  intro p e s m args below meth c s₁ B hml hv
  obtain ⟨rfl, hP, hK, hD, hT, hG⟩ := hv
  have hx := B.exec
  have hb := B.bytes
  have hr := B.returns
  have hts := atoms_spec (ws := wsX13_statue) B.pre
  have hown : s.vm.findClass RX13 = some m.cls := findClass_of_methodNamed B.named
  have hlocks := B.notSynchronized
  have in12 : ∀ w ∈ u_ws RX12 TX12 48, w ∈ wsX13_statue := fun w h => List.mem_cons_of_mem _ (List.mem_append_right _ h)
  have in13 : ∀ w ∈ u_ws RX13 TX13 29, w ∈ wsX13_statue := fun w h => List.mem_cons_of_mem _ (List.mem_append_left _ (List.mem_append_right _ h))
  have hS : va_S A s.heap s.heap [] := va_S.rf
  have hl := lv_entry ([.ref (ad a0), .int x1, .int x2]) (n := 3) (Nat.le_of_ble_eq_true rfl)
  rw [lg_entry_eq]
  generalize (lg_sl ([.ref (ad a0), .int x1, .int x2]) ++ List.replicate (3 - (lg_sl ([.ref (ad a0), .int x1, .int x2])).length) Slot.unset).toArray = ls at hl ⊢
  have hl : lv_has ls 3 [(0, .ref (ad a0)), (1, .int x1), (2, .int x2)] := hl
  unfold f_X13_statue at h
  refine lv_aload_n hx hb dX13_statue_0 rfl (lv_at hl 0 rfl) ?_
  refine lv_iconst (v := 0) hx hb dX13_statue_1 rfl ?_
  refine r_putI (T := TX13) (ty := .int) (v := 0) hx hb hts in13 tyX13 tyX13_ok nmX13 hown hK hP hD hT hS k0 (by decide) rfl 0 (by decide) (hts (.fieldLink RX13 30 "StoneWalkModel" "thrown" "I") (List.mem_of_getElem? (i := 1) (by decide +kernel))) rfl rfl (tyX13_ok 0 (by decide)) rfl rfl rfl dX13_statue_2 (fun H locs hP hD hT hS => ?_)
  generalize pI M a0 0 0 = Mg1 at h hP hD hT ⊢
  refine lv_aload_n hx hb dX13_statue_5 rfl (lv_at hl 0 rfl) ?_
  refine lv_iload_n hx hb dX13_statue_6 rfl (lv_at hl 1 rfl) ?_
  obtain ⟨z1, h1, h⟩ := ob_some h
  refine k_z (va_runV (As := [.int x1]) (rest := []) ⟨hx, hb, hml, hown, hts⟩ (c_X13_isStatue (l := l) Mg1 a0 x1 k0 h1) (cwV 1 hts gX13_statue_X13_isStatue rfl rfl rfl hdV_X13_isStatue ⟨Nat.le_of_ble_eq_true rfl, Nat.le_of_ble_eq_true rfl⟩) (pV (T := TX13) hP hK hD hT hG hS k0 (by decide) rfl) rfl rfl hl.1 rfl (lv_room (Nat.le_of_ble_eq_true rfl)) dX13_statue_7 ⟨Nat.zero_le _, Nat.zero_le _⟩) hS (fun H locs hz1 hP hD hT hS => ?_)
  refine lv_if_eq (tgt := 23) hx hb dX13_statue_10 rfl (fun c2 => ?_) (fun c2 => ?_)
  · replace h := ite_t c2 h
    refine lv_iconst (v := (-1)) hx hb dX13_statue_23 rfl ?_
    have hZ := Option.some.inj h
    have hZ1 := congrArg Prod.fst hZ
    have hZ2 := congrArg Prod.snd hZ
    exact r_iret hx hb hr hlocks hP hK hD hT hG hS hZ1 hZ2 dX13_statue_24
  · replace h := ite_f c2 h
    refine lv_iload_n hx hb dX13_statue_13 rfl (lv_at hl 2 rfl) ?_
    refine lv_iconst (v := 0) hx hb dX13_statue_14 rfl ?_
    refine lv_bipush (v := 6) hx hb dX13_statue_15 rfl ?_
    obtain ⟨z3, h3, h⟩ := ob_some h
    refine k_z (va_runS (As := [.int x2, .int 0, .int 6]) (rest := []) ⟨hx, hb, hml, hown, hts⟩ (c_X13_in (l := l) Mg1 x2 0 6 h3) (va_cwS 3 hts gX13_statue_X13_in rfl rfl rfl hdS_X13_in ⟨Nat.le_of_ble_eq_true rfl, Nat.le_of_ble_eq_true rfl⟩) (pS hP hK hD hT hG hS) rfl rfl hl.1 rfl (lv_room (Nat.le_of_ble_eq_true rfl)) dX13_statue_17 ⟨Nat.zero_le _, Nat.zero_le _⟩) hS (fun H locs hz3 hP hD hT hS => ?_)
    refine lv_if_ne (tgt := 25) hx hb dX13_statue_20 rfl (fun c4 => ?_) (fun c4 => ?_)
    · replace h := ite_f c4 h
      refine lv_iload_n hx hb dX13_statue_25 rfl (lv_at hl 2 rfl) ?_
      by_cases c5_0 : x2 = 0
      · replace h := ite_t c5_0 h
        refine lv_tableIn (tgt := 64) (off := 38) hx hb dX13_statue_26 (by rw [c5_0]; decide) (by rw [c5_0]; decide) (by rw [c5_0]; decide) rfl ?_
        refine lv_aload_n hx hb dX13_statue_64 rfl (lv_at hl 0 rfl) ?_
        rcases hN6 : gR Mg1 a0 3 with _ | b6
        · replace h := oc_n hN6 h
          refine r_get (T := TX13) (v := .null) hx hb hts in13 hown hK hP k0 (by decide) rfl 3 (by decide) (hts (.fieldLink RX13 431 "StoneWalkModel" "island" "LStoneWalkModel$Island;") (List.mem_of_getElem? (i := 2) (by decide +kernel))) rfl (t := 2) rfl (by show va_rf _ = _; rw [hN6]; rfl) dX13_statue_65 ?_
          exact absurd h (by simp)
        · replace h := oc_s hN6 h
          have kb6 := hT.f k0 (k := 3) (t := 12) (n := 0) rfl hN6
          refine r_get (T := TX13) (v := .ref (ad b6)) hx hb hts in13 hown hK hP k0 (by decide) rfl 3 (by decide) (hts (.fieldLink RX13 431 "StoneWalkModel" "island" "LStoneWalkModel$Island;") (List.mem_of_getElem? (i := 2) (by decide +kernel))) rfl (t := 2) rfl (by show va_rf _ = _; rw [hN6]; rfl) dX13_statue_65 ?_
          rcases hN7 : gR Mg1 b6 15 with _ | b7
          · exact absurd (oc_n hN7 h) (by simp)
          replace h := oc_s hN7 h
          have kb7 := hT.f kb6 (k := 15) (t := 15) (n := 10) rfl hN7
          refine r_getN (T := TX12) (v := .ref (ad b7)) hx hb hts in12 hown hK hP kb6 (by decide) rfl 15 (by decide) (hG.2.2.1 ("StoneWalkModel", 301, "StoneWalkModel$Island", "tons", "[I", "StoneWalkModel") (List.mem_of_getElem? (i := 15) rfl)) rfl (t := 2) rfl (by show va_rf _ = _; rw [hN7]; rfl) dX13_statue_68 ?_
          refine lv_iload_n hx hb dX13_statue_71 rfl (lv_at hl 1 rfl) ?_
          obtain ⟨hn8, h⟩ := chk_some h
          refine r_iald hx hb hK hP kb7 hn8 dX13_statue_72 ?_
          have hZ := Option.some.inj h
          have hZ1 := congrArg Prod.fst hZ
          have hZ2 := congrArg Prod.snd hZ
          exact r_iret hx hb hr hlocks hP hK hD hT hG hS hZ1 hZ2 dX13_statue_73
      · replace h := ite_f c5_0 h
        by_cases c5_1 : x2 = 1
        · replace h := ite_t c5_1 h
          refine lv_tableIn (tgt := 74) (off := 48) hx hb dX13_statue_26 (by rw [c5_1]; decide) (by rw [c5_1]; decide) (by rw [c5_1]; decide) rfl ?_
          refine lv_aload_n hx hb dX13_statue_74 rfl (lv_at hl 0 rfl) ?_
          rcases hN9 : gR Mg1 a0 3 with _ | b9
          · replace h := oc_n hN9 h
            refine r_get (T := TX13) (v := .null) hx hb hts in13 hown hK hP k0 (by decide) rfl 3 (by decide) (hts (.fieldLink RX13 431 "StoneWalkModel" "island" "LStoneWalkModel$Island;") (List.mem_of_getElem? (i := 2) (by decide +kernel))) rfl (t := 2) rfl (by show va_rf _ = _; rw [hN9]; rfl) dX13_statue_75 ?_
            exact absurd h (by simp)
          · replace h := oc_s hN9 h
            have kb9 := hT.f k0 (k := 3) (t := 12) (n := 0) rfl hN9
            refine r_get (T := TX13) (v := .ref (ad b9)) hx hb hts in13 hown hK hP k0 (by decide) rfl 3 (by decide) (hts (.fieldLink RX13 431 "StoneWalkModel" "island" "LStoneWalkModel$Island;") (List.mem_of_getElem? (i := 2) (by decide +kernel))) rfl (t := 2) rfl (by show va_rf _ = _; rw [hN9]; rfl) dX13_statue_75 ?_
            rcases hN10 : gR Mg1 b9 16 with _ | b10
            · exact absurd (oc_n hN10 h) (by simp)
            replace h := oc_s hN10 h
            have kb10 := hT.f kb9 (k := 16) (t := 15) (n := 10) rfl hN10
            refine r_getN (T := TX12) (v := .ref (ad b10)) hx hb hts in12 hown hK hP kb9 (by decide) rfl 16 (by decide) (hG.2.2.1 ("StoneWalkModel", 303, "StoneWalkModel$Island", "lean", "[I", "StoneWalkModel") (List.mem_of_getElem? (i := 16) rfl)) rfl (t := 2) rfl (by show va_rf _ = _; rw [hN10]; rfl) dX13_statue_78 ?_
            refine lv_iload_n hx hb dX13_statue_81 rfl (lv_at hl 1 rfl) ?_
            obtain ⟨hn11, h⟩ := chk_some h
            refine r_iald hx hb hK hP kb10 hn11 dX13_statue_82 ?_
            have hZ := Option.some.inj h
            have hZ1 := congrArg Prod.fst hZ
            have hZ2 := congrArg Prod.snd hZ
            exact r_iret hx hb hr hlocks hP hK hD hT hG hS hZ1 hZ2 dX13_statue_83
        · replace h := ite_f c5_1 h
          by_cases c5_2 : x2 = 2
          · replace h := ite_t c5_2 h
            refine lv_tableIn (tgt := 84) (off := 58) hx hb dX13_statue_26 (by rw [c5_2]; decide) (by rw [c5_2]; decide) (by rw [c5_2]; decide) rfl ?_
            refine lv_aload_n hx hb dX13_statue_84 rfl (lv_at hl 0 rfl) ?_
            rcases hN12 : gR Mg1 a0 3 with _ | b12
            · replace h := oc_n hN12 h
              refine r_get (T := TX13) (v := .null) hx hb hts in13 hown hK hP k0 (by decide) rfl 3 (by decide) (hts (.fieldLink RX13 431 "StoneWalkModel" "island" "LStoneWalkModel$Island;") (List.mem_of_getElem? (i := 2) (by decide +kernel))) rfl (t := 2) rfl (by show va_rf _ = _; rw [hN12]; rfl) dX13_statue_85 ?_
              exact absurd h (by simp)
            · replace h := oc_s hN12 h
              have kb12 := hT.f k0 (k := 3) (t := 12) (n := 0) rfl hN12
              refine r_get (T := TX13) (v := .ref (ad b12)) hx hb hts in13 hown hK hP k0 (by decide) rfl 3 (by decide) (hts (.fieldLink RX13 431 "StoneWalkModel" "island" "LStoneWalkModel$Island;") (List.mem_of_getElem? (i := 2) (by decide +kernel))) rfl (t := 2) rfl (by show va_rf _ = _; rw [hN12]; rfl) dX13_statue_85 ?_
              rcases hN13 : gR Mg1 b12 17 with _ | b13
              · exact absurd (oc_n hN13 h) (by simp)
              replace h := oc_s hN13 h
              have kb13 := hT.f kb12 (k := 17) (t := 15) (n := 10) rfl hN13
              refine r_getN (T := TX12) (v := .ref (ad b13)) hx hb hts in12 hown hK hP kb12 (by decide) rfl 17 (by decide) (hG.2.2.1 ("StoneWalkModel", 305, "StoneWalkModel$Island", "edge", "[I", "StoneWalkModel") (List.mem_of_getElem? (i := 17) rfl)) rfl (t := 2) rfl (by show va_rf _ = _; rw [hN13]; rfl) dX13_statue_88 ?_
              refine lv_iload_n hx hb dX13_statue_91 rfl (lv_at hl 1 rfl) ?_
              obtain ⟨hn14, h⟩ := chk_some h
              refine r_iald hx hb hK hP kb13 hn14 dX13_statue_92 ?_
              have hZ := Option.some.inj h
              have hZ1 := congrArg Prod.fst hZ
              have hZ2 := congrArg Prod.snd hZ
              exact r_iret hx hb hr hlocks hP hK hD hT hG hS hZ1 hZ2 dX13_statue_93
          · replace h := ite_f c5_2 h
            by_cases c5_3 : x2 = 3
            · replace h := ite_t c5_3 h
              refine lv_tableIn (tgt := 94) (off := 68) hx hb dX13_statue_26 (by rw [c5_3]; decide) (by rw [c5_3]; decide) (by rw [c5_3]; decide) rfl ?_
              refine lv_aload_n hx hb dX13_statue_94 rfl (lv_at hl 0 rfl) ?_
              rcases hN15 : gR Mg1 a0 3 with _ | b15
              · replace h := oc_n hN15 h
                refine r_get (T := TX13) (v := .null) hx hb hts in13 hown hK hP k0 (by decide) rfl 3 (by decide) (hts (.fieldLink RX13 431 "StoneWalkModel" "island" "LStoneWalkModel$Island;") (List.mem_of_getElem? (i := 2) (by decide +kernel))) rfl (t := 2) rfl (by show va_rf _ = _; rw [hN15]; rfl) dX13_statue_95 ?_
                exact absurd h (by simp)
              · replace h := oc_s hN15 h
                have kb15 := hT.f k0 (k := 3) (t := 12) (n := 0) rfl hN15
                refine r_get (T := TX13) (v := .ref (ad b15)) hx hb hts in13 hown hK hP k0 (by decide) rfl 3 (by decide) (hts (.fieldLink RX13 431 "StoneWalkModel" "island" "LStoneWalkModel$Island;") (List.mem_of_getElem? (i := 2) (by decide +kernel))) rfl (t := 2) rfl (by show va_rf _ = _; rw [hN15]; rfl) dX13_statue_95 ?_
                rcases hN16 : gR Mg1 b15 18 with _ | b16
                · exact absurd (oc_n hN16 h) (by simp)
                replace h := oc_s hN16 h
                have kb16 := hT.f kb15 (k := 18) (t := 15) (n := 10) rfl hN16
                refine r_getN (T := TX12) (v := .ref (ad b16)) hx hb hts in12 hown hK hP kb15 (by decide) rfl 18 (by decide) (hG.2.2.1 ("StoneWalkModel", 307, "StoneWalkModel$Island", "sort", "[I", "StoneWalkModel") (List.mem_of_getElem? (i := 18) rfl)) rfl (t := 2) rfl (by show va_rf _ = _; rw [hN16]; rfl) dX13_statue_98 ?_
                refine lv_iload_n hx hb dX13_statue_101 rfl (lv_at hl 1 rfl) ?_
                obtain ⟨hn17, h⟩ := chk_some h
                refine r_iald hx hb hK hP kb16 hn17 dX13_statue_102 ?_
                have hZ := Option.some.inj h
                have hZ1 := congrArg Prod.fst hZ
                have hZ2 := congrArg Prod.snd hZ
                exact r_iret hx hb hr hlocks hP hK hD hT hG hS hZ1 hZ2 dX13_statue_103
            · replace h := ite_f c5_3 h
              by_cases c5_4 : x2 = 4
              · replace h := ite_t c5_4 h
                refine lv_tableIn (tgt := 104) (off := 78) hx hb dX13_statue_26 (by rw [c5_4]; decide) (by rw [c5_4]; decide) (by rw [c5_4]; decide) rfl ?_
                refine lv_aload_n hx hb dX13_statue_104 rfl (lv_at hl 0 rfl) ?_
                rcases hN18 : gR Mg1 a0 3 with _ | b18
                · replace h := oc_n hN18 h
                  refine r_get (T := TX13) (v := .null) hx hb hts in13 hown hK hP k0 (by decide) rfl 3 (by decide) (hts (.fieldLink RX13 431 "StoneWalkModel" "island" "LStoneWalkModel$Island;") (List.mem_of_getElem? (i := 2) (by decide +kernel))) rfl (t := 2) rfl (by show va_rf _ = _; rw [hN18]; rfl) dX13_statue_105 ?_
                  exact absurd h (by simp)
                · replace h := oc_s hN18 h
                  have kb18 := hT.f k0 (k := 3) (t := 12) (n := 0) rfl hN18
                  refine r_get (T := TX13) (v := .ref (ad b18)) hx hb hts in13 hown hK hP k0 (by decide) rfl 3 (by decide) (hts (.fieldLink RX13 431 "StoneWalkModel" "island" "LStoneWalkModel$Island;") (List.mem_of_getElem? (i := 2) (by decide +kernel))) rfl (t := 2) rfl (by show va_rf _ = _; rw [hN18]; rfl) dX13_statue_105 ?_
                  rcases hN19 : gR Mg1 b18 19 with _ | b19
                  · exact absurd (oc_n hN19 h) (by simp)
                  replace h := oc_s hN19 h
                  have kb19 := hT.f kb18 (k := 19) (t := 15) (n := 10) rfl hN19
                  refine r_getN (T := TX12) (v := .ref (ad b19)) hx hb hts in12 hown hK hP kb18 (by decide) rfl 19 (by decide) (hG.2.2.1 ("StoneWalkModel", 309, "StoneWalkModel$Island", "lie", "[I", "StoneWalkModel") (List.mem_of_getElem? (i := 19) rfl)) rfl (t := 2) rfl (by show va_rf _ = _; rw [hN19]; rfl) dX13_statue_108 ?_
                  refine lv_iload_n hx hb dX13_statue_111 rfl (lv_at hl 1 rfl) ?_
                  obtain ⟨hn20, h⟩ := chk_some h
                  refine r_iald hx hb hK hP kb19 hn20 dX13_statue_112 ?_
                  have hZ := Option.some.inj h
                  have hZ1 := congrArg Prod.fst hZ
                  have hZ2 := congrArg Prod.snd hZ
                  exact r_iret hx hb hr hlocks hP hK hD hT hG hS hZ1 hZ2 dX13_statue_113
              · replace h := ite_f c5_4 h
                by_cases c5_5 : x2 = 5
                · replace h := ite_t c5_5 h
                  refine lv_tableIn (tgt := 114) (off := 88) hx hb dX13_statue_26 (by rw [c5_5]; decide) (by rw [c5_5]; decide) (by rw [c5_5]; decide) rfl ?_
                  refine lv_aload_n hx hb dX13_statue_114 rfl (lv_at hl 0 rfl) ?_
                  rcases hN21 : gR Mg1 a0 3 with _ | b21
                  · replace h := oc_n hN21 h
                    refine r_get (T := TX13) (v := .null) hx hb hts in13 hown hK hP k0 (by decide) rfl 3 (by decide) (hts (.fieldLink RX13 431 "StoneWalkModel" "island" "LStoneWalkModel$Island;") (List.mem_of_getElem? (i := 2) (by decide +kernel))) rfl (t := 2) rfl (by show va_rf _ = _; rw [hN21]; rfl) dX13_statue_115 ?_
                    exact absurd h (by simp)
                  · replace h := oc_s hN21 h
                    have kb21 := hT.f k0 (k := 3) (t := 12) (n := 0) rfl hN21
                    refine r_get (T := TX13) (v := .ref (ad b21)) hx hb hts in13 hown hK hP k0 (by decide) rfl 3 (by decide) (hts (.fieldLink RX13 431 "StoneWalkModel" "island" "LStoneWalkModel$Island;") (List.mem_of_getElem? (i := 2) (by decide +kernel))) rfl (t := 2) rfl (by show va_rf _ = _; rw [hN21]; rfl) dX13_statue_115 ?_
                    rcases hN22 : gR Mg1 b21 20 with _ | b22
                    · exact absurd (oc_n hN22 h) (by simp)
                    replace h := oc_s hN22 h
                    have kb22 := hT.f kb21 (k := 20) (t := 15) (n := 10) rfl hN22
                    refine r_getN (T := TX12) (v := .ref (ad b22)) hx hb hts in12 hown hK hP kb21 (by decide) rfl 20 (by decide) (hG.2.2.1 ("StoneWalkModel", 312, "StoneWalkModel$Island", "on", "[I", "StoneWalkModel") (List.mem_of_getElem? (i := 20) rfl)) rfl (t := 2) rfl (by show va_rf _ = _; rw [hN22]; rfl) dX13_statue_118 ?_
                    refine lv_iload_n hx hb dX13_statue_121 rfl (lv_at hl 1 rfl) ?_
                    obtain ⟨hn23, h⟩ := chk_some h
                    refine r_iald hx hb hK hP kb22 hn23 dX13_statue_122 ?_
                    have hZ := Option.some.inj h
                    have hZ1 := congrArg Prod.fst hZ
                    have hZ2 := congrArg Prod.snd hZ
                    exact r_iret hx hb hr hlocks hP hK hD hT hG hS hZ1 hZ2 dX13_statue_123
                · replace h := ite_f c5_5 h
                  refine lv_tableOut (tgt := 124) hx hb dX13_statue_26 (by
                      have e0 := lv_neT (a := 0) c5_0 rfl
                      have e1 := lv_neT (a := 1) c5_1 rfl
                      have e2 := lv_neT (a := 2) c5_2 rfl
                      have e3 := lv_neT (a := 3) c5_3 rfl
                      have e4 := lv_neT (a := 4) c5_4 rfl
                      have e5 := lv_neT (a := 5) c5_5 rfl
                      omega) rfl ?_
                  refine lv_aload_n hx hb dX13_statue_124 rfl (lv_at hl 0 rfl) ?_
                  rcases hN24 : gR Mg1 a0 3 with _ | b24
                  · replace h := oc_n hN24 h
                    refine r_get (T := TX13) (v := .null) hx hb hts in13 hown hK hP k0 (by decide) rfl 3 (by decide) (hts (.fieldLink RX13 431 "StoneWalkModel" "island" "LStoneWalkModel$Island;") (List.mem_of_getElem? (i := 2) (by decide +kernel))) rfl (t := 2) rfl (by show va_rf _ = _; rw [hN24]; rfl) dX13_statue_125 ?_
                    exact absurd h (by simp)
                  · replace h := oc_s hN24 h
                    have kb24 := hT.f k0 (k := 3) (t := 12) (n := 0) rfl hN24
                    refine r_get (T := TX13) (v := .ref (ad b24)) hx hb hts in13 hown hK hP k0 (by decide) rfl 3 (by decide) (hts (.fieldLink RX13 431 "StoneWalkModel" "island" "LStoneWalkModel$Island;") (List.mem_of_getElem? (i := 2) (by decide +kernel))) rfl (t := 2) rfl (by show va_rf _ = _; rw [hN24]; rfl) dX13_statue_125 ?_
                    rcases hN25 : gR Mg1 b24 21 with _ | b25
                    · exact absurd (oc_n hN25 h) (by simp)
                    replace h := oc_s hN25 h
                    have kb25 := hT.f kb24 (k := 21) (t := 15) (n := 10) rfl hN25
                    refine r_getN (T := TX12) (v := .ref (ad b25)) hx hb hts in12 hown hK hP kb24 (by decide) rfl 21 (by decide) (hG.2.2.1 ("StoneWalkModel", 314, "StoneWalkModel$Island", "there", "[I", "StoneWalkModel") (List.mem_of_getElem? (i := 21) rfl)) rfl (t := 2) rfl (by show va_rf _ = _; rw [hN25]; rfl) dX13_statue_128 ?_
                    refine lv_iload_n hx hb dX13_statue_131 rfl (lv_at hl 1 rfl) ?_
                    obtain ⟨hn26, h⟩ := chk_some h
                    refine r_iald hx hb hK hP kb25 hn26 dX13_statue_132 ?_
                    have hZ := Option.some.inj h
                    have hZ1 := congrArg Prod.fst hZ
                    have hZ2 := congrArg Prod.snd hZ
                    exact r_iret hx hb hr hlocks hP hK hD hT hG hS hZ1 hZ2 dX13_statue_133
    · replace h := ite_t c4 h
      refine lv_iconst (v := (-1)) hx hb dX13_statue_23 rfl ?_
      have hZ := Option.some.inj h
      have hZ1 := congrArg Prod.fst hZ
      have hZ2 := congrArg Prod.snd hZ
      exact r_iret hx hb hr hlocks hP hK hD hT hG hS hZ1 hZ2 dX13_statue_24
set_option maxHeartbeats 4000000 in
set_option maxRecDepth 100000 in
theorem c_X13_trouble {l : Launch} {D : va_G} {ad : Nat → Nat} {cy : Nat → ClassId} {A : Nat → Prop} {g : CG} {q : SE} (M : MM) (a0 : Nat) (k0 : ok g a0 13 0) {Z : (Int32 × MM)} (h : f_X13_trouble M a0 = some Z) : Met l yX13_trouble wsX13_trouble ({ frames := 0, cells := 0, slots := 0, locals := 0 }) (va_Pc [.ref (ad a0)] (Wd D ad cy A g q M)) (va_Qi (fun r u => r = Z.1 ∧ u = Z.2) (Wd D ad cy A g q) A) 0 0 A := by
  refine Met.ofW (cc := cX13_trouble) (maxL := 1) (ret := (some .int)) (by decide) rfl ?_
  intro p e s m args below meth c s₁ B hml hv
  obtain ⟨rfl, hP, hK, hD, hT, hG⟩ := hv
  have hx := B.exec
  have hb := B.bytes
  have hr := B.returns
  have hts := atoms_spec (ws := wsX13_trouble) B.pre
  have hown : s.vm.findClass RX13 = some m.cls := findClass_of_methodNamed B.named
  have hlocks := B.notSynchronized
  have in13 : ∀ w ∈ u_ws RX13 TX13 29, w ∈ wsX13_trouble := fun w h => List.mem_cons_of_mem _ (List.mem_append_right _ h)
  have hS : va_S A s.heap s.heap [] := va_S.rf
  have hl := lv_entry ([.ref (ad a0)]) (n := 1) (Nat.le_of_ble_eq_true rfl)
  rw [lg_entry_eq]
  generalize (lg_sl ([.ref (ad a0)]) ++ List.replicate (1 - (lg_sl ([.ref (ad a0)])).length) Slot.unset).toArray = ls at hl ⊢
  have hl : lv_has ls 1 [(0, .ref (ad a0))] := hl
  unfold f_X13_trouble at h
  refine lv_aload_n hx hb dX13_trouble_0 rfl (lv_at hl 0 rfl) ?_
  refine lv_iconst (v := 0) hx hb dX13_trouble_1 rfl ?_
  refine r_putI (T := TX13) (ty := .int) (v := 0) hx hb hts in13 tyX13 tyX13_ok nmX13 hown hK hP hD hT hS k0 (by decide) rfl 0 (by decide) (hts (.fieldLink RX13 30 "StoneWalkModel" "thrown" "I") (List.mem_of_getElem? (i := 1) (by decide +kernel))) rfl rfl (tyX13_ok 0 (by decide)) rfl rfl rfl dX13_trouble_2 (fun H locs hP hD hT hS => ?_)
  generalize pI M a0 0 0 = Mg1 at h hP hD hT ⊢
  refine lv_aload_n hx hb dX13_trouble_5 rfl (lv_at hl 0 rfl) ?_
  refine r_get (T := TX13) (v := .int (gI Mg1 a0 1)) hx hb hts in13 hown hK hP k0 (by decide) rfl 1 (by decide) (hts (.fieldLink RX13 33 "StoneWalkModel" "trouble" "I") (List.mem_of_getElem? (i := 2) (by decide +kernel))) rfl (t := 0) rfl rfl dX13_trouble_6 ?_
  have hZ := Option.some.inj h
  have hZ1 := congrArg Prod.fst hZ
  have hZ2 := congrArg Prod.snd hZ
  exact r_iret hx hb hr hlocks hP hK hD hT hG hS hZ1 hZ2 dX13_trouble_9
