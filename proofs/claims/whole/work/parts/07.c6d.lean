set_option maxHeartbeats 4000000 in
set_option maxRecDepth 100000 in
theorem c_X13_takes {l : Launch} {D : va_G} {ad : Nat → Nat} {cy : Nat → ClassId} {A : Nat → Prop} {g : CG} {q : SE} (M : MM) (a0 : Nat) (x1 : Int32) (x2 : Int32) (x3 : Int32) (k0 : ok g a0 13 0) {Z : (Int32 × MM)} (h : f_X13_takes M a0 x1 x2 x3 = some Z) : Met l yX13_takes wsX13_takes ({ frames := 1, cells := 0, slots := 0, locals := 22 }) (va_Pc [.ref (ad a0), .int x1, .int x2, .int x3] (Wd D ad cy A g q M)) (va_Qi (fun r u => r = Z.1 ∧ u = Z.2) (Wd D ad cy A g q) A) 0 0 A := by
  refine Met.ofW (cc := cX13_takes) (maxL := 7) (ret := (some .int)) (by decide) rfl ?_
  intro p e s m args below meth c s₁ B hml hv
  obtain ⟨rfl, hP, hK, hD, hT, hG⟩ := hv
  have hx := B.exec
  have hb := B.bytes
  have hr := B.returns
  have hts := atoms_spec (ws := wsX13_takes) B.pre
  have hown : s.vm.findClass RX13 = some m.cls := findClass_of_methodNamed B.named
  have hlocks := B.notSynchronized
  have in12 : ∀ w ∈ u_ws RX12 TX12 48, w ∈ wsX13_takes := fun w h => List.mem_cons_of_mem _ (List.mem_append_right _ h)
  have in13 : ∀ w ∈ u_ws RX13 TX13 29, w ∈ wsX13_takes := fun w h => List.mem_cons_of_mem _ (List.mem_append_left _ (List.mem_append_right _ h))
  have hS : va_S A s.heap s.heap [] := va_S.rf
  have hl := lv_entry ([.ref (ad a0), .int x1, .int x2, .int x3]) (n := 7) (Nat.le_of_ble_eq_true rfl)
  rw [lg_entry_eq]
  generalize (lg_sl ([.ref (ad a0), .int x1, .int x2, .int x3]) ++ List.replicate (7 - (lg_sl ([.ref (ad a0), .int x1, .int x2, .int x3])).length) Slot.unset).toArray = ls at hl ⊢
  have hl : lv_has ls 7 [(0, .ref (ad a0)), (1, .int x1), (2, .int x2), (3, .int x3)] := hl
  unfold f_X13_takes at h
  refine lv_aload_n hx hb dX13_takes_0 rfl (lv_at hl 0 rfl) ?_
  refine lv_iconst (v := 0) hx hb dX13_takes_1 rfl ?_
  refine r_putI (T := TX13) (ty := .int) (v := 0) hx hb hts in13 tyX13 tyX13_ok nmX13 hown hK hP hD hT hS k0 (by decide) rfl 0 (by decide) (hts (.fieldLink RX13 30 "StoneWalkModel" "thrown" "I") (List.mem_of_getElem? (i := 1) (by decide +kernel))) rfl rfl (tyX13_ok 0 (by decide)) rfl rfl rfl dX13_takes_2 (fun H locs hP hD hT hS => ?_)
  generalize pI M a0 0 0 = Mg1 at h hP hD hT ⊢
  refine lv_aload_n hx hb dX13_takes_5 rfl (lv_at hl 0 rfl) ?_
  refine lv_iload_n hx hb dX13_takes_6 rfl (lv_at hl 1 rfl) ?_
  obtain ⟨z1, h1, h⟩ := ob_some h
  refine k_z (va_runV (As := [.int x1]) (rest := []) ⟨hx, hb, hml, hown, hts⟩ (c_X13_isWay (l := l) Mg1 a0 x1 k0 h1) (cwV 1 hts gX13_takes_X13_isWay rfl rfl rfl hdV_X13_isWay ⟨Nat.le_of_ble_eq_true rfl, Nat.le_of_ble_eq_true rfl⟩) (pV (T := TX13) hP hK hD hT hG hS k0 (by decide) rfl) rfl rfl hl.1 rfl (lv_room (Nat.le_of_ble_eq_true rfl)) dX13_takes_7 ⟨Nat.zero_le _, Nat.zero_le _⟩) hS (fun H locs hz1 hP hD hT hS => ?_)
  refine lv_if_ne (tgt := 19) hx hb dX13_takes_10 rfl (fun c2 => ?_) (fun c2 => ?_)
  · replace h := ite_f c2 h
    refine lv_iload_n hx hb dX13_takes_19 rfl (lv_at hl 2 rfl) ?_
    refine lv_iconst (v := 1) hx hb dX13_takes_20 rfl ?_
    refine lv_sipush (v := 9999) hx hb dX13_takes_21 rfl ?_
    obtain ⟨z3, h3, h⟩ := ob_some h
    refine k_z (va_runS (As := [.int x2, .int 1, .int 9999]) (rest := []) ⟨hx, hb, hml, hown, hts⟩ (c_X13_in (l := l) Mg1 x2 1 9999 h3) (va_cwS 3 hts gX13_takes_X13_in rfl rfl rfl hdS_X13_in ⟨Nat.le_of_ble_eq_true rfl, Nat.le_of_ble_eq_true rfl⟩) (pS hP hK hD hT hG hS) rfl rfl hl.1 rfl (lv_room (Nat.le_of_ble_eq_true rfl)) dX13_takes_24 ⟨Nat.zero_le _, Nat.zero_le _⟩) hS (fun H locs hz3 hP hD hT hS => ?_)
    refine lv_if_ne (tgt := 36) hx hb dX13_takes_27 rfl (fun c4 => ?_) (fun c4 => ?_)
    · replace h := ite_f c4 h
      refine lv_iconst (v := (-1)) hx hb dX13_takes_36 rfl ?_
      refine lv_istore (lv' := [(4, .int (-1)), (0, .ref (ad a0)), (1, .int x1), (2, .int x2), (3, .int x3)]) hx hb dX13_takes_37 hl (by decide) rfl (fun ls hl => ?_)
      refine lv_iconst (v := 0) hx hb dX13_takes_39 rfl ?_
      refine lv_istore (lv' := [(5, .int 0), (4, .int (-1)), (0, .ref (ad a0)), (1, .int x1), (2, .int x2), (3, .int x3)]) hx hb dX13_takes_40 hl (by decide) rfl (fun ls hl => ?_)
      have L5 : ∀ n5 : Nat, ∀ (M5 : MM) (y5_0 : Nat) (y5_1 : Int32) (y5_2 : Int32) (y5_3 : Int32) (y5_4 : Int32) (y5_5 : Int32) (ky5_0 : ok g y5_0 13 0) (H : Heap) (locs : List Loc), f_X13_takes_L42 n5 M5 y5_0 y5_1 y5_2 y5_3 y5_4 y5_5 = some Z → va_P D vwCl (wd ad cy g M5) H → va_D A (wd ad cy g M5) → WT g M5 → va_S A s.heap H locs → ∀ (ls : Array Slot), lv_has ls 7 [(0, .ref (ad y5_0)), (1, .int y5_1), (2, .int y5_2), (3, .int y5_3), (4, .int y5_4), (5, .int y5_5)] → W p l e ((headSpec wsX13_takes ({ frames := 1, cells := 0, slots := 0, locals := 22 })).room) s m (([.ref (ad a0), .int x1, .int x2, .int x3] : List Value).toArray) below meth c H locs 0 0 (MQ below (va_Qi (fun r u => r = Z.1 ∧ u = Z.2) (Wd D ad cy A g q) A) ([.ref (ad a0), .int x1, .int x2, .int x3]).toArray s 0 0 A) (F0 m 42 ls []) := by
        intro n5
        induction n5 with
        | zero => intro M5 y5_0 y5_1 y5_2 y5_3 y5_4 y5_5 ky5_0 H locs h; exact absurd h (by simp [f_X13_takes_L42])
        | succ n5 ih5 =>
          intro M5 y5_0 y5_1 y5_2 y5_3 y5_4 y5_5 ky5_0 H locs h hP hD hT hS ls hl
          rw [f_X13_takes_L42] at h
          refine lv_iload hx hb dX13_takes_42 (lv_at hl 5 rfl) ?_
          refine lv_aload_n hx hb dX13_takes_44 rfl (lv_at hl 0 rfl) ?_
          rcases hN6 : gR M5 y5_0 3 with _ | b6
          · replace h := oc_n hN6 h
            refine r_get (T := TX13) (v := .null) hx hb hts in13 hown hK hP ky5_0 (by decide) rfl 3 (by decide) (hts (.fieldLink RX13 431 "StoneWalkModel" "island" "LStoneWalkModel$Island;") (List.mem_of_getElem? (i := 2) (by decide +kernel))) rfl (t := 2) rfl (by show va_rf _ = _; rw [hN6]; rfl) dX13_takes_45 ?_
            exact absurd h (by simp)
          · replace h := oc_s hN6 h
            have kb6 := hT.f ky5_0 (k := 3) (t := 12) (n := 0) rfl hN6
            refine r_get (T := TX13) (v := .ref (ad b6)) hx hb hts in13 hown hK hP ky5_0 (by decide) rfl 3 (by decide) (hts (.fieldLink RX13 431 "StoneWalkModel" "island" "LStoneWalkModel$Island;") (List.mem_of_getElem? (i := 2) (by decide +kernel))) rfl (t := 2) rfl (by show va_rf _ = _; rw [hN6]; rfl) dX13_takes_45 ?_
            refine r_getN (T := TX12) (v := .int (gI M5 b6 4)) hx hb hts in12 hown hK hP kb6 (by decide) rfl 4 (by decide) (hG.2.2.1 ("StoneWalkModel", 317, "StoneWalkModel$Island", "trials", "I", "StoneWalkModel") (List.mem_of_getElem? (i := 22) rfl)) rfl (t := 0) rfl rfl dX13_takes_48 ?_
            refine lv_icmp_ge (tgt := 140) hx hb dX13_takes_51 rfl (fun c7 => ?_) (fun c7 => ?_)
            · replace h := ite_t c7 h
              refine lv_iload hx hb dX13_takes_140 (lv_at hl 4 rfl) ?_
              refine lv_iconst (v := (-1)) hx hb dX13_takes_142 rfl ?_
              refine lv_icmp_ne (tgt := 155) hx hb dX13_takes_143 rfl (fun c8 => ?_) (fun c8 => ?_)
              · replace h := ite_f c8 h
                refine lv_aload_n hx hb dX13_takes_155 rfl (lv_at hl 0 rfl) ?_
                refine lv_iload hx hb dX13_takes_156 (lv_at hl 4 rfl) ?_
                obtain ⟨z9, h9, h⟩ := ob_some h
                refine k_i (va_runV (As := [.int y5_4]) (rest := []) ⟨hx, hb, hml, hown, hts⟩ (c_X13_done (l := l) M5 y5_0 y5_4 ky5_0 h9) (cwV 1 hts gX13_takes_X13_done rfl rfl rfl hdV_X13_done ⟨Nat.le_of_ble_eq_true rfl, Nat.le_of_ble_eq_true rfl⟩) (pV (T := TX13) hP hK hD hT hG hS ky5_0 (by decide) rfl) rfl rfl hl.1 rfl (lv_room (Nat.le_of_ble_eq_true rfl)) dX13_takes_158 ⟨Nat.zero_le _, Nat.zero_le _⟩) hS (fun H locs hP hD hT hS => ?_)
                have hZ := Option.some.inj h
                have hZ1 := congrArg Prod.fst hZ
                have hZ2 := congrArg Prod.snd hZ
                exact r_iret hx hb hr hlocks hP hK hD hT hG hS hZ1 hZ2 dX13_takes_161
              · replace h := ite_t c8 h
                refine lv_aload_n hx hb dX13_takes_146 rfl (lv_at hl 0 rfl) ?_
                refine lv_bipush (v := 6) hx hb dX13_takes_147 rfl ?_
                obtain ⟨z10, h10, h⟩ := ob_some h
                refine k_i (va_runV (As := [.int 6]) (rest := []) ⟨hx, hb, hml, hown, hts⟩ (c_X13_refused (l := l) M5 y5_0 6 ky5_0 h10) (cwV 1 hts gX13_takes_X13_refused rfl rfl rfl hdV_X13_refused ⟨Nat.le_of_ble_eq_true rfl, Nat.le_of_ble_eq_true rfl⟩) (pV (T := TX13) hP hK hD hT hG hS ky5_0 (by decide) rfl) rfl rfl hl.1 rfl (lv_room (Nat.le_of_ble_eq_true rfl)) dX13_takes_149 ⟨Nat.zero_le _, Nat.zero_le _⟩) hS (fun H locs hP hD hT hS => ?_)
                refine lv_goto (tgt := 161) hx hb dX13_takes_152 rfl ?_
                have hZ := Option.some.inj h
                have hZ1 := congrArg Prod.fst hZ
                have hZ2 := congrArg Prod.snd hZ
                exact r_iret hx hb hr hlocks hP hK hD hT hG hS hZ1 hZ2 dX13_takes_161
            · replace h := ite_f c7 h
              refine lv_aload_n hx hb dX13_takes_54 rfl (lv_at hl 0 rfl) ?_
              rcases hN11 : gR M5 y5_0 3 with _ | b11
              · replace h := oc_n hN11 h
                refine r_get (T := TX13) (v := .null) hx hb hts in13 hown hK hP ky5_0 (by decide) rfl 3 (by decide) (hts (.fieldLink RX13 431 "StoneWalkModel" "island" "LStoneWalkModel$Island;") (List.mem_of_getElem? (i := 2) (by decide +kernel))) rfl (t := 2) rfl (by show va_rf _ = _; rw [hN11]; rfl) dX13_takes_55 ?_
                exact absurd h (by simp)
              · replace h := oc_s hN11 h
                have kb11 := hT.f ky5_0 (k := 3) (t := 12) (n := 0) rfl hN11
                refine r_get (T := TX13) (v := .ref (ad b11)) hx hb hts in13 hown hK hP ky5_0 (by decide) rfl 3 (by decide) (hts (.fieldLink RX13 431 "StoneWalkModel" "island" "LStoneWalkModel$Island;") (List.mem_of_getElem? (i := 2) (by decide +kernel))) rfl (t := 2) rfl (by show va_rf _ = _; rw [hN11]; rfl) dX13_takes_55 ?_
                rcases hN12 : gR M5 b11 22 with _ | b12
                · exact absurd (oc_n hN12 h) (by simp)
                replace h := oc_s hN12 h
                have kb12 := hT.f kb11 (k := 22) (t := 15) (n := 5) rfl hN12
                refine r_getN (T := TX12) (v := .ref (ad b12)) hx hb hts in12 hown hK hP kb11 (by decide) rfl 22 (by decide) (hG.2.2.1 ("StoneWalkModel", 328, "StoneWalkModel$Island", "trialWay", "[I", "StoneWalkModel") (List.mem_of_getElem? (i := 23) rfl)) rfl (t := 2) rfl (by show va_rf _ = _; rw [hN12]; rfl) dX13_takes_58 ?_
                refine lv_iload hx hb dX13_takes_61 (lv_at hl 5 rfl) ?_
                obtain ⟨hn13, h⟩ := chk_some h
                refine r_iald hx hb hK hP kb12 hn13 dX13_takes_63 ?_
                refine lv_iload_n hx hb dX13_takes_64 rfl (lv_at hl 1 rfl) ?_
                refine lv_icmp_eq (tgt := 71) hx hb dX13_takes_65 rfl (fun c14 => ?_) (fun c14 => ?_)
                · replace h := ite_t c14 h
                  refine lv_iload_n hx hb dX13_takes_71 rfl (lv_at hl 2 rfl) ?_
                  refine lv_aload_n hx hb dX13_takes_72 rfl (lv_at hl 0 rfl) ?_
                  rcases hN15 : gR M5 y5_0 3 with _ | b15
                  · replace h := oc_n hN15 h
                    refine r_get (T := TX13) (v := .null) hx hb hts in13 hown hK hP ky5_0 (by decide) rfl 3 (by decide) (hts (.fieldLink RX13 431 "StoneWalkModel" "island" "LStoneWalkModel$Island;") (List.mem_of_getElem? (i := 2) (by decide +kernel))) rfl (t := 2) rfl (by show va_rf _ = _; rw [hN15]; rfl) dX13_takes_73 ?_
                    exact absurd h (by simp)
                  · replace h := oc_s hN15 h
                    have kb15 := hT.f ky5_0 (k := 3) (t := 12) (n := 0) rfl hN15
                    refine r_get (T := TX13) (v := .ref (ad b15)) hx hb hts in13 hown hK hP ky5_0 (by decide) rfl 3 (by decide) (hts (.fieldLink RX13 431 "StoneWalkModel" "island" "LStoneWalkModel$Island;") (List.mem_of_getElem? (i := 2) (by decide +kernel))) rfl (t := 2) rfl (by show va_rf _ = _; rw [hN15]; rfl) dX13_takes_73 ?_
                    rcases hN16 : gR M5 b15 26 with _ | b16
                    · exact absurd (oc_n hN16 h) (by simp)
                    replace h := oc_s hN16 h
                    have kb16 := hT.f kb15 (k := 26) (t := 15) (n := 5) rfl hN16
                    refine r_getN (T := TX12) (v := .ref (ad b16)) hx hb hts in12 hown hK hP kb15 (by decide) rfl 26 (by decide) (hG.2.2.1 ("StoneWalkModel", 340, "StoneWalkModel$Island", "trialMinutes", "[I", "StoneWalkModel") (List.mem_of_getElem? (i := 27) rfl)) rfl (t := 2) rfl (by show va_rf _ = _; rw [hN16]; rfl) dX13_takes_76 ?_
                    refine lv_iload hx hb dX13_takes_79 (lv_at hl 5 rfl) ?_
                    obtain ⟨hn17, h⟩ := chk_some h
                    refine r_iald hx hb hK hP kb16 hn17 dX13_takes_81 ?_
                    refine lv_imul hx hb dX13_takes_82 ?_
                    refine lv_aload_n hx hb dX13_takes_83 rfl (lv_at hl 0 rfl) ?_
                    rcases hN18 : gR M5 y5_0 3 with _ | b18
                    · replace h := oc_n hN18 h
                      refine r_get (T := TX13) (v := .null) hx hb hts in13 hown hK hP ky5_0 (by decide) rfl 3 (by decide) (hts (.fieldLink RX13 431 "StoneWalkModel" "island" "LStoneWalkModel$Island;") (List.mem_of_getElem? (i := 2) (by decide +kernel))) rfl (t := 2) rfl (by show va_rf _ = _; rw [hN18]; rfl) dX13_takes_84 ?_
                      exact absurd h (by simp)
                    · replace h := oc_s hN18 h
                      have kb18 := hT.f ky5_0 (k := 3) (t := 12) (n := 0) rfl hN18
                      refine r_get (T := TX13) (v := .ref (ad b18)) hx hb hts in13 hown hK hP ky5_0 (by decide) rfl 3 (by decide) (hts (.fieldLink RX13 431 "StoneWalkModel" "island" "LStoneWalkModel$Island;") (List.mem_of_getElem? (i := 2) (by decide +kernel))) rfl (t := 2) rfl (by show va_rf _ = _; rw [hN18]; rfl) dX13_takes_84 ?_
                      rcases hN19 : gR M5 b18 25 with _ | b19
                      · exact absurd (oc_n hN19 h) (by simp)
                      replace h := oc_s hN19 h
                      have kb19 := hT.f kb18 (k := 25) (t := 15) (n := 5) rfl hN19
                      refine r_getN (T := TX12) (v := .ref (ad b19)) hx hb hts in12 hown hK hP kb18 (by decide) rfl 25 (by decide) (hG.2.2.1 ("StoneWalkModel", 337, "StoneWalkModel$Island", "trialYards", "[I", "StoneWalkModel") (List.mem_of_getElem? (i := 26) rfl)) rfl (t := 2) rfl (by show va_rf _ = _; rw [hN19]; rfl) dX13_takes_87 ?_
                      refine lv_iload hx hb dX13_takes_90 (lv_at hl 5 rfl) ?_
                      obtain ⟨hn20, h⟩ := chk_some h
                      refine r_iald hx hb hK hP kb19 hn20 dX13_takes_92 ?_
                      obtain ⟨z21, h21, h⟩ := ob_some h
                      refine k_i (va_runS (As := [.int (y5_2 * (gI M5 b16 (ix y5_5))), .int (gI M5 b19 (ix y5_5))]) (rest := []) ⟨hx, hb, hml, hown, hts⟩ (c_X13_up (l := l) M5 (y5_2 * (gI M5 b16 (ix y5_5))) (gI M5 b19 (ix y5_5)) h21) (va_cwS 2 hts gX13_takes_X13_up rfl rfl rfl hdS_X13_up ⟨Nat.le_of_ble_eq_true rfl, Nat.le_of_ble_eq_true rfl⟩) (pS hP hK hD hT hG hS) rfl rfl hl.1 rfl (lv_room (Nat.le_of_ble_eq_true rfl)) dX13_takes_93 ⟨Nat.zero_le _, Nat.zero_le _⟩) hS (fun H locs hP hD hT hS => ?_)
                      refine lv_istore (lv' := [(6, .int z21), (0, .ref (ad y5_0)), (1, .int y5_1), (2, .int y5_2), (3, .int y5_3), (4, .int y5_4), (5, .int y5_5)]) hx hb dX13_takes_96 hl (by decide) rfl (fun ls hl => ?_)
                      refine lv_iload hx hb dX13_takes_98 (lv_at hl 5 rfl) ?_
                      refine lv_iconst (v := (-1)) hx hb dX13_takes_100 rfl ?_
                      refine lv_icmp_eq (tgt := 125) hx hb dX13_takes_101 rfl (fun c22 => ?_) (fun c22 => ?_)
                      · replace h := ite_t c22 h
                        refine lv_iload hx hb dX13_takes_125 (lv_at hl 0 rfl) ?_
                        refine lv_goto (tgt := 132) hx hb dX13_takes_127 rfl ?_
                        refine lv_istore (lv' := [(4, .int z21), (6, .int z21), (0, .ref (ad y5_0)), (1, .int y5_1), (2, .int y5_2), (3, .int y5_3), (5, .int y5_5)]) hx hb dX13_takes_132 hl (by decide) rfl (fun ls hl => ?_)
                        refine lv_iinc (v := y5_5 + 1) (lv' := [(5, .int (y5_5 + 1)), (4, .int z21), (6, .int z21), (0, .ref (ad y5_0)), (1, .int y5_1), (2, .int y5_2), (3, .int y5_3)]) hx hb dX13_takes_134 hl (k := 6) rfl rfl (by decide) rfl (fun ls hl => ?_)
                        refine lv_goto (tgt := 42) hx hb dX13_takes_137 rfl ?_
                        exact ih5 M5 y5_0 y5_1 y5_2 y5_3 z21 (y5_5 + 1) ky5_0 _ _ h hP hD hT hS ls (lv_sub hl [3, 4, 5, 6, 1, 0] rfl)
                      · replace h := ite_f c22 h
                        refine lv_iload_n hx hb dX13_takes_104 rfl (lv_at hl 4 rfl) ?_
                        refine lv_if_eq (tgt := 118) hx hb dX13_takes_105 rfl (fun c23 => ?_) (fun c23 => ?_)
                        · replace h := ite_t c23 h
                          refine lv_iload hx hb dX13_takes_118 (lv_at hl 0 rfl) ?_
                          refine lv_iload hx hb dX13_takes_120 (lv_at hl 5 rfl) ?_
                          refine lv_icmp_ge (tgt := 130) hx hb dX13_takes_122 rfl (fun c24 => ?_) (fun c24 => ?_)
                          · replace h := ite_t c24 h
                            refine lv_iload hx hb dX13_takes_130 (lv_at hl 5 rfl) ?_
                            refine lv_istore (lv' := [(4, .int y5_4), (6, .int z21), (0, .ref (ad y5_0)), (1, .int y5_1), (2, .int y5_2), (3, .int y5_3), (5, .int y5_5)]) hx hb dX13_takes_132 hl (by decide) rfl (fun ls hl => ?_)
                            refine lv_iinc (v := y5_5 + 1) (lv' := [(5, .int (y5_5 + 1)), (4, .int y5_4), (6, .int z21), (0, .ref (ad y5_0)), (1, .int y5_1), (2, .int y5_2), (3, .int y5_3)]) hx hb dX13_takes_134 hl (k := 6) rfl rfl (by decide) rfl (fun ls hl => ?_)
                            refine lv_goto (tgt := 42) hx hb dX13_takes_137 rfl ?_
                            exact ih5 M5 y5_0 y5_1 y5_2 y5_3 y5_4 (y5_5 + 1) ky5_0 _ _ h hP hD hT hS ls (lv_sub hl [3, 4, 5, 6, 1, 0] rfl)
                          · replace h := ite_f c24 h
                            refine lv_iload hx hb dX13_takes_125 (lv_at hl 0 rfl) ?_
                            refine lv_goto (tgt := 132) hx hb dX13_takes_127 rfl ?_
                            refine lv_istore (lv' := [(4, .int z21), (6, .int z21), (0, .ref (ad y5_0)), (1, .int y5_1), (2, .int y5_2), (3, .int y5_3), (5, .int y5_5)]) hx hb dX13_takes_132 hl (by decide) rfl (fun ls hl => ?_)
                            refine lv_iinc (v := y5_5 + 1) (lv' := [(5, .int (y5_5 + 1)), (4, .int z21), (6, .int z21), (0, .ref (ad y5_0)), (1, .int y5_1), (2, .int y5_2), (3, .int y5_3)]) hx hb dX13_takes_134 hl (k := 6) rfl rfl (by decide) rfl (fun ls hl => ?_)
                            refine lv_goto (tgt := 42) hx hb dX13_takes_137 rfl ?_
                            exact ih5 M5 y5_0 y5_1 y5_2 y5_3 z21 (y5_5 + 1) ky5_0 _ _ h hP hD hT hS ls (lv_sub hl [3, 4, 5, 6, 1, 0] rfl)
                        · replace h := ite_f c23 h
                          refine lv_iload hx hb dX13_takes_108 (lv_at hl 0 rfl) ?_
                          refine lv_iload hx hb dX13_takes_110 (lv_at hl 5 rfl) ?_
                          refine lv_icmp_le (tgt := 130) hx hb dX13_takes_112 rfl (fun c25 => ?_) (fun c25 => ?_)
                          · replace h := ite_t c25 h
                            refine lv_iload hx hb dX13_takes_130 (lv_at hl 5 rfl) ?_
                            refine lv_istore (lv' := [(4, .int y5_4), (6, .int z21), (0, .ref (ad y5_0)), (1, .int y5_1), (2, .int y5_2), (3, .int y5_3), (5, .int y5_5)]) hx hb dX13_takes_132 hl (by decide) rfl (fun ls hl => ?_)
                            refine lv_iinc (v := y5_5 + 1) (lv' := [(5, .int (y5_5 + 1)), (4, .int y5_4), (6, .int z21), (0, .ref (ad y5_0)), (1, .int y5_1), (2, .int y5_2), (3, .int y5_3)]) hx hb dX13_takes_134 hl (k := 6) rfl rfl (by decide) rfl (fun ls hl => ?_)
                            refine lv_goto (tgt := 42) hx hb dX13_takes_137 rfl ?_
                            exact ih5 M5 y5_0 y5_1 y5_2 y5_3 y5_4 (y5_5 + 1) ky5_0 _ _ h hP hD hT hS ls (lv_sub hl [3, 4, 5, 6, 1, 0] rfl)
                          · replace h := ite_f c25 h
                            refine lv_goto (tgt := 125) hx hb dX13_takes_115 rfl ?_
                            refine lv_iload hx hb dX13_takes_125 (lv_at hl 0 rfl) ?_
                            refine lv_goto (tgt := 132) hx hb dX13_takes_127 rfl ?_
                            refine lv_istore (lv' := [(4, .int z21), (6, .int z21), (0, .ref (ad y5_0)), (1, .int y5_1), (2, .int y5_2), (3, .int y5_3), (5, .int y5_5)]) hx hb dX13_takes_132 hl (by decide) rfl (fun ls hl => ?_)
                            refine lv_iinc (v := y5_5 + 1) (lv' := [(5, .int (y5_5 + 1)), (4, .int z21), (6, .int z21), (0, .ref (ad y5_0)), (1, .int y5_1), (2, .int y5_2), (3, .int y5_3)]) hx hb dX13_takes_134 hl (k := 6) rfl rfl (by decide) rfl (fun ls hl => ?_)
                            refine lv_goto (tgt := 42) hx hb dX13_takes_137 rfl ?_
                            exact ih5 M5 y5_0 y5_1 y5_2 y5_3 z21 (y5_5 + 1) ky5_0 _ _ h hP hD hT hS ls (lv_sub hl [3, 4, 5, 6, 1, 0] rfl)
                · replace h := ite_f c14 h
                  refine lv_goto (tgt := 134) hx hb dX13_takes_68 rfl ?_
                  refine lv_iinc (v := y5_5 + 1) (lv' := [(5, .int (y5_5 + 1)), (0, .ref (ad y5_0)), (1, .int y5_1), (2, .int y5_2), (3, .int y5_3), (4, .int y5_4)]) hx hb dX13_takes_134 hl (k := 5) rfl rfl (by decide) rfl (fun ls hl => ?_)
                  refine lv_goto (tgt := 42) hx hb dX13_takes_137 rfl ?_
                  exact ih5 M5 y5_0 y5_1 y5_2 y5_3 y5_4 (y5_5 + 1) ky5_0 _ _ h hP hD hT hS ls (lv_sub hl [1, 2, 3, 4, 5, 0] rfl)
      exact L5 FU Mg1 a0 x1 x2 x3 (-1) 0 k0 _ _ h hP hD hT hS ls (lv_sub hl [2, 3, 4, 5, 1, 0] rfl)
    · replace h := ite_t c4 h
      refine lv_aload_n hx hb dX13_takes_30 rfl (lv_at hl 0 rfl) ?_
      refine lv_iconst (v := 2) hx hb dX13_takes_31 rfl ?_
      obtain ⟨z26, h26, h⟩ := ob_some h
      refine k_i (va_runV (As := [.int 2]) (rest := []) ⟨hx, hb, hml, hown, hts⟩ (c_X13_refused (l := l) Mg1 a0 2 k0 h26) (cwV 1 hts gX13_takes_X13_refused rfl rfl rfl hdV_X13_refused ⟨Nat.le_of_ble_eq_true rfl, Nat.le_of_ble_eq_true rfl⟩) (pV (T := TX13) hP hK hD hT hG hS k0 (by decide) rfl) rfl rfl hl.1 rfl (lv_room (Nat.le_of_ble_eq_true rfl)) dX13_takes_32 ⟨Nat.zero_le _, Nat.zero_le _⟩) hS (fun H locs hP hD hT hS => ?_)
      have hZ := Option.some.inj h
      have hZ1 := congrArg Prod.fst hZ
      have hZ2 := congrArg Prod.snd hZ
      exact r_iret hx hb hr hlocks hP hK hD hT hG hS hZ1 hZ2 dX13_takes_35
  · replace h := ite_t c2 h
    refine lv_aload_n hx hb dX13_takes_13 rfl (lv_at hl 0 rfl) ?_
    refine lv_iconst (v := 1) hx hb dX13_takes_14 rfl ?_
    obtain ⟨z27, h27, h⟩ := ob_some h
    refine k_i (va_runV (As := [.int 1]) (rest := []) ⟨hx, hb, hml, hown, hts⟩ (c_X13_refused (l := l) Mg1 a0 1 k0 h27) (cwV 1 hts gX13_takes_X13_refused rfl rfl rfl hdV_X13_refused ⟨Nat.le_of_ble_eq_true rfl, Nat.le_of_ble_eq_true rfl⟩) (pV (T := TX13) hP hK hD hT hG hS k0 (by decide) rfl) rfl rfl hl.1 rfl (lv_room (Nat.le_of_ble_eq_true rfl)) dX13_takes_15 ⟨Nat.zero_le _, Nat.zero_le _⟩) hS (fun H locs hP hD hT hS => ?_)
    have hZ := Option.some.inj h
    have hZ1 := congrArg Prod.fst hZ
    have hZ2 := congrArg Prod.snd hZ
    exact r_iret hx hb hr hlocks hP hK hD hT hG hS hZ1 hZ2 dX13_takes_18
set_option maxHeartbeats 4000000 in
set_option maxRecDepth 100000 in
theorem c_X13_off {l : Launch} {D : va_G} {ad : Nat → Nat} {cy : Nat → ClassId} {A : Nat → Prop} {g : CG} {q : SE} (M : MM) (a0 : Nat) (x1 : Int32) (k0 : ok g a0 13 0) {Z : (Int32 × MM)} (h : f_X13_off M a0 x1 = some Z) : Met l yX13_off wsX13_off ({ frames := 2, cells := 0, slots := 0, locals := 46 }) (va_Pc [.ref (ad a0), .int x1] (Wd D ad cy A g q M)) (va_Qi (fun r u => r = Z.1 ∧ u = Z.2) (Wd D ad cy A g q) A) 0 0 A := by
  refine Met.ofW (cc := cX13_off) (maxL := 2) (ret := (some .int)) (by decide) rfl ?_
  intro p e s m args below meth c s₁ B hml hv
  obtain ⟨rfl, hP, hK, hD, hT, hG⟩ := hv
  have hx := B.exec
  have hb := B.bytes
  have hr := B.returns
  have hts := atoms_spec (ws := wsX13_off) B.pre
  have hown : s.vm.findClass RX13 = some m.cls := findClass_of_methodNamed B.named
  have hlocks := B.notSynchronized
  have in12 : ∀ w ∈ u_ws RX12 TX12 48, w ∈ wsX13_off := fun w h => List.mem_cons_of_mem _ (List.mem_append_right _ h)
  have in13 : ∀ w ∈ u_ws RX13 TX13 29, w ∈ wsX13_off := fun w h => List.mem_cons_of_mem _ (List.mem_append_left _ (List.mem_append_right _ h))
  have hS : va_S A s.heap s.heap [] := va_S.rf
  have hl := lv_entry ([.ref (ad a0), .int x1]) (n := 2) (Nat.le_of_ble_eq_true rfl)
  rw [lg_entry_eq]
  generalize (lg_sl ([.ref (ad a0), .int x1]) ++ List.replicate (2 - (lg_sl ([.ref (ad a0), .int x1])).length) Slot.unset).toArray = ls at hl ⊢
  have hl : lv_has ls 2 [(0, .ref (ad a0)), (1, .int x1)] := hl
  unfold f_X13_off at h
  refine lv_aload_n hx hb dX13_off_0 rfl (lv_at hl 0 rfl) ?_
  refine lv_iconst (v := 0) hx hb dX13_off_1 rfl ?_
  refine r_putI (T := TX13) (ty := .int) (v := 0) hx hb hts in13 tyX13 tyX13_ok nmX13 hown hK hP hD hT hS k0 (by decide) rfl 0 (by decide) (hts (.fieldLink RX13 30 "StoneWalkModel" "thrown" "I") (List.mem_of_getElem? (i := 1) (by decide +kernel))) rfl rfl (tyX13_ok 0 (by decide)) rfl rfl rfl dX13_off_2 (fun H locs hP hD hT hS => ?_)
  generalize pI M a0 0 0 = Mg1 at h hP hD hT ⊢
  refine lv_aload_n hx hb dX13_off_5 rfl (lv_at hl 0 rfl) ?_
  rcases hN1 : gR Mg1 a0 3 with _ | b1
  · replace h := oc_n hN1 h
    refine r_get (T := TX13) (v := .null) hx hb hts in13 hown hK hP k0 (by decide) rfl 3 (by decide) (hts (.fieldLink RX13 431 "StoneWalkModel" "island" "LStoneWalkModel$Island;") (List.mem_of_getElem? (i := 2) (by decide +kernel))) rfl (t := 2) rfl (by show va_rf _ = _; rw [hN1]; rfl) dX13_off_6 ?_
    refine lv_ifnullN (tgt := 27) hx hb dX13_off_9 rfl ?_
    refine lv_aload_n hx hb dX13_off_27 rfl (lv_at hl 0 rfl) ?_
    refine lv_iconst (v := 1) hx hb dX13_off_28 rfl ?_
    obtain ⟨z2, h2, h⟩ := ob_some h
    refine k_i (va_runV (As := [.int 1]) (rest := []) ⟨hx, hb, hml, hown, hts⟩ (c_X13_lost (l := l) Mg1 a0 1 k0 h2) (cwV 1 hts gX13_off_X13_lost rfl rfl rfl hdV_X13_lost ⟨Nat.le_of_ble_eq_true rfl, Nat.le_of_ble_eq_true rfl⟩) (pV (T := TX13) hP hK hD hT hG hS k0 (by decide) rfl) rfl rfl hl.1 rfl (lv_room (Nat.le_of_ble_eq_true rfl)) dX13_off_29 ⟨Nat.zero_le _, Nat.zero_le _⟩) hS (fun H locs hP hD hT hS => ?_)
    have hZ := Option.some.inj h
    have hZ1 := congrArg Prod.fst hZ
    have hZ2 := congrArg Prod.snd hZ
    exact r_iret hx hb hr hlocks hP hK hD hT hG hS hZ1 hZ2 dX13_off_32
  · replace h := oc_s hN1 h
    have kb1 := hT.f k0 (k := 3) (t := 12) (n := 0) rfl hN1
    refine r_get (T := TX13) (v := .ref (ad b1)) hx hb hts in13 hown hK hP k0 (by decide) rfl 3 (by decide) (hts (.fieldLink RX13 431 "StoneWalkModel" "island" "LStoneWalkModel$Island;") (List.mem_of_getElem? (i := 2) (by decide +kernel))) rfl (t := 2) rfl (by show va_rf _ = _; rw [hN1]; rfl) dX13_off_6 ?_
    refine lv_ifnull hx hb dX13_off_9 ?_
    refine lv_iload_n hx hb dX13_off_12 rfl (lv_at hl 1 rfl) ?_
    refine lv_if_lt (tgt := 27) hx hb dX13_off_13 rfl (fun c3 => ?_) (fun c3 => ?_)
    · replace h := ite_t c3 h
      refine lv_aload_n hx hb dX13_off_27 rfl (lv_at hl 0 rfl) ?_
      refine lv_iconst (v := 1) hx hb dX13_off_28 rfl ?_
      obtain ⟨z4, h4, h⟩ := ob_some h
      refine k_i (va_runV (As := [.int 1]) (rest := []) ⟨hx, hb, hml, hown, hts⟩ (c_X13_lost (l := l) Mg1 a0 1 k0 h4) (cwV 1 hts gX13_off_X13_lost rfl rfl rfl hdV_X13_lost ⟨Nat.le_of_ble_eq_true rfl, Nat.le_of_ble_eq_true rfl⟩) (pV (T := TX13) hP hK hD hT hG hS k0 (by decide) rfl) rfl rfl hl.1 rfl (lv_room (Nat.le_of_ble_eq_true rfl)) dX13_off_29 ⟨Nat.zero_le _, Nat.zero_le _⟩) hS (fun H locs hP hD hT hS => ?_)
      have hZ := Option.some.inj h
      have hZ1 := congrArg Prod.fst hZ
      have hZ2 := congrArg Prod.snd hZ
      exact r_iret hx hb hr hlocks hP hK hD hT hG hS hZ1 hZ2 dX13_off_32
    · replace h := ite_f c3 h
      refine lv_iload_n hx hb dX13_off_16 rfl (lv_at hl 1 rfl) ?_
      refine lv_aload_n hx hb dX13_off_17 rfl (lv_at hl 0 rfl) ?_
      rcases hN5 : gR Mg1 a0 3 with _ | b5
      · replace h := oc_n hN5 h
        refine r_get (T := TX13) (v := .null) hx hb hts in13 hown hK hP k0 (by decide) rfl 3 (by decide) (hts (.fieldLink RX13 431 "StoneWalkModel" "island" "LStoneWalkModel$Island;") (List.mem_of_getElem? (i := 2) (by decide +kernel))) rfl (t := 2) rfl (by show va_rf _ = _; rw [hN5]; rfl) dX13_off_18 ?_
        exact absurd h (by simp)
      · replace h := oc_s hN5 h
        have kb5 := hT.f k0 (k := 3) (t := 12) (n := 0) rfl hN5
        refine r_get (T := TX13) (v := .ref (ad b5)) hx hb hts in13 hown hK hP k0 (by decide) rfl 3 (by decide) (hts (.fieldLink RX13 431 "StoneWalkModel" "island" "LStoneWalkModel$Island;") (List.mem_of_getElem? (i := 2) (by decide +kernel))) rfl (t := 2) rfl (by show va_rf _ = _; rw [hN5]; rfl) dX13_off_18 ?_
        refine r_getN (T := TX12) (v := .int (gI Mg1 b5 4)) hx hb hts in12 hown hK hP kb5 (by decide) rfl 4 (by decide) (hG.2.2.1 ("StoneWalkModel", 317, "StoneWalkModel$Island", "trials", "I", "StoneWalkModel") (List.mem_of_getElem? (i := 22) rfl)) rfl (t := 0) rfl rfl dX13_off_21 ?_
        refine lv_icmp_lt (tgt := 33) hx hb dX13_off_24 rfl (fun c6 => ?_) (fun c6 => ?_)
        · replace h := ite_t c6 h
          refine lv_aload_n hx hb dX13_off_33 rfl (lv_at hl 0 rfl) ?_
          refine lv_aload_n hx hb dX13_off_34 rfl (lv_at hl 0 rfl) ?_
          refine lv_aload_n hx hb dX13_off_35 rfl (lv_at hl 0 rfl) ?_
          rcases hN7 : gR Mg1 a0 3 with _ | b7
          · replace h := oc_n hN7 h
            refine r_get (T := TX13) (v := .null) hx hb hts in13 hown hK hP k0 (by decide) rfl 3 (by decide) (hts (.fieldLink RX13 431 "StoneWalkModel" "island" "LStoneWalkModel$Island;") (List.mem_of_getElem? (i := 2) (by decide +kernel))) rfl (t := 2) rfl (by show va_rf _ = _; rw [hN7]; rfl) dX13_off_36 ?_
            exact absurd h (by simp)
          · replace h := oc_s hN7 h
            have kb7 := hT.f k0 (k := 3) (t := 12) (n := 0) rfl hN7
            refine r_get (T := TX13) (v := .ref (ad b7)) hx hb hts in13 hown hK hP k0 (by decide) rfl 3 (by decide) (hts (.fieldLink RX13 431 "StoneWalkModel" "island" "LStoneWalkModel$Island;") (List.mem_of_getElem? (i := 2) (by decide +kernel))) rfl (t := 2) rfl (by show va_rf _ = _; rw [hN7]; rfl) dX13_off_36 ?_
            rcases hN8 : gR Mg1 b7 22 with _ | b8
            · exact absurd (oc_n hN8 h) (by simp)
            replace h := oc_s hN8 h
            have kb8 := hT.f kb7 (k := 22) (t := 15) (n := 5) rfl hN8
            refine r_getN (T := TX12) (v := .ref (ad b8)) hx hb hts in12 hown hK hP kb7 (by decide) rfl 22 (by decide) (hG.2.2.1 ("StoneWalkModel", 328, "StoneWalkModel$Island", "trialWay", "[I", "StoneWalkModel") (List.mem_of_getElem? (i := 23) rfl)) rfl (t := 2) rfl (by show va_rf _ = _; rw [hN8]; rfl) dX13_off_39 ?_
            refine lv_iload_n hx hb dX13_off_42 rfl (lv_at hl 1 rfl) ?_
            obtain ⟨hn9, h⟩ := chk_some h
            refine r_iald hx hb hK hP kb8 hn9 dX13_off_43 ?_
            refine lv_aload_n hx hb dX13_off_44 rfl (lv_at hl 0 rfl) ?_
            rcases hN10 : gR Mg1 a0 3 with _ | b10
            · replace h := oc_n hN10 h
              refine r_get (T := TX13) (v := .null) hx hb hts in13 hown hK hP k0 (by decide) rfl 3 (by decide) (hts (.fieldLink RX13 431 "StoneWalkModel" "island" "LStoneWalkModel$Island;") (List.mem_of_getElem? (i := 2) (by decide +kernel))) rfl (t := 2) rfl (by show va_rf _ = _; rw [hN10]; rfl) dX13_off_45 ?_
              exact absurd h (by simp)
            · replace h := oc_s hN10 h
              have kb10 := hT.f k0 (k := 3) (t := 12) (n := 0) rfl hN10
              refine r_get (T := TX13) (v := .ref (ad b10)) hx hb hts in13 hown hK hP k0 (by decide) rfl 3 (by decide) (hts (.fieldLink RX13 431 "StoneWalkModel" "island" "LStoneWalkModel$Island;") (List.mem_of_getElem? (i := 2) (by decide +kernel))) rfl (t := 2) rfl (by show va_rf _ = _; rw [hN10]; rfl) dX13_off_45 ?_
              rcases hN11 : gR Mg1 b10 23 with _ | b11
              · exact absurd (oc_n hN11 h) (by simp)
              replace h := oc_s hN11 h
              have kb11 := hT.f kb10 (k := 23) (t := 15) (n := 5) rfl hN11
              refine r_getN (T := TX12) (v := .ref (ad b11)) hx hb hts in12 hown hK hP kb10 (by decide) rfl 23 (by decide) (hG.2.2.1 ("StoneWalkModel", 331, "StoneWalkModel$Island", "trialTons", "[I", "StoneWalkModel") (List.mem_of_getElem? (i := 24) rfl)) rfl (t := 2) rfl (by show va_rf _ = _; rw [hN11]; rfl) dX13_off_48 ?_
              refine lv_iload_n hx hb dX13_off_51 rfl (lv_at hl 1 rfl) ?_
              obtain ⟨hn12, h⟩ := chk_some h
              refine r_iald hx hb hK hP kb11 hn12 dX13_off_52 ?_
              refine lv_iconst (v := 0) hx hb dX13_off_53 rfl ?_
              obtain ⟨z13, h13, h⟩ := ob_some h
              refine k_i (va_runV (As := [.int (gI Mg1 b8 (ix x1)), .int (gI Mg1 b11 (ix x1)), .int 0]) (rest := [.ref (ad a0)]) ⟨hx, hb, hml, hown, hts⟩ (c_X13_needBy (l := l) Mg1 a0 (gI Mg1 b8 (ix x1)) (gI Mg1 b11 (ix x1)) 0 k0 h13) (cwV 3 hts gX13_off_X13_needBy rfl rfl rfl hdV_X13_needBy ⟨Nat.le_of_ble_eq_true rfl, Nat.le_of_ble_eq_true rfl⟩) (pV (T := TX13) hP hK hD hT hG hS k0 (by decide) rfl) rfl rfl hl.1 rfl (lv_room (Nat.le_of_ble_eq_true rfl)) dX13_off_54 ⟨Nat.zero_le _, Nat.zero_le _⟩) hS (fun H locs hP hD hT hS => ?_)
              refine lv_aload_n hx hb dX13_off_57 rfl (lv_at hl 0 rfl) ?_
              rcases hN14 : gR Mg1 a0 3 with _ | b14
              · replace h := oc_n hN14 h
                refine r_get (T := TX13) (v := .null) hx hb hts in13 hown hK hP k0 (by decide) rfl 3 (by decide) (hts (.fieldLink RX13 431 "StoneWalkModel" "island" "LStoneWalkModel$Island;") (List.mem_of_getElem? (i := 2) (by decide +kernel))) rfl (t := 2) rfl (by show va_rf _ = _; rw [hN14]; rfl) dX13_off_58 ?_
                exact absurd h (by simp)
              · replace h := oc_s hN14 h
                have kb14 := hT.f k0 (k := 3) (t := 12) (n := 0) rfl hN14
                refine r_get (T := TX13) (v := .ref (ad b14)) hx hb hts in13 hown hK hP k0 (by decide) rfl 3 (by decide) (hts (.fieldLink RX13 431 "StoneWalkModel" "island" "LStoneWalkModel$Island;") (List.mem_of_getElem? (i := 2) (by decide +kernel))) rfl (t := 2) rfl (by show va_rf _ = _; rw [hN14]; rfl) dX13_off_58 ?_
                rcases hN15 : gR Mg1 b14 24 with _ | b15
                · exact absurd (oc_n hN15 h) (by simp)
                replace h := oc_s hN15 h
                have kb15 := hT.f kb14 (k := 24) (t := 15) (n := 5) rfl hN15
                refine r_getN (T := TX12) (v := .ref (ad b15)) hx hb hts in12 hown hK hP kb14 (by decide) rfl 24 (by decide) (hG.2.2.1 ("StoneWalkModel", 334, "StoneWalkModel$Island", "trialPeople", "[I", "StoneWalkModel") (List.mem_of_getElem? (i := 25) rfl)) rfl (t := 2) rfl (by show va_rf _ = _; rw [hN15]; rfl) dX13_off_61 ?_
                refine lv_iload_n hx hb dX13_off_64 rfl (lv_at hl 1 rfl) ?_
                obtain ⟨hn16, h⟩ := chk_some h
                refine r_iald hx hb hK hP kb15 hn16 dX13_off_65 ?_
                refine lv_isub hx hb dX13_off_66 ?_
                obtain ⟨z17, h17, h⟩ := ob_some h
                refine k_i (va_runV (As := [.int (z13 - (gI Mg1 b15 (ix x1)))]) (rest := []) ⟨hx, hb, hml, hown, hts⟩ (c_X13_done (l := l) Mg1 a0 (z13 - (gI Mg1 b15 (ix x1))) k0 h17) (cwV 1 hts gX13_off_X13_done rfl rfl rfl hdV_X13_done ⟨Nat.le_of_ble_eq_true rfl, Nat.le_of_ble_eq_true rfl⟩) (pV (T := TX13) hP hK hD hT hG hS k0 (by decide) rfl) rfl rfl hl.1 rfl (lv_room (Nat.le_of_ble_eq_true rfl)) dX13_off_67 ⟨Nat.zero_le _, Nat.zero_le _⟩) hS (fun H locs hP hD hT hS => ?_)
                have hZ := Option.some.inj h
                have hZ1 := congrArg Prod.fst hZ
                have hZ2 := congrArg Prod.snd hZ
                exact r_iret hx hb hr hlocks hP hK hD hT hG hS hZ1 hZ2 dX13_off_70
        · replace h := ite_f c6 h
          refine lv_aload_n hx hb dX13_off_27 rfl (lv_at hl 0 rfl) ?_
          refine lv_iconst (v := 1) hx hb dX13_off_28 rfl ?_
          obtain ⟨z18, h18, h⟩ := ob_some h
          refine k_i (va_runV (As := [.int 1]) (rest := []) ⟨hx, hb, hml, hown, hts⟩ (c_X13_lost (l := l) Mg1 a0 1 k0 h18) (cwV 1 hts gX13_off_X13_lost rfl rfl rfl hdV_X13_lost ⟨Nat.le_of_ble_eq_true rfl, Nat.le_of_ble_eq_true rfl⟩) (pV (T := TX13) hP hK hD hT hG hS k0 (by decide) rfl) rfl rfl hl.1 rfl (lv_room (Nat.le_of_ble_eq_true rfl)) dX13_off_29 ⟨Nat.zero_le _, Nat.zero_le _⟩) hS (fun H locs hP hD hT hS => ?_)
          have hZ := Option.some.inj h
          have hZ1 := congrArg Prod.fst hZ
          have hZ2 := congrArg Prod.snd hZ
          exact r_iret hx hb hr hlocks hP hK hD hT hG hS hZ1 hZ2 dX13_off_32
set_option maxHeartbeats 4000000 in
set_option maxRecDepth 100000 in
theorem c_X13_woodBy {l : Launch} {D : va_G} {ad : Nat → Nat} {cy : Nat → ClassId} {A : Nat → Prop} {g : CG} {q : SE} (M : MM) (a0 : Nat) (x1 : Int32) (k0 : ok g a0 13 0) {Z : Int32} (h : f_X13_woodBy M a0 x1 = some Z) : Met l yX13_woodBy wsX13_woodBy ({ frames := 1, cells := 0, slots := 0, locals := 23 }) (va_Pc [.ref (ad a0), .int x1] (Wd D ad cy A g q M)) (va_Qi (fun r u => r = Z ∧ u = M) (Wd D ad cy A g q) A) 0 0 A := by
  refine Met.ofW (cc := cX13_woodBy) (maxL := 5) (ret := (some .int)) (by decide) rfl ?_
  intro p e s m args below meth c s₁ B hml hv
  obtain ⟨rfl, hP, hK, hD, hT, hG⟩ := hv
  have hx := B.exec
  have hb := B.bytes
  have hr := B.returns
  have hts := atoms_spec (ws := wsX13_woodBy) B.pre
  have hown : s.vm.findClass RX13 = some m.cls := findClass_of_methodNamed B.named
  have hlocks := B.notSynchronized
  have in12 : ∀ w ∈ u_ws RX12 TX12 48, w ∈ wsX13_woodBy := fun w h => List.mem_cons_of_mem _ (List.mem_append_right _ h)
  have in13 : ∀ w ∈ u_ws RX13 TX13 29, w ∈ wsX13_woodBy := fun w h => List.mem_cons_of_mem _ (List.mem_append_left _ (List.mem_append_right _ h))
  have hS : va_S A s.heap s.heap [] := va_S.rf
  have hl := lv_entry ([.ref (ad a0), .int x1]) (n := 5) (Nat.le_of_ble_eq_true rfl)
  rw [lg_entry_eq]
  generalize (lg_sl ([.ref (ad a0), .int x1]) ++ List.replicate (5 - (lg_sl ([.ref (ad a0), .int x1])).length) Slot.unset).toArray = ls at hl ⊢
  have hl : lv_has ls 5 [(0, .ref (ad a0)), (1, .int x1)] := hl
  unfold f_X13_woodBy at h
  refine lv_iconst (v := 0) hx hb dX13_woodBy_0 rfl ?_
  refine lv_istore_n (lv' := [(2, .int 0), (0, .ref (ad a0)), (1, .int x1)]) hx hb dX13_woodBy_1 rfl hl (by decide) rfl (fun ls hl => ?_)
  refine lv_iconst (v := 0) hx hb dX13_woodBy_2 rfl ?_
  refine lv_istore_n (lv' := [(3, .int 0), (2, .int 0), (0, .ref (ad a0)), (1, .int x1)]) hx hb dX13_woodBy_3 rfl hl (by decide) rfl (fun ls hl => ?_)
  have L1 : ∀ n1 : Nat, ∀ (y1_0 : Nat) (y1_1 : Int32) (y1_2 : Int32) (y1_3 : Int32) (ky1_0 : ok g y1_0 13 0) (H : Heap) (locs : List Loc), f_X13_woodBy_L4 n1 M y1_0 y1_1 y1_2 y1_3 = some Z → va_P D vwCl (wd ad cy g M) H → va_D A (wd ad cy g M) → WT g M → va_S A s.heap H locs → ∀ (ls : Array Slot), lv_has ls 5 [(0, .ref (ad y1_0)), (1, .int y1_1), (2, .int y1_2), (3, .int y1_3)] → W p l e ((headSpec wsX13_woodBy ({ frames := 1, cells := 0, slots := 0, locals := 23 })).room) s m (([.ref (ad a0), .int x1] : List Value).toArray) below meth c H locs 0 0 (MQ below (va_Qi (fun r u => r = Z ∧ u = M) (Wd D ad cy A g q) A) ([.ref (ad a0), .int x1]).toArray s 0 0 A) (F0 m 4 ls []) := by
    intro n1
    induction n1 with
    | zero => intro y1_0 y1_1 y1_2 y1_3 ky1_0 H locs h; exact absurd h (by simp [f_X13_woodBy_L4])
    | succ n1 ih1 =>
      intro y1_0 y1_1 y1_2 y1_3 ky1_0 H locs h hP hD hT hS ls hl
      rw [f_X13_woodBy_L4] at h
      refine lv_iload_n hx hb dX13_woodBy_4 rfl (lv_at hl 3 rfl) ?_
      refine lv_aload_n hx hb dX13_woodBy_5 rfl (lv_at hl 0 rfl) ?_
      rcases hN2 : gR M y1_0 3 with _ | b2
      · replace h := oc_n hN2 h
        refine r_get (T := TX13) (v := .null) hx hb hts in13 hown hK hP ky1_0 (by decide) rfl 3 (by decide) (hts (.fieldLink RX13 431 "StoneWalkModel" "island" "LStoneWalkModel$Island;") (List.mem_of_getElem? (i := 1) (by decide +kernel))) rfl (t := 2) rfl (by show va_rf _ = _; rw [hN2]; rfl) dX13_woodBy_6 ?_
        exact absurd h (by simp)
      · replace h := oc_s hN2 h
        have kb2 := hT.f ky1_0 (k := 3) (t := 12) (n := 0) rfl hN2
        refine r_get (T := TX13) (v := .ref (ad b2)) hx hb hts in13 hown hK hP ky1_0 (by decide) rfl 3 (by decide) (hts (.fieldLink RX13 431 "StoneWalkModel" "island" "LStoneWalkModel$Island;") (List.mem_of_getElem? (i := 1) (by decide +kernel))) rfl (t := 2) rfl (by show va_rf _ = _; rw [hN2]; rfl) dX13_woodBy_6 ?_
        refine r_getN (T := TX12) (v := .int (gI M b2 2)) hx hb hts in12 hown hK hP kb2 (by decide) rfl 2 (by decide) (hG.2.2.1 ("StoneWalkModel", 191, "StoneWalkModel$Island", "statues", "I", "StoneWalkModel") (List.mem_of_getElem? (i := 7) rfl)) rfl (t := 0) rfl rfl dX13_woodBy_9 ?_
        refine lv_icmp_ge (tgt := 94) hx hb dX13_woodBy_12 rfl (fun c3 => ?_) (fun c3 => ?_)
        · replace h := ite_t c3 h
          refine lv_iload_n hx hb dX13_woodBy_94 rfl (lv_at hl 2 rfl) ?_
          exact r_iret hx hb hr hlocks hP hK hD hT hG hS (Option.some.inj h) rfl dX13_woodBy_95
        · replace h := ite_f c3 h
          refine lv_aload_n hx hb dX13_woodBy_15 rfl (lv_at hl 0 rfl) ?_
          rcases hN4 : gR M y1_0 3 with _ | b4
          · replace h := oc_n hN4 h
            refine r_get (T := TX13) (v := .null) hx hb hts in13 hown hK hP ky1_0 (by decide) rfl 3 (by decide) (hts (.fieldLink RX13 431 "StoneWalkModel" "island" "LStoneWalkModel$Island;") (List.mem_of_getElem? (i := 1) (by decide +kernel))) rfl (t := 2) rfl (by show va_rf _ = _; rw [hN4]; rfl) dX13_woodBy_16 ?_
            exact absurd h (by simp)
          · replace h := oc_s hN4 h
            have kb4 := hT.f ky1_0 (k := 3) (t := 12) (n := 0) rfl hN4
            refine r_get (T := TX13) (v := .ref (ad b4)) hx hb hts in13 hown hK hP ky1_0 (by decide) rfl 3 (by decide) (hts (.fieldLink RX13 431 "StoneWalkModel" "island" "LStoneWalkModel$Island;") (List.mem_of_getElem? (i := 1) (by decide +kernel))) rfl (t := 2) rfl (by show va_rf _ = _; rw [hN4]; rfl) dX13_woodBy_16 ?_
            rcases hN5 : gR M b4 18 with _ | b5
            · exact absurd (oc_n hN5 h) (by simp)
            replace h := oc_s hN5 h
            have kb5 := hT.f kb4 (k := 18) (t := 15) (n := 10) rfl hN5
            refine r_getN (T := TX12) (v := .ref (ad b5)) hx hb hts in12 hown hK hP kb4 (by decide) rfl 18 (by decide) (hG.2.2.1 ("StoneWalkModel", 307, "StoneWalkModel$Island", "sort", "[I", "StoneWalkModel") (List.mem_of_getElem? (i := 18) rfl)) rfl (t := 2) rfl (by show va_rf _ = _; rw [hN5]; rfl) dX13_woodBy_19 ?_
            refine lv_iload_n hx hb dX13_woodBy_22 rfl (lv_at hl 3 rfl) ?_
            obtain ⟨hn6, h⟩ := chk_some h
            refine r_iald hx hb hK hP kb5 hn6 dX13_woodBy_23 ?_
            refine lv_iconst (v := 5) hx hb dX13_woodBy_24 rfl ?_
            refine lv_icmp_ne (tgt := 40) hx hb dX13_woodBy_25 rfl (fun c7 => ?_) (fun c7 => ?_)
            · replace h := ite_f c7 h
              refine lv_aload_n hx hb dX13_woodBy_40 rfl (lv_at hl 0 rfl) ?_
              rcases hN8 : gR M y1_0 3 with _ | b8
              · replace h := oc_n hN8 h
                refine r_get (T := TX13) (v := .null) hx hb hts in13 hown hK hP ky1_0 (by decide) rfl 3 (by decide) (hts (.fieldLink RX13 431 "StoneWalkModel" "island" "LStoneWalkModel$Island;") (List.mem_of_getElem? (i := 1) (by decide +kernel))) rfl (t := 2) rfl (by show va_rf _ = _; rw [hN8]; rfl) dX13_woodBy_41 ?_
                exact absurd h (by simp)
              · replace h := oc_s hN8 h
                have kb8 := hT.f ky1_0 (k := 3) (t := 12) (n := 0) rfl hN8
                refine r_get (T := TX13) (v := .ref (ad b8)) hx hb hts in13 hown hK hP ky1_0 (by decide) rfl 3 (by decide) (hts (.fieldLink RX13 431 "StoneWalkModel" "island" "LStoneWalkModel$Island;") (List.mem_of_getElem? (i := 1) (by decide +kernel))) rfl (t := 2) rfl (by show va_rf _ = _; rw [hN8]; rfl) dX13_woodBy_41 ?_
                rcases hN9 : gR M b8 18 with _ | b9
                · exact absurd (oc_n hN9 h) (by simp)
                replace h := oc_s hN9 h
                have kb9 := hT.f kb8 (k := 18) (t := 15) (n := 10) rfl hN9
                refine r_getN (T := TX12) (v := .ref (ad b9)) hx hb hts in12 hown hK hP kb8 (by decide) rfl 18 (by decide) (hG.2.2.1 ("StoneWalkModel", 307, "StoneWalkModel$Island", "sort", "[I", "StoneWalkModel") (List.mem_of_getElem? (i := 18) rfl)) rfl (t := 2) rfl (by show va_rf _ = _; rw [hN9]; rfl) dX13_woodBy_44 ?_
                refine lv_iload_n hx hb dX13_woodBy_47 rfl (lv_at hl 3 rfl) ?_
                obtain ⟨hn10, h⟩ := chk_some h
                refine r_iald hx hb hK hP kb9 hn10 dX13_woodBy_48 ?_
                refine lv_iconst (v := 3) hx hb dX13_woodBy_49 rfl ?_
                refine lv_icmp_ne (tgt := 65) hx hb dX13_woodBy_50 rfl (fun c11 => ?_) (fun c11 => ?_)
                · replace h := ite_f c11 h
                  refine lv_iconst (v := 0) hx hb dX13_woodBy_65 rfl ?_
                  refine lv_istore (lv' := [(4, .int 0), (0, .ref (ad y1_0)), (1, .int y1_1), (2, .int y1_2), (3, .int y1_3)]) hx hb dX13_woodBy_66 hl (by decide) rfl (fun ls hl => ?_)
                  refine lv_iload_n hx hb dX13_woodBy_68 rfl (lv_at hl 3 rfl) ?_
                  refine lv_aload_n hx hb dX13_woodBy_69 rfl (lv_at hl 1 rfl) ?_
                  refine lv_iload_n hx hb dX13_woodBy_70 rfl (lv_at hl 2 rfl) ?_
                  refine lv_aload_n hx hb dX13_woodBy_71 rfl (lv_at hl 1 rfl) ?_
                  rcases hN12 : gR M y1_0 3 with _ | b12
                  · replace h := oc_n hN12 h
                    refine r_get (T := TX13) (v := .null) hx hb hts in13 hown hK hP ky1_0 (by decide) rfl 3 (by decide) (hts (.fieldLink RX13 431 "StoneWalkModel" "island" "LStoneWalkModel$Island;") (List.mem_of_getElem? (i := 1) (by decide +kernel))) rfl (t := 2) rfl (by show va_rf _ = _; rw [hN12]; rfl) dX13_woodBy_72 ?_
                    exact absurd h (by simp)
                  · replace h := oc_s hN12 h
                    have kb12 := hT.f ky1_0 (k := 3) (t := 12) (n := 0) rfl hN12
                    refine r_get (T := TX13) (v := .ref (ad b12)) hx hb hts in13 hown hK hP ky1_0 (by decide) rfl 3 (by decide) (hts (.fieldLink RX13 431 "StoneWalkModel" "island" "LStoneWalkModel$Island;") (List.mem_of_getElem? (i := 1) (by decide +kernel))) rfl (t := 2) rfl (by show va_rf _ = _; rw [hN12]; rfl) dX13_woodBy_72 ?_
                    rcases hN13 : gR M b12 15 with _ | b13
                    · exact absurd (oc_n hN13 h) (by simp)
                    replace h := oc_s hN13 h
                    have kb13 := hT.f kb12 (k := 15) (t := 15) (n := 10) rfl hN13
                    refine r_getN (T := TX12) (v := .ref (ad b13)) hx hb hts in12 hown hK hP kb12 (by decide) rfl 15 (by decide) (hG.2.2.1 ("StoneWalkModel", 301, "StoneWalkModel$Island", "tons", "[I", "StoneWalkModel") (List.mem_of_getElem? (i := 15) rfl)) rfl (t := 2) rfl (by show va_rf _ = _; rw [hN13]; rfl) dX13_woodBy_75 ?_
                    refine lv_iload_n hx hb dX13_woodBy_78 rfl (lv_at hl 4 rfl) ?_
                    obtain ⟨hn14, h⟩ := chk_some h
                    refine r_iald hx hb hK hP kb13 hn14 dX13_woodBy_79 ?_
                    obtain ⟨z15, h15, h⟩ := ob_some h
                    refine k_i (va_runV (As := [.int y1_1, .int (gI M b13 (ix y1_3))]) (rest := [.int y1_2]) ⟨hx, hb, hml, hown, hts⟩ (c_X13_woodOf (l := l) M y1_0 y1_1 (gI M b13 (ix y1_3)) ky1_0 h15) (cwV 2 hts gX13_woodBy_X13_woodOf rfl rfl rfl hdV_X13_woodOf ⟨Nat.le_of_ble_eq_true rfl, Nat.le_of_ble_eq_true rfl⟩) (pV (T := TX13) hP hK hD hT hG hS ky1_0 (by decide) rfl) rfl rfl hl.1 rfl (lv_room (Nat.le_of_ble_eq_true rfl)) dX13_woodBy_80 ⟨Nat.zero_le _, Nat.zero_le _⟩) hS (fun H locs hP hD hT hS => ?_)
                    refine lv_iload hx hb dX13_woodBy_83 (lv_at hl 0 rfl) ?_
                    refine lv_imul hx hb dX13_woodBy_85 ?_
                    refine lv_iadd hx hb dX13_woodBy_86 ?_
                    refine lv_istore_n (lv' := [(2, .int (y1_2 + (z15 * 0))), (4, .int 0), (0, .ref (ad y1_0)), (1, .int y1_1), (3, .int y1_3)]) hx hb dX13_woodBy_87 rfl hl (by decide) rfl (fun ls hl => ?_)
                    refine lv_iinc (v := y1_3 + 1) (lv' := [(3, .int (y1_3 + 1)), (2, .int (y1_2 + (z15 * 0))), (4, .int 0), (0, .ref (ad y1_0)), (1, .int y1_1)]) hx hb dX13_woodBy_88 hl (k := 4) rfl rfl (by decide) rfl (fun ls hl => ?_)
                    refine lv_goto (tgt := 4) hx hb dX13_woodBy_91 rfl ?_
                    exact ih1 y1_0 y1_1 (y1_2 + (z15 * 0)) (y1_3 + 1) ky1_0 _ _ h hP hD hT hS ls (lv_sub hl [3, 4, 1, 0] rfl)
                · replace h := ite_t c11 h
                  refine lv_aload_n hx hb dX13_woodBy_53 rfl (lv_at hl 0 rfl) ?_
                  rcases hN16 : gR M y1_0 3 with _ | b16
                  · replace h := oc_n hN16 h
                    refine r_get (T := TX13) (v := .null) hx hb hts in13 hown hK hP ky1_0 (by decide) rfl 3 (by decide) (hts (.fieldLink RX13 431 "StoneWalkModel" "island" "LStoneWalkModel$Island;") (List.mem_of_getElem? (i := 1) (by decide +kernel))) rfl (t := 2) rfl (by show va_rf _ = _; rw [hN16]; rfl) dX13_woodBy_54 ?_
                    exact absurd h (by simp)
                  · replace h := oc_s hN16 h
                    have kb16 := hT.f ky1_0 (k := 3) (t := 12) (n := 0) rfl hN16
                    refine r_get (T := TX13) (v := .ref (ad b16)) hx hb hts in13 hown hK hP ky1_0 (by decide) rfl 3 (by decide) (hts (.fieldLink RX13 431 "StoneWalkModel" "island" "LStoneWalkModel$Island;") (List.mem_of_getElem? (i := 1) (by decide +kernel))) rfl (t := 2) rfl (by show va_rf _ = _; rw [hN16]; rfl) dX13_woodBy_54 ?_
                    rcases hN17 : gR M b16 13 with _ | b17
                    · exact absurd (oc_n hN17 h) (by simp)
                    replace h := oc_s hN17 h
                    have kb17 := hT.f kb16 (k := 13) (t := 15) (n := 3) rfl hN17
                    refine r_getN (T := TX12) (v := .ref (ad b17)) hx hb hts in12 hown hK hP kb16 (by decide) rfl 13 (by decide) (hG.2.2.1 ("StoneWalkModel", 266, "StoneWalkModel$Island", "slopes", "[I", "StoneWalkModel") (List.mem_of_getElem? (i := 13) rfl)) rfl (t := 2) rfl (by show va_rf _ = _; rw [hN17]; rfl) dX13_woodBy_57 ?_
                    refine lv_iconst (v := 0) hx hb dX13_woodBy_60 rfl ?_
                    refine r_iald hx hb hK hP kb17 (by decide) dX13_woodBy_61 ?_
                    refine lv_goto (tgt := 66) hx hb dX13_woodBy_62 rfl ?_
                    refine lv_istore (lv' := [(4, .int (gI M b17 (ix 0))), (0, .ref (ad y1_0)), (1, .int y1_1), (2, .int y1_2), (3, .int y1_3)]) hx hb dX13_woodBy_66 hl (by decide) rfl (fun ls hl => ?_)
                    refine lv_iload_n hx hb dX13_woodBy_68 rfl (lv_at hl 3 rfl) ?_
                    refine lv_aload_n hx hb dX13_woodBy_69 rfl (lv_at hl 1 rfl) ?_
                    refine lv_iload_n hx hb dX13_woodBy_70 rfl (lv_at hl 2 rfl) ?_
                    refine lv_aload_n hx hb dX13_woodBy_71 rfl (lv_at hl 1 rfl) ?_
                    rcases hN18 : gR M y1_0 3 with _ | b18
                    · replace h := oc_n hN18 h
                      refine r_get (T := TX13) (v := .null) hx hb hts in13 hown hK hP ky1_0 (by decide) rfl 3 (by decide) (hts (.fieldLink RX13 431 "StoneWalkModel" "island" "LStoneWalkModel$Island;") (List.mem_of_getElem? (i := 1) (by decide +kernel))) rfl (t := 2) rfl (by show va_rf _ = _; rw [hN18]; rfl) dX13_woodBy_72 ?_
                      exact absurd h (by simp)
                    · replace h := oc_s hN18 h
                      have kb18 := hT.f ky1_0 (k := 3) (t := 12) (n := 0) rfl hN18
                      refine r_get (T := TX13) (v := .ref (ad b18)) hx hb hts in13 hown hK hP ky1_0 (by decide) rfl 3 (by decide) (hts (.fieldLink RX13 431 "StoneWalkModel" "island" "LStoneWalkModel$Island;") (List.mem_of_getElem? (i := 1) (by decide +kernel))) rfl (t := 2) rfl (by show va_rf _ = _; rw [hN18]; rfl) dX13_woodBy_72 ?_
                      rcases hN19 : gR M b18 15 with _ | b19
                      · exact absurd (oc_n hN19 h) (by simp)
                      replace h := oc_s hN19 h
                      have kb19 := hT.f kb18 (k := 15) (t := 15) (n := 10) rfl hN19
                      refine r_getN (T := TX12) (v := .ref (ad b19)) hx hb hts in12 hown hK hP kb18 (by decide) rfl 15 (by decide) (hG.2.2.1 ("StoneWalkModel", 301, "StoneWalkModel$Island", "tons", "[I", "StoneWalkModel") (List.mem_of_getElem? (i := 15) rfl)) rfl (t := 2) rfl (by show va_rf _ = _; rw [hN19]; rfl) dX13_woodBy_75 ?_
                      refine lv_iload_n hx hb dX13_woodBy_78 rfl (lv_at hl 4 rfl) ?_
                      obtain ⟨hn20, h⟩ := chk_some h
                      refine r_iald hx hb hK hP kb19 hn20 dX13_woodBy_79 ?_
                      obtain ⟨z21, h21, h⟩ := ob_some h
                      refine k_i (va_runV (As := [.int y1_1, .int (gI M b19 (ix y1_3))]) (rest := [.int y1_2]) ⟨hx, hb, hml, hown, hts⟩ (c_X13_woodOf (l := l) M y1_0 y1_1 (gI M b19 (ix y1_3)) ky1_0 h21) (cwV 2 hts gX13_woodBy_X13_woodOf rfl rfl rfl hdV_X13_woodOf ⟨Nat.le_of_ble_eq_true rfl, Nat.le_of_ble_eq_true rfl⟩) (pV (T := TX13) hP hK hD hT hG hS ky1_0 (by decide) rfl) rfl rfl hl.1 rfl (lv_room (Nat.le_of_ble_eq_true rfl)) dX13_woodBy_80 ⟨Nat.zero_le _, Nat.zero_le _⟩) hS (fun H locs hP hD hT hS => ?_)
                      refine lv_iload hx hb dX13_woodBy_83 (lv_at hl 0 rfl) ?_
                      refine lv_imul hx hb dX13_woodBy_85 ?_
                      refine lv_iadd hx hb dX13_woodBy_86 ?_
                      refine lv_istore_n (lv' := [(2, .int (y1_2 + (z21 * (gI M b17 (ix 0))))), (4, .int (gI M b17 (ix 0))), (0, .ref (ad y1_0)), (1, .int y1_1), (3, .int y1_3)]) hx hb dX13_woodBy_87 rfl hl (by decide) rfl (fun ls hl => ?_)
                      refine lv_iinc (v := y1_3 + 1) (lv' := [(3, .int (y1_3 + 1)), (2, .int (y1_2 + (z21 * (gI M b17 (ix 0))))), (4, .int (gI M b17 (ix 0))), (0, .ref (ad y1_0)), (1, .int y1_1)]) hx hb dX13_woodBy_88 hl (k := 4) rfl rfl (by decide) rfl (fun ls hl => ?_)
                      refine lv_goto (tgt := 4) hx hb dX13_woodBy_91 rfl ?_
                      exact ih1 y1_0 y1_1 (y1_2 + (z21 * (gI M b17 (ix 0)))) (y1_3 + 1) ky1_0 _ _ h hP hD hT hS ls (lv_sub hl [3, 4, 1, 0] rfl)
            · replace h := ite_t c7 h
              refine lv_aload_n hx hb dX13_woodBy_28 rfl (lv_at hl 0 rfl) ?_
              rcases hN22 : gR M y1_0 3 with _ | b22
              · replace h := oc_n hN22 h
                refine r_get (T := TX13) (v := .null) hx hb hts in13 hown hK hP ky1_0 (by decide) rfl 3 (by decide) (hts (.fieldLink RX13 431 "StoneWalkModel" "island" "LStoneWalkModel$Island;") (List.mem_of_getElem? (i := 1) (by decide +kernel))) rfl (t := 2) rfl (by show va_rf _ = _; rw [hN22]; rfl) dX13_woodBy_29 ?_
                exact absurd h (by simp)
              · replace h := oc_s hN22 h
                have kb22 := hT.f ky1_0 (k := 3) (t := 12) (n := 0) rfl hN22
                refine r_get (T := TX13) (v := .ref (ad b22)) hx hb hts in13 hown hK hP ky1_0 (by decide) rfl 3 (by decide) (hts (.fieldLink RX13 431 "StoneWalkModel" "island" "LStoneWalkModel$Island;") (List.mem_of_getElem? (i := 1) (by decide +kernel))) rfl (t := 2) rfl (by show va_rf _ = _; rw [hN22]; rfl) dX13_woodBy_29 ?_
                rcases hN23 : gR M b22 21 with _ | b23
                · exact absurd (oc_n hN23 h) (by simp)
                replace h := oc_s hN23 h
                have kb23 := hT.f kb22 (k := 21) (t := 15) (n := 10) rfl hN23
                refine r_getN (T := TX12) (v := .ref (ad b23)) hx hb hts in12 hown hK hP kb22 (by decide) rfl 21 (by decide) (hG.2.2.1 ("StoneWalkModel", 314, "StoneWalkModel$Island", "there", "[I", "StoneWalkModel") (List.mem_of_getElem? (i := 21) rfl)) rfl (t := 2) rfl (by show va_rf _ = _; rw [hN23]; rfl) dX13_woodBy_32 ?_
                refine lv_iload_n hx hb dX13_woodBy_35 rfl (lv_at hl 3 rfl) ?_
                obtain ⟨hn24, h⟩ := chk_some h
                refine r_iald hx hb hK hP kb23 hn24 dX13_woodBy_36 ?_
                refine lv_goto (tgt := 66) hx hb dX13_woodBy_37 rfl ?_
                refine lv_istore (lv' := [(4, .int (gI M b23 (ix y1_3))), (0, .ref (ad y1_0)), (1, .int y1_1), (2, .int y1_2), (3, .int y1_3)]) hx hb dX13_woodBy_66 hl (by decide) rfl (fun ls hl => ?_)
                refine lv_iload_n hx hb dX13_woodBy_68 rfl (lv_at hl 3 rfl) ?_
                refine lv_aload_n hx hb dX13_woodBy_69 rfl (lv_at hl 1 rfl) ?_
                refine lv_iload_n hx hb dX13_woodBy_70 rfl (lv_at hl 2 rfl) ?_
                refine lv_aload_n hx hb dX13_woodBy_71 rfl (lv_at hl 1 rfl) ?_
                rcases hN25 : gR M y1_0 3 with _ | b25
                · replace h := oc_n hN25 h
                  refine r_get (T := TX13) (v := .null) hx hb hts in13 hown hK hP ky1_0 (by decide) rfl 3 (by decide) (hts (.fieldLink RX13 431 "StoneWalkModel" "island" "LStoneWalkModel$Island;") (List.mem_of_getElem? (i := 1) (by decide +kernel))) rfl (t := 2) rfl (by show va_rf _ = _; rw [hN25]; rfl) dX13_woodBy_72 ?_
                  exact absurd h (by simp)
                · replace h := oc_s hN25 h
                  have kb25 := hT.f ky1_0 (k := 3) (t := 12) (n := 0) rfl hN25
                  refine r_get (T := TX13) (v := .ref (ad b25)) hx hb hts in13 hown hK hP ky1_0 (by decide) rfl 3 (by decide) (hts (.fieldLink RX13 431 "StoneWalkModel" "island" "LStoneWalkModel$Island;") (List.mem_of_getElem? (i := 1) (by decide +kernel))) rfl (t := 2) rfl (by show va_rf _ = _; rw [hN25]; rfl) dX13_woodBy_72 ?_
                  rcases hN26 : gR M b25 15 with _ | b26
                  · exact absurd (oc_n hN26 h) (by simp)
                  replace h := oc_s hN26 h
                  have kb26 := hT.f kb25 (k := 15) (t := 15) (n := 10) rfl hN26
                  refine r_getN (T := TX12) (v := .ref (ad b26)) hx hb hts in12 hown hK hP kb25 (by decide) rfl 15 (by decide) (hG.2.2.1 ("StoneWalkModel", 301, "StoneWalkModel$Island", "tons", "[I", "StoneWalkModel") (List.mem_of_getElem? (i := 15) rfl)) rfl (t := 2) rfl (by show va_rf _ = _; rw [hN26]; rfl) dX13_woodBy_75 ?_
                  refine lv_iload_n hx hb dX13_woodBy_78 rfl (lv_at hl 4 rfl) ?_
                  obtain ⟨hn27, h⟩ := chk_some h
                  refine r_iald hx hb hK hP kb26 hn27 dX13_woodBy_79 ?_
                  obtain ⟨z28, h28, h⟩ := ob_some h
                  refine k_i (va_runV (As := [.int y1_1, .int (gI M b26 (ix y1_3))]) (rest := [.int y1_2]) ⟨hx, hb, hml, hown, hts⟩ (c_X13_woodOf (l := l) M y1_0 y1_1 (gI M b26 (ix y1_3)) ky1_0 h28) (cwV 2 hts gX13_woodBy_X13_woodOf rfl rfl rfl hdV_X13_woodOf ⟨Nat.le_of_ble_eq_true rfl, Nat.le_of_ble_eq_true rfl⟩) (pV (T := TX13) hP hK hD hT hG hS ky1_0 (by decide) rfl) rfl rfl hl.1 rfl (lv_room (Nat.le_of_ble_eq_true rfl)) dX13_woodBy_80 ⟨Nat.zero_le _, Nat.zero_le _⟩) hS (fun H locs hP hD hT hS => ?_)
                  refine lv_iload hx hb dX13_woodBy_83 (lv_at hl 0 rfl) ?_
                  refine lv_imul hx hb dX13_woodBy_85 ?_
                  refine lv_iadd hx hb dX13_woodBy_86 ?_
                  refine lv_istore_n (lv' := [(2, .int (y1_2 + (z28 * (gI M b23 (ix y1_3))))), (4, .int (gI M b23 (ix y1_3))), (0, .ref (ad y1_0)), (1, .int y1_1), (3, .int y1_3)]) hx hb dX13_woodBy_87 rfl hl (by decide) rfl (fun ls hl => ?_)
                  refine lv_iinc (v := y1_3 + 1) (lv' := [(3, .int (y1_3 + 1)), (2, .int (y1_2 + (z28 * (gI M b23 (ix y1_3))))), (4, .int (gI M b23 (ix y1_3))), (0, .ref (ad y1_0)), (1, .int y1_1)]) hx hb dX13_woodBy_88 hl (k := 4) rfl rfl (by decide) rfl (fun ls hl => ?_)
                  refine lv_goto (tgt := 4) hx hb dX13_woodBy_91 rfl ?_
                  exact ih1 y1_0 y1_1 (y1_2 + (z28 * (gI M b23 (ix y1_3)))) (y1_3 + 1) ky1_0 _ _ h hP hD hT hS ls (lv_sub hl [3, 4, 1, 0] rfl)
  exact L1 FU a0 x1 0 0 k0 _ _ h hP hD hT hS ls (lv_sub hl [2, 3, 1, 0] rfl)
set_option maxHeartbeats 4000000 in
set_option maxRecDepth 100000 in
theorem c_X13_wood {l : Launch} {D : va_G} {ad : Nat → Nat} {cy : Nat → ClassId} {A : Nat → Prop} {g : CG} {q : SE} (M : MM) (a0 : Nat) (x1 : Int32) (k0 : ok g a0 13 0) {Z : (Int32 × MM)} (h : f_X13_wood M a0 x1 = some Z) : Met l yX13_wood wsX13_wood ({ frames := 2, cells := 0, slots := 0, locals := 47 }) (va_Pc [.ref (ad a0), .int x1] (Wd D ad cy A g q M)) (va_Qi (fun r u => r = Z.1 ∧ u = Z.2) (Wd D ad cy A g q) A) 0 0 A := by
  refine Met.ofW (cc := cX13_wood) (maxL := 2) (ret := (some .int)) (by decide) rfl ?_
  intro p e s m args below meth c s₁ B hml hv
  obtain ⟨rfl, hP, hK, hD, hT, hG⟩ := hv
  have hx := B.exec
  have hb := B.bytes
  have hr := B.returns
  have hts := atoms_spec (ws := wsX13_wood) B.pre
  have hown : s.vm.findClass RX13 = some m.cls := findClass_of_methodNamed B.named
  have hlocks := B.notSynchronized
  have in13 : ∀ w ∈ u_ws RX13 TX13 29, w ∈ wsX13_wood := fun w h => List.mem_cons_of_mem _ (List.mem_append_left _ (List.mem_append_right _ h))
  have hS : va_S A s.heap s.heap [] := va_S.rf
  have hl := lv_entry ([.ref (ad a0), .int x1]) (n := 2) (Nat.le_of_ble_eq_true rfl)
  rw [lg_entry_eq]
  generalize (lg_sl ([.ref (ad a0), .int x1]) ++ List.replicate (2 - (lg_sl ([.ref (ad a0), .int x1])).length) Slot.unset).toArray = ls at hl ⊢
  have hl : lv_has ls 2 [(0, .ref (ad a0)), (1, .int x1)] := hl
  unfold f_X13_wood at h
  refine lv_aload_n hx hb dX13_wood_0 rfl (lv_at hl 0 rfl) ?_
  refine lv_iconst (v := 0) hx hb dX13_wood_1 rfl ?_
  refine r_putI (T := TX13) (ty := .int) (v := 0) hx hb hts in13 tyX13 tyX13_ok nmX13 hown hK hP hD hT hS k0 (by decide) rfl 0 (by decide) (hts (.fieldLink RX13 30 "StoneWalkModel" "thrown" "I") (List.mem_of_getElem? (i := 1) (by decide +kernel))) rfl rfl (tyX13_ok 0 (by decide)) rfl rfl rfl dX13_wood_2 (fun H locs hP hD hT hS => ?_)
  generalize pI M a0 0 0 = Mg1 at h hP hD hT ⊢
  refine lv_aload_n hx hb dX13_wood_5 rfl (lv_at hl 0 rfl) ?_
  refine lv_iload_n hx hb dX13_wood_6 rfl (lv_at hl 1 rfl) ?_
  obtain ⟨z1, h1, h⟩ := ob_some h
  refine k_z (va_runV (As := [.int x1]) (rest := []) ⟨hx, hb, hml, hown, hts⟩ (c_X13_isWay (l := l) Mg1 a0 x1 k0 h1) (cwV 1 hts gX13_wood_X13_isWay rfl rfl rfl hdV_X13_isWay ⟨Nat.le_of_ble_eq_true rfl, Nat.le_of_ble_eq_true rfl⟩) (pV (T := TX13) hP hK hD hT hG hS k0 (by decide) rfl) rfl rfl hl.1 rfl (lv_room (Nat.le_of_ble_eq_true rfl)) dX13_wood_7 ⟨Nat.zero_le _, Nat.zero_le _⟩) hS (fun H locs hz1 hP hD hT hS => ?_)
  refine lv_if_eq (tgt := 25) hx hb dX13_wood_10 rfl (fun c2 => ?_) (fun c2 => ?_)
  · replace h := ite_t c2 h
    refine lv_aload_n hx hb dX13_wood_25 rfl (lv_at hl 0 rfl) ?_
    refine lv_iconst (v := 1) hx hb dX13_wood_26 rfl ?_
    obtain ⟨z3, h3, h⟩ := ob_some h
    refine k_i (va_runV (As := [.int 1]) (rest := []) ⟨hx, hb, hml, hown, hts⟩ (c_X13_refused (l := l) Mg1 a0 1 k0 h3) (cwV 1 hts gX13_wood_X13_refused rfl rfl rfl hdV_X13_refused ⟨Nat.le_of_ble_eq_true rfl, Nat.le_of_ble_eq_true rfl⟩) (pV (T := TX13) hP hK hD hT hG hS k0 (by decide) rfl) rfl rfl hl.1 rfl (lv_room (Nat.le_of_ble_eq_true rfl)) dX13_wood_27 ⟨Nat.zero_le _, Nat.zero_le _⟩) hS (fun H locs hP hD hT hS => ?_)
    have hZ := Option.some.inj h
    have hZ1 := congrArg Prod.fst hZ
    have hZ2 := congrArg Prod.snd hZ
    exact r_iret hx hb hr hlocks hP hK hD hT hG hS hZ1 hZ2 dX13_wood_30
  · replace h := ite_f c2 h
    refine lv_aload_n hx hb dX13_wood_13 rfl (lv_at hl 0 rfl) ?_
    refine lv_aload_n hx hb dX13_wood_14 rfl (lv_at hl 0 rfl) ?_
    refine lv_iload_n hx hb dX13_wood_15 rfl (lv_at hl 1 rfl) ?_
    obtain ⟨z4, h4, h⟩ := ob_some h
    refine k_i (va_runV (As := [.int x1]) (rest := [.ref (ad a0)]) ⟨hx, hb, hml, hown, hts⟩ (c_X13_woodBy (l := l) Mg1 a0 x1 k0 h4) (cwV 1 hts gX13_wood_X13_woodBy rfl rfl rfl hdV_X13_woodBy ⟨Nat.le_of_ble_eq_true rfl, Nat.le_of_ble_eq_true rfl⟩) (pV (T := TX13) hP hK hD hT hG hS k0 (by decide) rfl) rfl rfl hl.1 rfl (lv_room (Nat.le_of_ble_eq_true rfl)) dX13_wood_16 ⟨Nat.zero_le _, Nat.zero_le _⟩) hS (fun H locs hP hD hT hS => ?_)
    obtain ⟨z5, h5, h⟩ := ob_some h
    refine k_i (va_runV (As := [.int z4]) (rest := []) ⟨hx, hb, hml, hown, hts⟩ (c_X13_done (l := l) Mg1 a0 z4 k0 h5) (cwV 1 hts gX13_wood_X13_done rfl rfl rfl hdV_X13_done ⟨Nat.le_of_ble_eq_true rfl, Nat.le_of_ble_eq_true rfl⟩) (pV (T := TX13) hP hK hD hT hG hS k0 (by decide) rfl) rfl rfl hl.1 rfl (lv_room (Nat.le_of_ble_eq_true rfl)) dX13_wood_19 ⟨Nat.zero_le _, Nat.zero_le _⟩) hS (fun H locs hP hD hT hS => ?_)
    refine lv_goto (tgt := 30) hx hb dX13_wood_22 rfl ?_
    have hZ := Option.some.inj h
    have hZ1 := congrArg Prod.fst hZ
    have hZ2 := congrArg Prod.snd hZ
    exact r_iret hx hb hr hlocks hP hK hD hT hG hS hZ1 hZ2 dX13_wood_30
set_option maxHeartbeats 4000000 in
set_option maxRecDepth 100000 in
theorem c_X13_enough {l : Launch} {D : va_G} {ad : Nat → Nat} {cy : Nat → ClassId} {A : Nat → Prop} {g : CG} {q : SE} (M : MM) (a0 : Nat) (x1 : Int32) (k0 : ok g a0 13 0) {Z : (Int32 × MM)} (h : f_X13_enough M a0 x1 = some Z) : Met l yX13_enough wsX13_enough ({ frames := 2, cells := 0, slots := 0, locals := 47 }) (va_Pc [.ref (ad a0), .int x1] (Wd D ad cy A g q M)) (va_Qi (fun r u => r = Z.1 ∧ u = Z.2) (Wd D ad cy A g q) A) 0 0 A := by
  refine Met.ofW (cc := cX13_enough) (maxL := 2) (ret := (some .int)) (by decide) rfl ?_
  intro p e s m args below meth c s₁ B hml hv
  obtain ⟨rfl, hP, hK, hD, hT, hG⟩ := hv
  have hx := B.exec
  have hb := B.bytes
  have hr := B.returns
  have hts := atoms_spec (ws := wsX13_enough) B.pre
  have hown : s.vm.findClass RX13 = some m.cls := findClass_of_methodNamed B.named
  have hlocks := B.notSynchronized
  have in12 : ∀ w ∈ u_ws RX12 TX12 48, w ∈ wsX13_enough := fun w h => List.mem_cons_of_mem _ (List.mem_append_right _ h)
  have in13 : ∀ w ∈ u_ws RX13 TX13 29, w ∈ wsX13_enough := fun w h => List.mem_cons_of_mem _ (List.mem_append_left _ (List.mem_append_right _ h))
  have hS : va_S A s.heap s.heap [] := va_S.rf
  have hl := lv_entry ([.ref (ad a0), .int x1]) (n := 2) (Nat.le_of_ble_eq_true rfl)
  rw [lg_entry_eq]
  generalize (lg_sl ([.ref (ad a0), .int x1]) ++ List.replicate (2 - (lg_sl ([.ref (ad a0), .int x1])).length) Slot.unset).toArray = ls at hl ⊢
  have hl : lv_has ls 2 [(0, .ref (ad a0)), (1, .int x1)] := hl
  unfold f_X13_enough at h
  refine lv_aload_n hx hb dX13_enough_0 rfl (lv_at hl 0 rfl) ?_
  refine lv_iconst (v := 0) hx hb dX13_enough_1 rfl ?_
  refine r_putI (T := TX13) (ty := .int) (v := 0) hx hb hts in13 tyX13 tyX13_ok nmX13 hown hK hP hD hT hS k0 (by decide) rfl 0 (by decide) (hts (.fieldLink RX13 30 "StoneWalkModel" "thrown" "I") (List.mem_of_getElem? (i := 1) (by decide +kernel))) rfl rfl (tyX13_ok 0 (by decide)) rfl rfl rfl dX13_enough_2 (fun H locs hP hD hT hS => ?_)
  generalize pI M a0 0 0 = Mg1 at h hP hD hT ⊢
  refine lv_aload_n hx hb dX13_enough_5 rfl (lv_at hl 0 rfl) ?_
  refine lv_iload_n hx hb dX13_enough_6 rfl (lv_at hl 1 rfl) ?_
  obtain ⟨z1, h1, h⟩ := ob_some h
  refine k_z (va_runV (As := [.int x1]) (rest := []) ⟨hx, hb, hml, hown, hts⟩ (c_X13_isWay (l := l) Mg1 a0 x1 k0 h1) (cwV 1 hts gX13_enough_X13_isWay rfl rfl rfl hdV_X13_isWay ⟨Nat.le_of_ble_eq_true rfl, Nat.le_of_ble_eq_true rfl⟩) (pV (T := TX13) hP hK hD hT hG hS k0 (by decide) rfl) rfl rfl hl.1 rfl (lv_room (Nat.le_of_ble_eq_true rfl)) dX13_enough_7 ⟨Nat.zero_le _, Nat.zero_le _⟩) hS (fun H locs hz1 hP hD hT hS => ?_)
  refine lv_if_ne (tgt := 19) hx hb dX13_enough_10 rfl (fun c2 => ?_) (fun c2 => ?_)
  · replace h := ite_f c2 h
    refine lv_aload_n hx hb dX13_enough_19 rfl (lv_at hl 0 rfl) ?_
    rcases hN3 : gR Mg1 a0 3 with _ | b3
    · replace h := oc_n hN3 h
      refine r_get (T := TX13) (v := .null) hx hb hts in13 hown hK hP k0 (by decide) rfl 3 (by decide) (hts (.fieldLink RX13 431 "StoneWalkModel" "island" "LStoneWalkModel$Island;") (List.mem_of_getElem? (i := 2) (by decide +kernel))) rfl (t := 2) rfl (by show va_rf _ = _; rw [hN3]; rfl) dX13_enough_20 ?_
      exact absurd h (by simp)
    · replace h := oc_s hN3 h
      have kb3 := hT.f k0 (k := 3) (t := 12) (n := 0) rfl hN3
      refine r_get (T := TX13) (v := .ref (ad b3)) hx hb hts in13 hown hK hP k0 (by decide) rfl 3 (by decide) (hts (.fieldLink RX13 431 "StoneWalkModel" "island" "LStoneWalkModel$Island;") (List.mem_of_getElem? (i := 2) (by decide +kernel))) rfl (t := 2) rfl (by show va_rf _ = _; rw [hN3]; rfl) dX13_enough_20 ?_
      refine r_getN (T := TX12) (v := .int (gI Mg1 b3 27)) hx hb hts in12 hown hK hP kb3 (by decide) rfl 27 (by decide) (hG.2.2.1 ("StoneWalkModel", 343, "StoneWalkModel$Island", "trees", "I", "StoneWalkModel") (List.mem_of_getElem? (i := 28) rfl)) rfl (t := 0) rfl rfl dX13_enough_23 ?_
      refine lv_iconst (v := (-1)) hx hb dX13_enough_26 rfl ?_
      refine lv_icmp_ne (tgt := 39) hx hb dX13_enough_27 rfl (fun c4 => ?_) (fun c4 => ?_)
      · replace h := ite_f c4 h
        refine lv_aload_n hx hb dX13_enough_39 rfl (lv_at hl 0 rfl) ?_
        refine lv_aload_n hx hb dX13_enough_40 rfl (lv_at hl 0 rfl) ?_
        refine lv_iload_n hx hb dX13_enough_41 rfl (lv_at hl 1 rfl) ?_
        obtain ⟨z5, h5, h⟩ := ob_some h
        refine k_i (va_runV (As := [.int x1]) (rest := [.ref (ad a0)]) ⟨hx, hb, hml, hown, hts⟩ (c_X13_woodBy (l := l) Mg1 a0 x1 k0 h5) (cwV 1 hts gX13_enough_X13_woodBy rfl rfl rfl hdV_X13_woodBy ⟨Nat.le_of_ble_eq_true rfl, Nat.le_of_ble_eq_true rfl⟩) (pV (T := TX13) hP hK hD hT hG hS k0 (by decide) rfl) rfl rfl hl.1 rfl (lv_room (Nat.le_of_ble_eq_true rfl)) dX13_enough_42 ⟨Nat.zero_le _, Nat.zero_le _⟩) hS (fun H locs hP hD hT hS => ?_)
        refine lv_bipush (v := 10) hx hb dX13_enough_45 rfl ?_
        refine lv_aload_n hx hb dX13_enough_47 rfl (lv_at hl 0 rfl) ?_
        rcases hN6 : gR Mg1 a0 3 with _ | b6
        · replace h := oc_n hN6 h
          refine r_get (T := TX13) (v := .null) hx hb hts in13 hown hK hP k0 (by decide) rfl 3 (by decide) (hts (.fieldLink RX13 431 "StoneWalkModel" "island" "LStoneWalkModel$Island;") (List.mem_of_getElem? (i := 2) (by decide +kernel))) rfl (t := 2) rfl (by show va_rf _ = _; rw [hN6]; rfl) dX13_enough_48 ?_
          exact absurd h (by simp)
        · replace h := oc_s hN6 h
          have kb6 := hT.f k0 (k := 3) (t := 12) (n := 0) rfl hN6
          refine r_get (T := TX13) (v := .ref (ad b6)) hx hb hts in13 hown hK hP k0 (by decide) rfl 3 (by decide) (hts (.fieldLink RX13 431 "StoneWalkModel" "island" "LStoneWalkModel$Island;") (List.mem_of_getElem? (i := 2) (by decide +kernel))) rfl (t := 2) rfl (by show va_rf _ = _; rw [hN6]; rfl) dX13_enough_48 ?_
          refine r_getN (T := TX12) (v := .int (gI Mg1 b6 27)) hx hb hts in12 hown hK hP kb6 (by decide) rfl 27 (by decide) (hG.2.2.1 ("StoneWalkModel", 343, "StoneWalkModel$Island", "trees", "I", "StoneWalkModel") (List.mem_of_getElem? (i := 28) rfl)) rfl (t := 0) rfl rfl dX13_enough_51 ?_
          refine lv_imul hx hb dX13_enough_54 ?_
          refine lv_icmp_gt (tgt := 62) hx hb dX13_enough_55 rfl (fun c7 => ?_) (fun c7 => ?_)
          · replace h := ite_t c7 h
            refine lv_iconst (v := 0) hx hb dX13_enough_62 rfl ?_
            obtain ⟨z8, h8, h⟩ := ob_some h
            refine k_i (va_runV (As := [.int 0]) (rest := []) ⟨hx, hb, hml, hown, hts⟩ (c_X13_done (l := l) Mg1 a0 0 k0 h8) (cwV 1 hts gX13_enough_X13_done rfl rfl rfl hdV_X13_done ⟨Nat.le_of_ble_eq_true rfl, Nat.le_of_ble_eq_true rfl⟩) (pV (T := TX13) hP hK hD hT hG hS k0 (by decide) rfl) rfl rfl hl.1 rfl (lv_room (Nat.le_of_ble_eq_true rfl)) dX13_enough_63 ⟨Nat.zero_le _, Nat.zero_le _⟩) hS (fun H locs hP hD hT hS => ?_)
            have hZ := Option.some.inj h
            have hZ1 := congrArg Prod.fst hZ
            have hZ2 := congrArg Prod.snd hZ
            exact r_iret hx hb hr hlocks hP hK hD hT hG hS hZ1 hZ2 dX13_enough_66
          · replace h := ite_f c7 h
            refine lv_iconst (v := 1) hx hb dX13_enough_58 rfl ?_
            refine lv_goto (tgt := 63) hx hb dX13_enough_59 rfl ?_
            obtain ⟨z9, h9, h⟩ := ob_some h
            refine k_i (va_runV (As := [.int 1]) (rest := []) ⟨hx, hb, hml, hown, hts⟩ (c_X13_done (l := l) Mg1 a0 1 k0 h9) (cwV 1 hts gX13_enough_X13_done rfl rfl rfl hdV_X13_done ⟨Nat.le_of_ble_eq_true rfl, Nat.le_of_ble_eq_true rfl⟩) (pV (T := TX13) hP hK hD hT hG hS k0 (by decide) rfl) rfl rfl hl.1 rfl (lv_room (Nat.le_of_ble_eq_true rfl)) dX13_enough_63 ⟨Nat.zero_le _, Nat.zero_le _⟩) hS (fun H locs hP hD hT hS => ?_)
            have hZ := Option.some.inj h
            have hZ1 := congrArg Prod.fst hZ
            have hZ2 := congrArg Prod.snd hZ
            exact r_iret hx hb hr hlocks hP hK hD hT hG hS hZ1 hZ2 dX13_enough_66
      · replace h := ite_t c4 h
        refine lv_aload_n hx hb dX13_enough_30 rfl (lv_at hl 0 rfl) ?_
        refine lv_bipush (v := 6) hx hb dX13_enough_31 rfl ?_
        obtain ⟨z10, h10, h⟩ := ob_some h
        refine k_i (va_runV (As := [.int 6]) (rest := []) ⟨hx, hb, hml, hown, hts⟩ (c_X13_refused (l := l) Mg1 a0 6 k0 h10) (cwV 1 hts gX13_enough_X13_refused rfl rfl rfl hdV_X13_refused ⟨Nat.le_of_ble_eq_true rfl, Nat.le_of_ble_eq_true rfl⟩) (pV (T := TX13) hP hK hD hT hG hS k0 (by decide) rfl) rfl rfl hl.1 rfl (lv_room (Nat.le_of_ble_eq_true rfl)) dX13_enough_33 ⟨Nat.zero_le _, Nat.zero_le _⟩) hS (fun H locs hP hD hT hS => ?_)
        refine lv_goto (tgt := 66) hx hb dX13_enough_36 rfl ?_
        have hZ := Option.some.inj h
        have hZ1 := congrArg Prod.fst hZ
        have hZ2 := congrArg Prod.snd hZ
        exact r_iret hx hb hr hlocks hP hK hD hT hG hS hZ1 hZ2 dX13_enough_66
  · replace h := ite_t c2 h
    refine lv_aload_n hx hb dX13_enough_13 rfl (lv_at hl 0 rfl) ?_
    refine lv_iconst (v := 1) hx hb dX13_enough_14 rfl ?_
    obtain ⟨z11, h11, h⟩ := ob_some h
    refine k_i (va_runV (As := [.int 1]) (rest := []) ⟨hx, hb, hml, hown, hts⟩ (c_X13_refused (l := l) Mg1 a0 1 k0 h11) (cwV 1 hts gX13_enough_X13_refused rfl rfl rfl hdV_X13_refused ⟨Nat.le_of_ble_eq_true rfl, Nat.le_of_ble_eq_true rfl⟩) (pV (T := TX13) hP hK hD hT hG hS k0 (by decide) rfl) rfl rfl hl.1 rfl (lv_room (Nat.le_of_ble_eq_true rfl)) dX13_enough_15 ⟨Nat.zero_le _, Nat.zero_le _⟩) hS (fun H locs hP hD hT hS => ?_)
    have hZ := Option.some.inj h
    have hZ1 := congrArg Prod.fst hZ
    have hZ2 := congrArg Prod.snd hZ
    exact r_iret hx hb hr hlocks hP hK hD hT hG hS hZ1 hZ2 dX13_enough_18
set_option maxHeartbeats 4000000 in
set_option maxRecDepth 100000 in
theorem c_X13_treesAfter {l : Launch} {D : va_G} {ad : Nat → Nat} {cy : Nat → ClassId} {A : Nat → Prop} {g : CG} {q : SE} (M : MM) (a0 : Nat) (x1 : Int32) (x2 : Int32) (x3 : Int32) (k0 : ok g a0 13 0) {Z : Int32} (h : f_X13_treesAfter M a0 x1 x2 x3 = some Z) : Met l yX13_treesAfter wsX13_treesAfter ({ frames := 0, cells := 0, slots := 0, locals := 0 }) (va_Pc [.ref (ad a0), .int x1, .int x2, .int x3] (Wd D ad cy A g q M)) (va_Qi (fun r u => r = Z ∧ u = M) (Wd D ad cy A g q) A) 0 0 A := by
  refine Met.ofW (cc := cX13_treesAfter) (maxL := 9) (ret := (some .int)) (by decide) rfl ?_
  intro p e s m args below meth c s₁ B hml hv
  obtain ⟨rfl, hP, hK, hD, hT, hG⟩ := hv
  have hx := B.exec
  have hb := B.bytes
  have hr := B.returns
  have hts := atoms_spec (ws := wsX13_treesAfter) B.pre
  have hown : s.vm.findClass RX13 = some m.cls := findClass_of_methodNamed B.named
  have hlocks := B.notSynchronized
  have in12 : ∀ w ∈ u_ws RX12 TX12 48, w ∈ wsX13_treesAfter := fun w h => List.mem_cons_of_mem _ (List.mem_append_right _ h)
  have in13 : ∀ w ∈ u_ws RX13 TX13 29, w ∈ wsX13_treesAfter := fun w h => List.mem_cons_of_mem _ (List.mem_append_left _ (List.mem_append_right _ h))
  have hS : va_S A s.heap s.heap [] := va_S.rf
  have hl := lv_entry ([.ref (ad a0), .int x1, .int x2, .int x3]) (n := 9) (Nat.le_of_ble_eq_true rfl)
  rw [lg_entry_eq]
  generalize (lg_sl ([.ref (ad a0), .int x1, .int x2, .int x3]) ++ List.replicate (9 - (lg_sl ([.ref (ad a0), .int x1, .int x2, .int x3])).length) Slot.unset).toArray = ls at hl ⊢
  have hl : lv_has ls 9 [(0, .ref (ad a0)), (1, .int x1), (2, .int x2), (3, .int x3)] := hl
  unfold f_X13_treesAfter at h
  refine lv_aload_n hx hb dX13_treesAfter_0 rfl (lv_at hl 0 rfl) ?_
  rcases hN1 : gR M a0 3 with _ | b1
  · replace h := oc_n hN1 h
    refine r_get (T := TX13) (v := .null) hx hb hts in13 hown hK hP k0 (by decide) rfl 3 (by decide) (hts (.fieldLink RX13 431 "StoneWalkModel" "island" "LStoneWalkModel$Island;") (List.mem_of_getElem? (i := 1) (by decide +kernel))) rfl (t := 2) rfl (by show va_rf _ = _; rw [hN1]; rfl) dX13_treesAfter_1 ?_
    exact absurd h (by simp)
  · replace h := oc_s hN1 h
    have kb1 := hT.f k0 (k := 3) (t := 12) (n := 0) rfl hN1
    refine r_get (T := TX13) (v := .ref (ad b1)) hx hb hts in13 hown hK hP k0 (by decide) rfl 3 (by decide) (hts (.fieldLink RX13 431 "StoneWalkModel" "island" "LStoneWalkModel$Island;") (List.mem_of_getElem? (i := 1) (by decide +kernel))) rfl (t := 2) rfl (by show va_rf _ = _; rw [hN1]; rfl) dX13_treesAfter_1 ?_
    rcases hN2 : gR M b1 36 with _ | b2
    · exact absurd (oc_n hN2 h) (by simp)
    replace h := oc_s hN2 h
    have kb2 := hT.f kb1 (k := 36) (t := 15) (n := 5) rfl hN2
    refine r_getN (T := TX12) (v := .ref (ad b2)) hx hb hts in12 hown hK hP kb1 (by decide) rfl 36 (by decide) (hG.2.2.1 ("StoneWalkModel", 385, "StoneWalkModel$Island", "cause", "[I", "StoneWalkModel") (List.mem_of_getElem? (i := 38) rfl)) rfl (t := 2) rfl (by show va_rf _ = _; rw [hN2]; rfl) dX13_treesAfter_4 ?_
    refine lv_iload_n hx hb dX13_treesAfter_7 rfl (lv_at hl 1 rfl) ?_
    obtain ⟨hn3, h⟩ := chk_some h
    refine r_iald hx hb hK hP kb2 hn3 dX13_treesAfter_8 ?_
    refine lv_istore (lv' := [(4, .int (gI M b2 (ix x1))), (0, .ref (ad a0)), (1, .int x1), (2, .int x2), (3, .int x3)]) hx hb dX13_treesAfter_9 hl (by decide) rfl (fun ls hl => ?_)
    refine lv_aload_n hx hb dX13_treesAfter_11 rfl (lv_at hl 1 rfl) ?_
    rcases hN4 : gR M a0 3 with _ | b4
    · replace h := oc_n hN4 h
      refine r_get (T := TX13) (v := .null) hx hb hts in13 hown hK hP k0 (by decide) rfl 3 (by decide) (hts (.fieldLink RX13 431 "StoneWalkModel" "island" "LStoneWalkModel$Island;") (List.mem_of_getElem? (i := 1) (by decide +kernel))) rfl (t := 2) rfl (by show va_rf _ = _; rw [hN4]; rfl) dX13_treesAfter_12 ?_
      exact absurd h (by simp)
    · replace h := oc_s hN4 h
      have kb4 := hT.f k0 (k := 3) (t := 12) (n := 0) rfl hN4
      refine r_get (T := TX13) (v := .ref (ad b4)) hx hb hts in13 hown hK hP k0 (by decide) rfl 3 (by decide) (hts (.fieldLink RX13 431 "StoneWalkModel" "island" "LStoneWalkModel$Island;") (List.mem_of_getElem? (i := 1) (by decide +kernel))) rfl (t := 2) rfl (by show va_rf _ = _; rw [hN4]; rfl) dX13_treesAfter_12 ?_
      rcases hN5 : gR M b4 37 with _ | b5
      · exact absurd (oc_n hN5 h) (by simp)
      replace h := oc_s hN5 h
      have kb5 := hT.f kb4 (k := 37) (t := 15) (n := 5) rfl hN5
      refine r_getN (T := TX12) (v := .ref (ad b5)) hx hb hts in12 hown hK hP kb4 (by decide) rfl 37 (by decide) (hG.2.2.1 ("StoneWalkModel", 388, "StoneWalkModel$Island", "much", "[I", "StoneWalkModel") (List.mem_of_getElem? (i := 39) rfl)) rfl (t := 2) rfl (by show va_rf _ = _; rw [hN5]; rfl) dX13_treesAfter_15 ?_
      refine lv_iload_n hx hb dX13_treesAfter_18 rfl (lv_at hl 2 rfl) ?_
      obtain ⟨hn6, h⟩ := chk_some h
      refine r_iald hx hb hK hP kb5 hn6 dX13_treesAfter_19 ?_
      refine lv_istore (lv' := [(5, .int (gI M b5 (ix x1))), (4, .int (gI M b2 (ix x1))), (0, .ref (ad a0)), (1, .int x1), (2, .int x2), (3, .int x3)]) hx hb dX13_treesAfter_20 hl (by decide) rfl (fun ls hl => ?_)
      refine lv_iload_n hx hb dX13_treesAfter_22 rfl (lv_at hl 4 rfl) ?_
      refine lv_aload_n hx hb dX13_treesAfter_23 rfl (lv_at hl 2 rfl) ?_
      rcases hN7 : gR M a0 3 with _ | b7
      · replace h := oc_n hN7 h
        refine r_get (T := TX13) (v := .null) hx hb hts in13 hown hK hP k0 (by decide) rfl 3 (by decide) (hts (.fieldLink RX13 431 "StoneWalkModel" "island" "LStoneWalkModel$Island;") (List.mem_of_getElem? (i := 1) (by decide +kernel))) rfl (t := 2) rfl (by show va_rf _ = _; rw [hN7]; rfl) dX13_treesAfter_24 ?_
        exact absurd h (by simp)
      · replace h := oc_s hN7 h
        have kb7 := hT.f k0 (k := 3) (t := 12) (n := 0) rfl hN7
        refine r_get (T := TX13) (v := .ref (ad b7)) hx hb hts in13 hown hK hP k0 (by decide) rfl 3 (by decide) (hts (.fieldLink RX13 431 "StoneWalkModel" "island" "LStoneWalkModel$Island;") (List.mem_of_getElem? (i := 1) (by decide +kernel))) rfl (t := 2) rfl (by show va_rf _ = _; rw [hN7]; rfl) dX13_treesAfter_24 ?_
        refine r_getN (T := TX12) (v := .int (gI M b7 28)) hx hb hts in12 hown hK hP kb7 (by decide) rfl 28 (by decide) (hG.2.2.1 ("StoneWalkModel", 349, "StoneWalkModel$Island", "grows", "I", "StoneWalkModel") (List.mem_of_getElem? (i := 29) rfl)) rfl (t := 0) rfl rfl dX13_treesAfter_27 ?_
        refine lv_imul hx hb dX13_treesAfter_30 ?_
        refine lv_bipush (v := 100) hx hb dX13_treesAfter_31 rfl ?_
        refine lv_idiv hx hb dX13_treesAfter_33 (by decide) ?_
        refine lv_istore (lv' := [(6, .int ((x2 * (gI M b7 28)) / 100)), (5, .int (gI M b5 (ix x1))), (4, .int (gI M b2 (ix x1))), (0, .ref (ad a0)), (1, .int x1), (2, .int x2), (3, .int x3)]) hx hb dX13_treesAfter_34 hl (by decide) rfl (fun ls hl => ?_)
        refine lv_iload hx hb dX13_treesAfter_36 (lv_at hl 2 rfl) ?_
        refine lv_iconst (v := 1) hx hb dX13_treesAfter_38 rfl ?_
        refine lv_icmp_ne (tgt := 55) hx hb dX13_treesAfter_39 rfl (fun c8 => ?_) (fun c8 => ?_)
        · replace h := ite_f c8 h
          refine lv_iload_n hx hb dX13_treesAfter_55 rfl (lv_at hl 5 rfl) ?_
          refine lv_iconst (v := 2) hx hb dX13_treesAfter_56 rfl ?_
          refine lv_imul hx hb dX13_treesAfter_57 ?_
          refine lv_bipush (v := 100) hx hb dX13_treesAfter_58 rfl ?_
          refine lv_idiv hx hb dX13_treesAfter_60 (by decide) ?_
          refine lv_istore (lv' := [(7, .int ((x2 * 2) / 100)), (6, .int ((x2 * (gI M b7 28)) / 100)), (5, .int (gI M b5 (ix x1))), (4, .int (gI M b2 (ix x1))), (0, .ref (ad a0)), (1, .int x1), (2, .int x2), (3, .int x3)]) hx hb dX13_treesAfter_61 hl (by decide) rfl (fun ls hl => ?_)
          refine lv_iload hx hb dX13_treesAfter_63 (lv_at hl 3 rfl) ?_
          refine lv_if_ne (tgt := 86) hx hb dX13_treesAfter_65 rfl (fun c9 => ?_) (fun c9 => ?_)
          · replace h := ite_f c9 h
            refine lv_iload hx hb dX13_treesAfter_86 (lv_at hl 3 rfl) ?_
            refine lv_iconst (v := 2) hx hb dX13_treesAfter_88 rfl ?_
            refine lv_icmp_ne (tgt := 118) hx hb dX13_treesAfter_89 rfl (fun c10 => ?_) (fun c10 => ?_)
            · replace h := ite_f c10 h
              refine lv_iload_n hx hb dX13_treesAfter_118 rfl (lv_at hl 6 rfl) ?_
              refine lv_iload hx hb dX13_treesAfter_119 (lv_at hl 1 rfl) ?_
              refine lv_iadd hx hb dX13_treesAfter_121 ?_
              refine lv_iload hx hb dX13_treesAfter_122 (lv_at hl 0 rfl) ?_
              refine lv_isub hx hb dX13_treesAfter_124 ?_
              refine lv_istore (lv' := [(8, .int ((x2 + ((x2 * (gI M b7 28)) / 100)) - ((x2 * 2) / 100))), (7, .int ((x2 * 2) / 100)), (6, .int ((x2 * (gI M b7 28)) / 100)), (5, .int (gI M b5 (ix x1))), (4, .int (gI M b2 (ix x1))), (0, .ref (ad a0)), (1, .int x1), (2, .int x2), (3, .int x3)]) hx hb dX13_treesAfter_125 hl (by decide) rfl (fun ls hl => ?_)
              refine lv_iload hx hb dX13_treesAfter_127 (lv_at hl 0 rfl) ?_
              refine lv_if_ge (tgt := 136) hx hb dX13_treesAfter_129 rfl (fun c11 => ?_) (fun c11 => ?_)
              · replace h := ite_t c11 h
                refine lv_iload hx hb dX13_treesAfter_136 (lv_at hl 0 rfl) ?_
                refine lv_sipush (v := 9999) hx hb dX13_treesAfter_138 rfl ?_
                refine lv_icmp_le (tgt := 150) hx hb dX13_treesAfter_141 rfl (fun c12 => ?_) (fun c12 => ?_)
                · replace h := ite_t c12 h
                  refine lv_iload hx hb dX13_treesAfter_150 (lv_at hl 0 rfl) ?_
                  exact r_iret hx hb hr hlocks hP hK hD hT hG hS (Option.some.inj h) rfl dX13_treesAfter_152
                · replace h := ite_f c12 h
                  refine lv_sipush (v := 9999) hx hb dX13_treesAfter_144 rfl ?_
                  refine lv_goto (tgt := 152) hx hb dX13_treesAfter_147 rfl ?_
                  exact r_iret hx hb hr hlocks hP hK hD hT hG hS (Option.some.inj h) rfl dX13_treesAfter_152
              · replace h := ite_f c11 h
                refine lv_iconst (v := 0) hx hb dX13_treesAfter_132 rfl ?_
                refine lv_goto (tgt := 152) hx hb dX13_treesAfter_133 rfl ?_
                exact r_iret hx hb hr hlocks hP hK hD hT hG hS (Option.some.inj h) rfl dX13_treesAfter_152
            · replace h := ite_t c10 h
              refine lv_iload_n hx hb dX13_treesAfter_92 rfl (lv_at hl 7 rfl) ?_
              refine lv_aload_n hx hb dX13_treesAfter_93 rfl (lv_at hl 4 rfl) ?_
              rcases hN13 : gR M a0 3 with _ | b13
              · replace h := oc_n hN13 h
                refine r_get (T := TX13) (v := .null) hx hb hts in13 hown hK hP k0 (by decide) rfl 3 (by decide) (hts (.fieldLink RX13 431 "StoneWalkModel" "island" "LStoneWalkModel$Island;") (List.mem_of_getElem? (i := 1) (by decide +kernel))) rfl (t := 2) rfl (by show va_rf _ = _; rw [hN13]; rfl) dX13_treesAfter_94 ?_
                exact absurd h (by simp)
              · replace h := oc_s hN13 h
                have kb13 := hT.f k0 (k := 3) (t := 12) (n := 0) rfl hN13
                refine r_get (T := TX13) (v := .ref (ad b13)) hx hb hts in13 hown hK hP k0 (by decide) rfl 3 (by decide) (hts (.fieldLink RX13 431 "StoneWalkModel" "island" "LStoneWalkModel$Island;") (List.mem_of_getElem? (i := 1) (by decide +kernel))) rfl (t := 2) rfl (by show va_rf _ = _; rw [hN13]; rfl) dX13_treesAfter_94 ?_
                rcases hN14 : gR M b13 38 with _ | b14
                · exact absurd (oc_n hN14 h) (by simp)
                replace h := oc_s hN14 h
                have kb14 := hT.f kb13 (k := 38) (t := 15) (n := 5) rfl hN14
                refine r_getN (T := TX12) (v := .ref (ad b14)) hx hb hts in12 hown hK hP kb13 (by decide) rfl 38 (by decide) (hG.2.2.1 ("StoneWalkModel", 391, "StoneWalkModel$Island", "every", "[I", "StoneWalkModel") (List.mem_of_getElem? (i := 40) rfl)) rfl (t := 2) rfl (by show va_rf _ = _; rw [hN14]; rfl) dX13_treesAfter_97 ?_
                refine lv_iload_n hx hb dX13_treesAfter_100 rfl (lv_at hl 5 rfl) ?_
                obtain ⟨hn15, h⟩ := chk_some h
                refine r_iald hx hb hK hP kb14 hn15 dX13_treesAfter_101 ?_
                obtain ⟨hn16, h⟩ := chk_some h
                refine lv_irem hx hb dX13_treesAfter_102 hn16 ?_
                refine lv_if_ne (tgt := 118) hx hb dX13_treesAfter_103 rfl (fun c17 => ?_) (fun c17 => ?_)
                · replace h := ite_f c17 h
                  refine lv_iload_n hx hb dX13_treesAfter_118 rfl (lv_at hl 6 rfl) ?_
                  refine lv_iload hx hb dX13_treesAfter_119 (lv_at hl 1 rfl) ?_
                  refine lv_iadd hx hb dX13_treesAfter_121 ?_
                  refine lv_iload hx hb dX13_treesAfter_122 (lv_at hl 0 rfl) ?_
                  refine lv_isub hx hb dX13_treesAfter_124 ?_
                  refine lv_istore (lv' := [(8, .int ((x2 + ((x2 * (gI M b7 28)) / 100)) - ((x2 * 2) / 100))), (7, .int ((x2 * 2) / 100)), (6, .int ((x2 * (gI M b7 28)) / 100)), (5, .int (gI M b5 (ix x1))), (4, .int (gI M b2 (ix x1))), (0, .ref (ad a0)), (1, .int x1), (2, .int x2), (3, .int x3)]) hx hb dX13_treesAfter_125 hl (by decide) rfl (fun ls hl => ?_)
                  refine lv_iload hx hb dX13_treesAfter_127 (lv_at hl 0 rfl) ?_
                  refine lv_if_ge (tgt := 136) hx hb dX13_treesAfter_129 rfl (fun c18 => ?_) (fun c18 => ?_)
                  · replace h := ite_t c18 h
                    refine lv_iload hx hb dX13_treesAfter_136 (lv_at hl 0 rfl) ?_
                    refine lv_sipush (v := 9999) hx hb dX13_treesAfter_138 rfl ?_
                    refine lv_icmp_le (tgt := 150) hx hb dX13_treesAfter_141 rfl (fun c19 => ?_) (fun c19 => ?_)
                    · replace h := ite_t c19 h
                      refine lv_iload hx hb dX13_treesAfter_150 (lv_at hl 0 rfl) ?_
                      exact r_iret hx hb hr hlocks hP hK hD hT hG hS (Option.some.inj h) rfl dX13_treesAfter_152
                    · replace h := ite_f c19 h
                      refine lv_sipush (v := 9999) hx hb dX13_treesAfter_144 rfl ?_
                      refine lv_goto (tgt := 152) hx hb dX13_treesAfter_147 rfl ?_
                      exact r_iret hx hb hr hlocks hP hK hD hT hG hS (Option.some.inj h) rfl dX13_treesAfter_152
                  · replace h := ite_f c18 h
                    refine lv_iconst (v := 0) hx hb dX13_treesAfter_132 rfl ?_
                    refine lv_goto (tgt := 152) hx hb dX13_treesAfter_133 rfl ?_
                    exact r_iret hx hb hr hlocks hP hK hD hT hG hS (Option.some.inj h) rfl dX13_treesAfter_152
                · replace h := ite_t c17 h
                  refine lv_iload hx hb dX13_treesAfter_106 (lv_at hl 0 rfl) ?_
                  refine lv_iload_n hx hb dX13_treesAfter_108 rfl (lv_at hl 6 rfl) ?_
                  refine lv_iload hx hb dX13_treesAfter_109 (lv_at hl 2 rfl) ?_
                  refine lv_imul hx hb dX13_treesAfter_111 ?_
                  refine lv_bipush (v := 100) hx hb dX13_treesAfter_112 rfl ?_
                  refine lv_idiv hx hb dX13_treesAfter_114 (by decide) ?_
                  refine lv_iadd hx hb dX13_treesAfter_115 ?_
                  refine lv_istore (lv' := [(7, .int (((x2 * 2) / 100) + ((x2 * (gI M b5 (ix x1))) / 100))), (6, .int ((x2 * (gI M b7 28)) / 100)), (5, .int (gI M b5 (ix x1))), (4, .int (gI M b2 (ix x1))), (0, .ref (ad a0)), (1, .int x1), (2, .int x2), (3, .int x3)]) hx hb dX13_treesAfter_116 hl (by decide) rfl (fun ls hl => ?_)
                  refine lv_iload_n hx hb dX13_treesAfter_118 rfl (lv_at hl 6 rfl) ?_
                  refine lv_iload hx hb dX13_treesAfter_119 (lv_at hl 1 rfl) ?_
                  refine lv_iadd hx hb dX13_treesAfter_121 ?_
                  refine lv_iload hx hb dX13_treesAfter_122 (lv_at hl 0 rfl) ?_
                  refine lv_isub hx hb dX13_treesAfter_124 ?_
                  refine lv_istore (lv' := [(8, .int ((x2 + ((x2 * (gI M b7 28)) / 100)) - (((x2 * 2) / 100) + ((x2 * (gI M b5 (ix x1))) / 100)))), (7, .int (((x2 * 2) / 100) + ((x2 * (gI M b5 (ix x1))) / 100))), (6, .int ((x2 * (gI M b7 28)) / 100)), (5, .int (gI M b5 (ix x1))), (4, .int (gI M b2 (ix x1))), (0, .ref (ad a0)), (1, .int x1), (2, .int x2), (3, .int x3)]) hx hb dX13_treesAfter_125 hl (by decide) rfl (fun ls hl => ?_)
                  refine lv_iload hx hb dX13_treesAfter_127 (lv_at hl 0 rfl) ?_
                  refine lv_if_ge (tgt := 136) hx hb dX13_treesAfter_129 rfl (fun c20 => ?_) (fun c20 => ?_)
                  · replace h := ite_t c20 h
                    refine lv_iload hx hb dX13_treesAfter_136 (lv_at hl 0 rfl) ?_
                    refine lv_sipush (v := 9999) hx hb dX13_treesAfter_138 rfl ?_
                    refine lv_icmp_le (tgt := 150) hx hb dX13_treesAfter_141 rfl (fun c21 => ?_) (fun c21 => ?_)
                    · replace h := ite_t c21 h
                      refine lv_iload hx hb dX13_treesAfter_150 (lv_at hl 0 rfl) ?_
                      exact r_iret hx hb hr hlocks hP hK hD hT hG hS (Option.some.inj h) rfl dX13_treesAfter_152
                    · replace h := ite_f c21 h
                      refine lv_sipush (v := 9999) hx hb dX13_treesAfter_144 rfl ?_
                      refine lv_goto (tgt := 152) hx hb dX13_treesAfter_147 rfl ?_
                      exact r_iret hx hb hr hlocks hP hK hD hT hG hS (Option.some.inj h) rfl dX13_treesAfter_152
                  · replace h := ite_f c20 h
                    refine lv_iconst (v := 0) hx hb dX13_treesAfter_132 rfl ?_
                    refine lv_goto (tgt := 152) hx hb dX13_treesAfter_133 rfl ?_
                    exact r_iret hx hb hr hlocks hP hK hD hT hG hS (Option.some.inj h) rfl dX13_treesAfter_152
          · replace h := ite_t c9 h
            refine lv_iload hx hb dX13_treesAfter_68 (lv_at hl 0 rfl) ?_
            refine lv_iload hx hb dX13_treesAfter_70 (lv_at hl 2 rfl) ?_
            refine lv_aload_n hx hb dX13_treesAfter_72 rfl (lv_at hl 4 rfl) ?_
            rcases hN22 : gR M a0 3 with _ | b22
            · replace h := oc_n hN22 h
              refine r_get (T := TX13) (v := .null) hx hb hts in13 hown hK hP k0 (by decide) rfl 3 (by decide) (hts (.fieldLink RX13 431 "StoneWalkModel" "island" "LStoneWalkModel$Island;") (List.mem_of_getElem? (i := 1) (by decide +kernel))) rfl (t := 2) rfl (by show va_rf _ = _; rw [hN22]; rfl) dX13_treesAfter_73 ?_
              exact absurd h (by simp)
            · replace h := oc_s hN22 h
              have kb22 := hT.f k0 (k := 3) (t := 12) (n := 0) rfl hN22
              refine r_get (T := TX13) (v := .ref (ad b22)) hx hb hts in13 hown hK hP k0 (by decide) rfl 3 (by decide) (hts (.fieldLink RX13 431 "StoneWalkModel" "island" "LStoneWalkModel$Island;") (List.mem_of_getElem? (i := 1) (by decide +kernel))) rfl (t := 2) rfl (by show va_rf _ = _; rw [hN22]; rfl) dX13_treesAfter_73 ?_
              refine r_getN (T := TX12) (v := .int (gI M b22 29)) hx hb hts in12 hown hK hP kb22 (by decide) rfl 29 (by decide) (hG.2.2.1 ("StoneWalkModel", 351, "StoneWalkModel$Island", "people", "I", "StoneWalkModel") (List.mem_of_getElem? (i := 30) rfl)) rfl (t := 0) rfl rfl dX13_treesAfter_76 ?_
              refine lv_imul hx hb dX13_treesAfter_79 ?_
              refine lv_bipush (v := 100) hx hb dX13_treesAfter_80 rfl ?_
              refine lv_idiv hx hb dX13_treesAfter_82 (by decide) ?_
              refine lv_iadd hx hb dX13_treesAfter_83 ?_
              refine lv_istore (lv' := [(7, .int (((x2 * 2) / 100) + (((gI M b5 (ix x1)) * (gI M b22 29)) / 100))), (6, .int ((x2 * (gI M b7 28)) / 100)), (5, .int (gI M b5 (ix x1))), (4, .int (gI M b2 (ix x1))), (0, .ref (ad a0)), (1, .int x1), (2, .int x2), (3, .int x3)]) hx hb dX13_treesAfter_84 hl (by decide) rfl (fun ls hl => ?_)
              refine lv_iload hx hb dX13_treesAfter_86 (lv_at hl 3 rfl) ?_
              refine lv_iconst (v := 2) hx hb dX13_treesAfter_88 rfl ?_
              refine lv_icmp_ne (tgt := 118) hx hb dX13_treesAfter_89 rfl (fun c23 => ?_) (fun c23 => ?_)
              · replace h := ite_f c23 h
                refine lv_iload_n hx hb dX13_treesAfter_118 rfl (lv_at hl 6 rfl) ?_
                refine lv_iload hx hb dX13_treesAfter_119 (lv_at hl 1 rfl) ?_
                refine lv_iadd hx hb dX13_treesAfter_121 ?_
                refine lv_iload hx hb dX13_treesAfter_122 (lv_at hl 0 rfl) ?_
                refine lv_isub hx hb dX13_treesAfter_124 ?_
                refine lv_istore (lv' := [(8, .int ((x2 + ((x2 * (gI M b7 28)) / 100)) - (((x2 * 2) / 100) + (((gI M b5 (ix x1)) * (gI M b22 29)) / 100)))), (7, .int (((x2 * 2) / 100) + (((gI M b5 (ix x1)) * (gI M b22 29)) / 100))), (6, .int ((x2 * (gI M b7 28)) / 100)), (5, .int (gI M b5 (ix x1))), (4, .int (gI M b2 (ix x1))), (0, .ref (ad a0)), (1, .int x1), (2, .int x2), (3, .int x3)]) hx hb dX13_treesAfter_125 hl (by decide) rfl (fun ls hl => ?_)
                refine lv_iload hx hb dX13_treesAfter_127 (lv_at hl 0 rfl) ?_
                refine lv_if_ge (tgt := 136) hx hb dX13_treesAfter_129 rfl (fun c24 => ?_) (fun c24 => ?_)
                · replace h := ite_t c24 h
                  refine lv_iload hx hb dX13_treesAfter_136 (lv_at hl 0 rfl) ?_
                  refine lv_sipush (v := 9999) hx hb dX13_treesAfter_138 rfl ?_
                  refine lv_icmp_le (tgt := 150) hx hb dX13_treesAfter_141 rfl (fun c25 => ?_) (fun c25 => ?_)
                  · replace h := ite_t c25 h
                    refine lv_iload hx hb dX13_treesAfter_150 (lv_at hl 0 rfl) ?_
                    exact r_iret hx hb hr hlocks hP hK hD hT hG hS (Option.some.inj h) rfl dX13_treesAfter_152
                  · replace h := ite_f c25 h
                    refine lv_sipush (v := 9999) hx hb dX13_treesAfter_144 rfl ?_
                    refine lv_goto (tgt := 152) hx hb dX13_treesAfter_147 rfl ?_
                    exact r_iret hx hb hr hlocks hP hK hD hT hG hS (Option.some.inj h) rfl dX13_treesAfter_152
                · replace h := ite_f c24 h
                  refine lv_iconst (v := 0) hx hb dX13_treesAfter_132 rfl ?_
                  refine lv_goto (tgt := 152) hx hb dX13_treesAfter_133 rfl ?_
                  exact r_iret hx hb hr hlocks hP hK hD hT hG hS (Option.some.inj h) rfl dX13_treesAfter_152
              · replace h := ite_t c23 h
                refine lv_iload_n hx hb dX13_treesAfter_92 rfl (lv_at hl 7 rfl) ?_
                refine lv_aload_n hx hb dX13_treesAfter_93 rfl (lv_at hl 4 rfl) ?_
                rcases hN26 : gR M a0 3 with _ | b26
                · replace h := oc_n hN26 h
                  refine r_get (T := TX13) (v := .null) hx hb hts in13 hown hK hP k0 (by decide) rfl 3 (by decide) (hts (.fieldLink RX13 431 "StoneWalkModel" "island" "LStoneWalkModel$Island;") (List.mem_of_getElem? (i := 1) (by decide +kernel))) rfl (t := 2) rfl (by show va_rf _ = _; rw [hN26]; rfl) dX13_treesAfter_94 ?_
                  exact absurd h (by simp)
                · replace h := oc_s hN26 h
                  have kb26 := hT.f k0 (k := 3) (t := 12) (n := 0) rfl hN26
                  refine r_get (T := TX13) (v := .ref (ad b26)) hx hb hts in13 hown hK hP k0 (by decide) rfl 3 (by decide) (hts (.fieldLink RX13 431 "StoneWalkModel" "island" "LStoneWalkModel$Island;") (List.mem_of_getElem? (i := 1) (by decide +kernel))) rfl (t := 2) rfl (by show va_rf _ = _; rw [hN26]; rfl) dX13_treesAfter_94 ?_
                  rcases hN27 : gR M b26 38 with _ | b27
                  · exact absurd (oc_n hN27 h) (by simp)
                  replace h := oc_s hN27 h
                  have kb27 := hT.f kb26 (k := 38) (t := 15) (n := 5) rfl hN27
                  refine r_getN (T := TX12) (v := .ref (ad b27)) hx hb hts in12 hown hK hP kb26 (by decide) rfl 38 (by decide) (hG.2.2.1 ("StoneWalkModel", 391, "StoneWalkModel$Island", "every", "[I", "StoneWalkModel") (List.mem_of_getElem? (i := 40) rfl)) rfl (t := 2) rfl (by show va_rf _ = _; rw [hN27]; rfl) dX13_treesAfter_97 ?_
                  refine lv_iload_n hx hb dX13_treesAfter_100 rfl (lv_at hl 5 rfl) ?_
                  obtain ⟨hn28, h⟩ := chk_some h
                  refine r_iald hx hb hK hP kb27 hn28 dX13_treesAfter_101 ?_
                  obtain ⟨hn29, h⟩ := chk_some h
                  refine lv_irem hx hb dX13_treesAfter_102 hn29 ?_
                  refine lv_if_ne (tgt := 118) hx hb dX13_treesAfter_103 rfl (fun c30 => ?_) (fun c30 => ?_)
                  · replace h := ite_f c30 h
                    refine lv_iload_n hx hb dX13_treesAfter_118 rfl (lv_at hl 6 rfl) ?_
                    refine lv_iload hx hb dX13_treesAfter_119 (lv_at hl 1 rfl) ?_
                    refine lv_iadd hx hb dX13_treesAfter_121 ?_
                    refine lv_iload hx hb dX13_treesAfter_122 (lv_at hl 0 rfl) ?_
                    refine lv_isub hx hb dX13_treesAfter_124 ?_
                    refine lv_istore (lv' := [(8, .int ((x2 + ((x2 * (gI M b7 28)) / 100)) - (((x2 * 2) / 100) + (((gI M b5 (ix x1)) * (gI M b22 29)) / 100)))), (7, .int (((x2 * 2) / 100) + (((gI M b5 (ix x1)) * (gI M b22 29)) / 100))), (6, .int ((x2 * (gI M b7 28)) / 100)), (5, .int (gI M b5 (ix x1))), (4, .int (gI M b2 (ix x1))), (0, .ref (ad a0)), (1, .int x1), (2, .int x2), (3, .int x3)]) hx hb dX13_treesAfter_125 hl (by decide) rfl (fun ls hl => ?_)
                    refine lv_iload hx hb dX13_treesAfter_127 (lv_at hl 0 rfl) ?_
                    refine lv_if_ge (tgt := 136) hx hb dX13_treesAfter_129 rfl (fun c31 => ?_) (fun c31 => ?_)
                    · replace h := ite_t c31 h
                      refine lv_iload hx hb dX13_treesAfter_136 (lv_at hl 0 rfl) ?_
                      refine lv_sipush (v := 9999) hx hb dX13_treesAfter_138 rfl ?_
                      refine lv_icmp_le (tgt := 150) hx hb dX13_treesAfter_141 rfl (fun c32 => ?_) (fun c32 => ?_)
                      · replace h := ite_t c32 h
                        refine lv_iload hx hb dX13_treesAfter_150 (lv_at hl 0 rfl) ?_
                        exact r_iret hx hb hr hlocks hP hK hD hT hG hS (Option.some.inj h) rfl dX13_treesAfter_152
                      · replace h := ite_f c32 h
                        refine lv_sipush (v := 9999) hx hb dX13_treesAfter_144 rfl ?_
                        refine lv_goto (tgt := 152) hx hb dX13_treesAfter_147 rfl ?_
                        exact r_iret hx hb hr hlocks hP hK hD hT hG hS (Option.some.inj h) rfl dX13_treesAfter_152
                    · replace h := ite_f c31 h
                      refine lv_iconst (v := 0) hx hb dX13_treesAfter_132 rfl ?_
                      refine lv_goto (tgt := 152) hx hb dX13_treesAfter_133 rfl ?_
                      exact r_iret hx hb hr hlocks hP hK hD hT hG hS (Option.some.inj h) rfl dX13_treesAfter_152
                  · replace h := ite_t c30 h
                    refine lv_iload hx hb dX13_treesAfter_106 (lv_at hl 0 rfl) ?_
                    refine lv_iload_n hx hb dX13_treesAfter_108 rfl (lv_at hl 6 rfl) ?_
                    refine lv_iload hx hb dX13_treesAfter_109 (lv_at hl 2 rfl) ?_
                    refine lv_imul hx hb dX13_treesAfter_111 ?_
                    refine lv_bipush (v := 100) hx hb dX13_treesAfter_112 rfl ?_
                    refine lv_idiv hx hb dX13_treesAfter_114 (by decide) ?_
                    refine lv_iadd hx hb dX13_treesAfter_115 ?_
                    refine lv_istore (lv' := [(7, .int ((((x2 * 2) / 100) + (((gI M b5 (ix x1)) * (gI M b22 29)) / 100)) + ((x2 * (gI M b5 (ix x1))) / 100))), (6, .int ((x2 * (gI M b7 28)) / 100)), (5, .int (gI M b5 (ix x1))), (4, .int (gI M b2 (ix x1))), (0, .ref (ad a0)), (1, .int x1), (2, .int x2), (3, .int x3)]) hx hb dX13_treesAfter_116 hl (by decide) rfl (fun ls hl => ?_)
                    refine lv_iload_n hx hb dX13_treesAfter_118 rfl (lv_at hl 6 rfl) ?_
                    refine lv_iload hx hb dX13_treesAfter_119 (lv_at hl 1 rfl) ?_
                    refine lv_iadd hx hb dX13_treesAfter_121 ?_
                    refine lv_iload hx hb dX13_treesAfter_122 (lv_at hl 0 rfl) ?_
                    refine lv_isub hx hb dX13_treesAfter_124 ?_
                    refine lv_istore (lv' := [(8, .int ((x2 + ((x2 * (gI M b7 28)) / 100)) - ((((x2 * 2) / 100) + (((gI M b5 (ix x1)) * (gI M b22 29)) / 100)) + ((x2 * (gI M b5 (ix x1))) / 100)))), (7, .int ((((x2 * 2) / 100) + (((gI M b5 (ix x1)) * (gI M b22 29)) / 100)) + ((x2 * (gI M b5 (ix x1))) / 100))), (6, .int ((x2 * (gI M b7 28)) / 100)), (5, .int (gI M b5 (ix x1))), (4, .int (gI M b2 (ix x1))), (0, .ref (ad a0)), (1, .int x1), (2, .int x2), (3, .int x3)]) hx hb dX13_treesAfter_125 hl (by decide) rfl (fun ls hl => ?_)
                    refine lv_iload hx hb dX13_treesAfter_127 (lv_at hl 0 rfl) ?_
                    refine lv_if_ge (tgt := 136) hx hb dX13_treesAfter_129 rfl (fun c33 => ?_) (fun c33 => ?_)
                    · replace h := ite_t c33 h
                      refine lv_iload hx hb dX13_treesAfter_136 (lv_at hl 0 rfl) ?_
                      refine lv_sipush (v := 9999) hx hb dX13_treesAfter_138 rfl ?_
                      refine lv_icmp_le (tgt := 150) hx hb dX13_treesAfter_141 rfl (fun c34 => ?_) (fun c34 => ?_)
                      · replace h := ite_t c34 h
                        refine lv_iload hx hb dX13_treesAfter_150 (lv_at hl 0 rfl) ?_
                        exact r_iret hx hb hr hlocks hP hK hD hT hG hS (Option.some.inj h) rfl dX13_treesAfter_152
                      · replace h := ite_f c34 h
                        refine lv_sipush (v := 9999) hx hb dX13_treesAfter_144 rfl ?_
                        refine lv_goto (tgt := 152) hx hb dX13_treesAfter_147 rfl ?_
                        exact r_iret hx hb hr hlocks hP hK hD hT hG hS (Option.some.inj h) rfl dX13_treesAfter_152
                    · replace h := ite_f c33 h
                      refine lv_iconst (v := 0) hx hb dX13_treesAfter_132 rfl ?_
                      refine lv_goto (tgt := 152) hx hb dX13_treesAfter_133 rfl ?_
                      exact r_iret hx hb hr hlocks hP hK hD hT hG hS (Option.some.inj h) rfl dX13_treesAfter_152
        · replace h := ite_t c8 h
          refine lv_iload hx hb dX13_treesAfter_42 (lv_at hl 0 rfl) ?_
          refine lv_bipush (v := 100) hx hb dX13_treesAfter_44 rfl ?_
          refine lv_iload hx hb dX13_treesAfter_46 (lv_at hl 1 rfl) ?_
          refine lv_isub hx hb dX13_treesAfter_48 ?_
          refine lv_imul hx hb dX13_treesAfter_49 ?_
          refine lv_bipush (v := 100) hx hb dX13_treesAfter_50 rfl ?_
          refine lv_idiv hx hb dX13_treesAfter_52 (by decide) ?_
          refine lv_istore (lv' := [(6, .int ((((x2 * (gI M b7 28)) / 100) * (100 - (gI M b5 (ix x1)))) / 100)), (5, .int (gI M b5 (ix x1))), (4, .int (gI M b2 (ix x1))), (0, .ref (ad a0)), (1, .int x1), (2, .int x2), (3, .int x3)]) hx hb dX13_treesAfter_53 hl (by decide) rfl (fun ls hl => ?_)
          refine lv_iload_n hx hb dX13_treesAfter_55 rfl (lv_at hl 5 rfl) ?_
          refine lv_iconst (v := 2) hx hb dX13_treesAfter_56 rfl ?_
          refine lv_imul hx hb dX13_treesAfter_57 ?_
          refine lv_bipush (v := 100) hx hb dX13_treesAfter_58 rfl ?_
          refine lv_idiv hx hb dX13_treesAfter_60 (by decide) ?_
          refine lv_istore (lv' := [(7, .int ((x2 * 2) / 100)), (6, .int ((((x2 * (gI M b7 28)) / 100) * (100 - (gI M b5 (ix x1)))) / 100)), (5, .int (gI M b5 (ix x1))), (4, .int (gI M b2 (ix x1))), (0, .ref (ad a0)), (1, .int x1), (2, .int x2), (3, .int x3)]) hx hb dX13_treesAfter_61 hl (by decide) rfl (fun ls hl => ?_)
          refine lv_iload hx hb dX13_treesAfter_63 (lv_at hl 3 rfl) ?_
          refine lv_if_ne (tgt := 86) hx hb dX13_treesAfter_65 rfl (fun c35 => ?_) (fun c35 => ?_)
          · replace h := ite_f c35 h
            refine lv_iload hx hb dX13_treesAfter_86 (lv_at hl 3 rfl) ?_
            refine lv_iconst (v := 2) hx hb dX13_treesAfter_88 rfl ?_
            refine lv_icmp_ne (tgt := 118) hx hb dX13_treesAfter_89 rfl (fun c36 => ?_) (fun c36 => ?_)
            · replace h := ite_f c36 h
              refine lv_iload_n hx hb dX13_treesAfter_118 rfl (lv_at hl 6 rfl) ?_
              refine lv_iload hx hb dX13_treesAfter_119 (lv_at hl 1 rfl) ?_
              refine lv_iadd hx hb dX13_treesAfter_121 ?_
              refine lv_iload hx hb dX13_treesAfter_122 (lv_at hl 0 rfl) ?_
              refine lv_isub hx hb dX13_treesAfter_124 ?_
              refine lv_istore (lv' := [(8, .int ((x2 + ((((x2 * (gI M b7 28)) / 100) * (100 - (gI M b5 (ix x1)))) / 100)) - ((x2 * 2) / 100))), (7, .int ((x2 * 2) / 100)), (6, .int ((((x2 * (gI M b7 28)) / 100) * (100 - (gI M b5 (ix x1)))) / 100)), (5, .int (gI M b5 (ix x1))), (4, .int (gI M b2 (ix x1))), (0, .ref (ad a0)), (1, .int x1), (2, .int x2), (3, .int x3)]) hx hb dX13_treesAfter_125 hl (by decide) rfl (fun ls hl => ?_)
              refine lv_iload hx hb dX13_treesAfter_127 (lv_at hl 0 rfl) ?_
              refine lv_if_ge (tgt := 136) hx hb dX13_treesAfter_129 rfl (fun c37 => ?_) (fun c37 => ?_)
              · replace h := ite_t c37 h
                refine lv_iload hx hb dX13_treesAfter_136 (lv_at hl 0 rfl) ?_
                refine lv_sipush (v := 9999) hx hb dX13_treesAfter_138 rfl ?_
                refine lv_icmp_le (tgt := 150) hx hb dX13_treesAfter_141 rfl (fun c38 => ?_) (fun c38 => ?_)
                · replace h := ite_t c38 h
                  refine lv_iload hx hb dX13_treesAfter_150 (lv_at hl 0 rfl) ?_
                  exact r_iret hx hb hr hlocks hP hK hD hT hG hS (Option.some.inj h) rfl dX13_treesAfter_152
                · replace h := ite_f c38 h
                  refine lv_sipush (v := 9999) hx hb dX13_treesAfter_144 rfl ?_
                  refine lv_goto (tgt := 152) hx hb dX13_treesAfter_147 rfl ?_
                  exact r_iret hx hb hr hlocks hP hK hD hT hG hS (Option.some.inj h) rfl dX13_treesAfter_152
              · replace h := ite_f c37 h
                refine lv_iconst (v := 0) hx hb dX13_treesAfter_132 rfl ?_
                refine lv_goto (tgt := 152) hx hb dX13_treesAfter_133 rfl ?_
                exact r_iret hx hb hr hlocks hP hK hD hT hG hS (Option.some.inj h) rfl dX13_treesAfter_152
            · replace h := ite_t c36 h
              refine lv_iload_n hx hb dX13_treesAfter_92 rfl (lv_at hl 7 rfl) ?_
              refine lv_aload_n hx hb dX13_treesAfter_93 rfl (lv_at hl 4 rfl) ?_
              rcases hN39 : gR M a0 3 with _ | b39
              · replace h := oc_n hN39 h
                refine r_get (T := TX13) (v := .null) hx hb hts in13 hown hK hP k0 (by decide) rfl 3 (by decide) (hts (.fieldLink RX13 431 "StoneWalkModel" "island" "LStoneWalkModel$Island;") (List.mem_of_getElem? (i := 1) (by decide +kernel))) rfl (t := 2) rfl (by show va_rf _ = _; rw [hN39]; rfl) dX13_treesAfter_94 ?_
                exact absurd h (by simp)
              · replace h := oc_s hN39 h
                have kb39 := hT.f k0 (k := 3) (t := 12) (n := 0) rfl hN39
                refine r_get (T := TX13) (v := .ref (ad b39)) hx hb hts in13 hown hK hP k0 (by decide) rfl 3 (by decide) (hts (.fieldLink RX13 431 "StoneWalkModel" "island" "LStoneWalkModel$Island;") (List.mem_of_getElem? (i := 1) (by decide +kernel))) rfl (t := 2) rfl (by show va_rf _ = _; rw [hN39]; rfl) dX13_treesAfter_94 ?_
                rcases hN40 : gR M b39 38 with _ | b40
                · exact absurd (oc_n hN40 h) (by simp)
                replace h := oc_s hN40 h
                have kb40 := hT.f kb39 (k := 38) (t := 15) (n := 5) rfl hN40
                refine r_getN (T := TX12) (v := .ref (ad b40)) hx hb hts in12 hown hK hP kb39 (by decide) rfl 38 (by decide) (hG.2.2.1 ("StoneWalkModel", 391, "StoneWalkModel$Island", "every", "[I", "StoneWalkModel") (List.mem_of_getElem? (i := 40) rfl)) rfl (t := 2) rfl (by show va_rf _ = _; rw [hN40]; rfl) dX13_treesAfter_97 ?_
                refine lv_iload_n hx hb dX13_treesAfter_100 rfl (lv_at hl 5 rfl) ?_
                obtain ⟨hn41, h⟩ := chk_some h
                refine r_iald hx hb hK hP kb40 hn41 dX13_treesAfter_101 ?_
                obtain ⟨hn42, h⟩ := chk_some h
                refine lv_irem hx hb dX13_treesAfter_102 hn42 ?_
                refine lv_if_ne (tgt := 118) hx hb dX13_treesAfter_103 rfl (fun c43 => ?_) (fun c43 => ?_)
                · replace h := ite_f c43 h
                  refine lv_iload_n hx hb dX13_treesAfter_118 rfl (lv_at hl 6 rfl) ?_
                  refine lv_iload hx hb dX13_treesAfter_119 (lv_at hl 1 rfl) ?_
                  refine lv_iadd hx hb dX13_treesAfter_121 ?_
                  refine lv_iload hx hb dX13_treesAfter_122 (lv_at hl 0 rfl) ?_
                  refine lv_isub hx hb dX13_treesAfter_124 ?_
                  refine lv_istore (lv' := [(8, .int ((x2 + ((((x2 * (gI M b7 28)) / 100) * (100 - (gI M b5 (ix x1)))) / 100)) - ((x2 * 2) / 100))), (7, .int ((x2 * 2) / 100)), (6, .int ((((x2 * (gI M b7 28)) / 100) * (100 - (gI M b5 (ix x1)))) / 100)), (5, .int (gI M b5 (ix x1))), (4, .int (gI M b2 (ix x1))), (0, .ref (ad a0)), (1, .int x1), (2, .int x2), (3, .int x3)]) hx hb dX13_treesAfter_125 hl (by decide) rfl (fun ls hl => ?_)
                  refine lv_iload hx hb dX13_treesAfter_127 (lv_at hl 0 rfl) ?_
                  refine lv_if_ge (tgt := 136) hx hb dX13_treesAfter_129 rfl (fun c44 => ?_) (fun c44 => ?_)
                  · replace h := ite_t c44 h
                    refine lv_iload hx hb dX13_treesAfter_136 (lv_at hl 0 rfl) ?_
                    refine lv_sipush (v := 9999) hx hb dX13_treesAfter_138 rfl ?_
                    refine lv_icmp_le (tgt := 150) hx hb dX13_treesAfter_141 rfl (fun c45 => ?_) (fun c45 => ?_)
                    · replace h := ite_t c45 h
                      refine lv_iload hx hb dX13_treesAfter_150 (lv_at hl 0 rfl) ?_
                      exact r_iret hx hb hr hlocks hP hK hD hT hG hS (Option.some.inj h) rfl dX13_treesAfter_152
                    · replace h := ite_f c45 h
                      refine lv_sipush (v := 9999) hx hb dX13_treesAfter_144 rfl ?_
                      refine lv_goto (tgt := 152) hx hb dX13_treesAfter_147 rfl ?_
                      exact r_iret hx hb hr hlocks hP hK hD hT hG hS (Option.some.inj h) rfl dX13_treesAfter_152
                  · replace h := ite_f c44 h
                    refine lv_iconst (v := 0) hx hb dX13_treesAfter_132 rfl ?_
                    refine lv_goto (tgt := 152) hx hb dX13_treesAfter_133 rfl ?_
                    exact r_iret hx hb hr hlocks hP hK hD hT hG hS (Option.some.inj h) rfl dX13_treesAfter_152
                · replace h := ite_t c43 h
                  refine lv_iload hx hb dX13_treesAfter_106 (lv_at hl 0 rfl) ?_
                  refine lv_iload_n hx hb dX13_treesAfter_108 rfl (lv_at hl 6 rfl) ?_
                  refine lv_iload hx hb dX13_treesAfter_109 (lv_at hl 2 rfl) ?_
                  refine lv_imul hx hb dX13_treesAfter_111 ?_
                  refine lv_bipush (v := 100) hx hb dX13_treesAfter_112 rfl ?_
                  refine lv_idiv hx hb dX13_treesAfter_114 (by decide) ?_
                  refine lv_iadd hx hb dX13_treesAfter_115 ?_
                  refine lv_istore (lv' := [(7, .int (((x2 * 2) / 100) + ((x2 * (gI M b5 (ix x1))) / 100))), (6, .int ((((x2 * (gI M b7 28)) / 100) * (100 - (gI M b5 (ix x1)))) / 100)), (5, .int (gI M b5 (ix x1))), (4, .int (gI M b2 (ix x1))), (0, .ref (ad a0)), (1, .int x1), (2, .int x2), (3, .int x3)]) hx hb dX13_treesAfter_116 hl (by decide) rfl (fun ls hl => ?_)
                  refine lv_iload_n hx hb dX13_treesAfter_118 rfl (lv_at hl 6 rfl) ?_
                  refine lv_iload hx hb dX13_treesAfter_119 (lv_at hl 1 rfl) ?_
                  refine lv_iadd hx hb dX13_treesAfter_121 ?_
                  refine lv_iload hx hb dX13_treesAfter_122 (lv_at hl 0 rfl) ?_
                  refine lv_isub hx hb dX13_treesAfter_124 ?_
                  refine lv_istore (lv' := [(8, .int ((x2 + ((((x2 * (gI M b7 28)) / 100) * (100 - (gI M b5 (ix x1)))) / 100)) - (((x2 * 2) / 100) + ((x2 * (gI M b5 (ix x1))) / 100)))), (7, .int (((x2 * 2) / 100) + ((x2 * (gI M b5 (ix x1))) / 100))), (6, .int ((((x2 * (gI M b7 28)) / 100) * (100 - (gI M b5 (ix x1)))) / 100)), (5, .int (gI M b5 (ix x1))), (4, .int (gI M b2 (ix x1))), (0, .ref (ad a0)), (1, .int x1), (2, .int x2), (3, .int x3)]) hx hb dX13_treesAfter_125 hl (by decide) rfl (fun ls hl => ?_)
                  refine lv_iload hx hb dX13_treesAfter_127 (lv_at hl 0 rfl) ?_
                  refine lv_if_ge (tgt := 136) hx hb dX13_treesAfter_129 rfl (fun c46 => ?_) (fun c46 => ?_)
                  · replace h := ite_t c46 h
                    refine lv_iload hx hb dX13_treesAfter_136 (lv_at hl 0 rfl) ?_
                    refine lv_sipush (v := 9999) hx hb dX13_treesAfter_138 rfl ?_
                    refine lv_icmp_le (tgt := 150) hx hb dX13_treesAfter_141 rfl (fun c47 => ?_) (fun c47 => ?_)
                    · replace h := ite_t c47 h
                      refine lv_iload hx hb dX13_treesAfter_150 (lv_at hl 0 rfl) ?_
                      exact r_iret hx hb hr hlocks hP hK hD hT hG hS (Option.some.inj h) rfl dX13_treesAfter_152
                    · replace h := ite_f c47 h
                      refine lv_sipush (v := 9999) hx hb dX13_treesAfter_144 rfl ?_
                      refine lv_goto (tgt := 152) hx hb dX13_treesAfter_147 rfl ?_
                      exact r_iret hx hb hr hlocks hP hK hD hT hG hS (Option.some.inj h) rfl dX13_treesAfter_152
                  · replace h := ite_f c46 h
                    refine lv_iconst (v := 0) hx hb dX13_treesAfter_132 rfl ?_
                    refine lv_goto (tgt := 152) hx hb dX13_treesAfter_133 rfl ?_
                    exact r_iret hx hb hr hlocks hP hK hD hT hG hS (Option.some.inj h) rfl dX13_treesAfter_152
          · replace h := ite_t c35 h
            refine lv_iload hx hb dX13_treesAfter_68 (lv_at hl 0 rfl) ?_
            refine lv_iload hx hb dX13_treesAfter_70 (lv_at hl 2 rfl) ?_
            refine lv_aload_n hx hb dX13_treesAfter_72 rfl (lv_at hl 4 rfl) ?_
            rcases hN48 : gR M a0 3 with _ | b48
            · replace h := oc_n hN48 h
              refine r_get (T := TX13) (v := .null) hx hb hts in13 hown hK hP k0 (by decide) rfl 3 (by decide) (hts (.fieldLink RX13 431 "StoneWalkModel" "island" "LStoneWalkModel$Island;") (List.mem_of_getElem? (i := 1) (by decide +kernel))) rfl (t := 2) rfl (by show va_rf _ = _; rw [hN48]; rfl) dX13_treesAfter_73 ?_
              exact absurd h (by simp)
            · replace h := oc_s hN48 h
              have kb48 := hT.f k0 (k := 3) (t := 12) (n := 0) rfl hN48
              refine r_get (T := TX13) (v := .ref (ad b48)) hx hb hts in13 hown hK hP k0 (by decide) rfl 3 (by decide) (hts (.fieldLink RX13 431 "StoneWalkModel" "island" "LStoneWalkModel$Island;") (List.mem_of_getElem? (i := 1) (by decide +kernel))) rfl (t := 2) rfl (by show va_rf _ = _; rw [hN48]; rfl) dX13_treesAfter_73 ?_
              refine r_getN (T := TX12) (v := .int (gI M b48 29)) hx hb hts in12 hown hK hP kb48 (by decide) rfl 29 (by decide) (hG.2.2.1 ("StoneWalkModel", 351, "StoneWalkModel$Island", "people", "I", "StoneWalkModel") (List.mem_of_getElem? (i := 30) rfl)) rfl (t := 0) rfl rfl dX13_treesAfter_76 ?_
              refine lv_imul hx hb dX13_treesAfter_79 ?_
              refine lv_bipush (v := 100) hx hb dX13_treesAfter_80 rfl ?_
              refine lv_idiv hx hb dX13_treesAfter_82 (by decide) ?_
              refine lv_iadd hx hb dX13_treesAfter_83 ?_
              refine lv_istore (lv' := [(7, .int (((x2 * 2) / 100) + (((gI M b5 (ix x1)) * (gI M b48 29)) / 100))), (6, .int ((((x2 * (gI M b7 28)) / 100) * (100 - (gI M b5 (ix x1)))) / 100)), (5, .int (gI M b5 (ix x1))), (4, .int (gI M b2 (ix x1))), (0, .ref (ad a0)), (1, .int x1), (2, .int x2), (3, .int x3)]) hx hb dX13_treesAfter_84 hl (by decide) rfl (fun ls hl => ?_)
              refine lv_iload hx hb dX13_treesAfter_86 (lv_at hl 3 rfl) ?_
              refine lv_iconst (v := 2) hx hb dX13_treesAfter_88 rfl ?_
              refine lv_icmp_ne (tgt := 118) hx hb dX13_treesAfter_89 rfl (fun c49 => ?_) (fun c49 => ?_)
              · replace h := ite_f c49 h
                refine lv_iload_n hx hb dX13_treesAfter_118 rfl (lv_at hl 6 rfl) ?_
                refine lv_iload hx hb dX13_treesAfter_119 (lv_at hl 1 rfl) ?_
                refine lv_iadd hx hb dX13_treesAfter_121 ?_
                refine lv_iload hx hb dX13_treesAfter_122 (lv_at hl 0 rfl) ?_
                refine lv_isub hx hb dX13_treesAfter_124 ?_
                refine lv_istore (lv' := [(8, .int ((x2 + ((((x2 * (gI M b7 28)) / 100) * (100 - (gI M b5 (ix x1)))) / 100)) - (((x2 * 2) / 100) + (((gI M b5 (ix x1)) * (gI M b48 29)) / 100)))), (7, .int (((x2 * 2) / 100) + (((gI M b5 (ix x1)) * (gI M b48 29)) / 100))), (6, .int ((((x2 * (gI M b7 28)) / 100) * (100 - (gI M b5 (ix x1)))) / 100)), (5, .int (gI M b5 (ix x1))), (4, .int (gI M b2 (ix x1))), (0, .ref (ad a0)), (1, .int x1), (2, .int x2), (3, .int x3)]) hx hb dX13_treesAfter_125 hl (by decide) rfl (fun ls hl => ?_)
                refine lv_iload hx hb dX13_treesAfter_127 (lv_at hl 0 rfl) ?_
                refine lv_if_ge (tgt := 136) hx hb dX13_treesAfter_129 rfl (fun c50 => ?_) (fun c50 => ?_)
                · replace h := ite_t c50 h
                  refine lv_iload hx hb dX13_treesAfter_136 (lv_at hl 0 rfl) ?_
                  refine lv_sipush (v := 9999) hx hb dX13_treesAfter_138 rfl ?_
                  refine lv_icmp_le (tgt := 150) hx hb dX13_treesAfter_141 rfl (fun c51 => ?_) (fun c51 => ?_)
                  · replace h := ite_t c51 h
                    refine lv_iload hx hb dX13_treesAfter_150 (lv_at hl 0 rfl) ?_
                    exact r_iret hx hb hr hlocks hP hK hD hT hG hS (Option.some.inj h) rfl dX13_treesAfter_152
                  · replace h := ite_f c51 h
                    refine lv_sipush (v := 9999) hx hb dX13_treesAfter_144 rfl ?_
                    refine lv_goto (tgt := 152) hx hb dX13_treesAfter_147 rfl ?_
                    exact r_iret hx hb hr hlocks hP hK hD hT hG hS (Option.some.inj h) rfl dX13_treesAfter_152
                · replace h := ite_f c50 h
                  refine lv_iconst (v := 0) hx hb dX13_treesAfter_132 rfl ?_
                  refine lv_goto (tgt := 152) hx hb dX13_treesAfter_133 rfl ?_
                  exact r_iret hx hb hr hlocks hP hK hD hT hG hS (Option.some.inj h) rfl dX13_treesAfter_152
              · replace h := ite_t c49 h
                refine lv_iload_n hx hb dX13_treesAfter_92 rfl (lv_at hl 7 rfl) ?_
                refine lv_aload_n hx hb dX13_treesAfter_93 rfl (lv_at hl 4 rfl) ?_
                rcases hN52 : gR M a0 3 with _ | b52
                · replace h := oc_n hN52 h
                  refine r_get (T := TX13) (v := .null) hx hb hts in13 hown hK hP k0 (by decide) rfl 3 (by decide) (hts (.fieldLink RX13 431 "StoneWalkModel" "island" "LStoneWalkModel$Island;") (List.mem_of_getElem? (i := 1) (by decide +kernel))) rfl (t := 2) rfl (by show va_rf _ = _; rw [hN52]; rfl) dX13_treesAfter_94 ?_
                  exact absurd h (by simp)
                · replace h := oc_s hN52 h
                  have kb52 := hT.f k0 (k := 3) (t := 12) (n := 0) rfl hN52
                  refine r_get (T := TX13) (v := .ref (ad b52)) hx hb hts in13 hown hK hP k0 (by decide) rfl 3 (by decide) (hts (.fieldLink RX13 431 "StoneWalkModel" "island" "LStoneWalkModel$Island;") (List.mem_of_getElem? (i := 1) (by decide +kernel))) rfl (t := 2) rfl (by show va_rf _ = _; rw [hN52]; rfl) dX13_treesAfter_94 ?_
                  rcases hN53 : gR M b52 38 with _ | b53
                  · exact absurd (oc_n hN53 h) (by simp)
                  replace h := oc_s hN53 h
                  have kb53 := hT.f kb52 (k := 38) (t := 15) (n := 5) rfl hN53
                  refine r_getN (T := TX12) (v := .ref (ad b53)) hx hb hts in12 hown hK hP kb52 (by decide) rfl 38 (by decide) (hG.2.2.1 ("StoneWalkModel", 391, "StoneWalkModel$Island", "every", "[I", "StoneWalkModel") (List.mem_of_getElem? (i := 40) rfl)) rfl (t := 2) rfl (by show va_rf _ = _; rw [hN53]; rfl) dX13_treesAfter_97 ?_
                  refine lv_iload_n hx hb dX13_treesAfter_100 rfl (lv_at hl 5 rfl) ?_
                  obtain ⟨hn54, h⟩ := chk_some h
                  refine r_iald hx hb hK hP kb53 hn54 dX13_treesAfter_101 ?_
                  obtain ⟨hn55, h⟩ := chk_some h
                  refine lv_irem hx hb dX13_treesAfter_102 hn55 ?_
                  refine lv_if_ne (tgt := 118) hx hb dX13_treesAfter_103 rfl (fun c56 => ?_) (fun c56 => ?_)
                  · replace h := ite_f c56 h
                    refine lv_iload_n hx hb dX13_treesAfter_118 rfl (lv_at hl 6 rfl) ?_
                    refine lv_iload hx hb dX13_treesAfter_119 (lv_at hl 1 rfl) ?_
                    refine lv_iadd hx hb dX13_treesAfter_121 ?_
                    refine lv_iload hx hb dX13_treesAfter_122 (lv_at hl 0 rfl) ?_
                    refine lv_isub hx hb dX13_treesAfter_124 ?_
                    refine lv_istore (lv' := [(8, .int ((x2 + ((((x2 * (gI M b7 28)) / 100) * (100 - (gI M b5 (ix x1)))) / 100)) - (((x2 * 2) / 100) + (((gI M b5 (ix x1)) * (gI M b48 29)) / 100)))), (7, .int (((x2 * 2) / 100) + (((gI M b5 (ix x1)) * (gI M b48 29)) / 100))), (6, .int ((((x2 * (gI M b7 28)) / 100) * (100 - (gI M b5 (ix x1)))) / 100)), (5, .int (gI M b5 (ix x1))), (4, .int (gI M b2 (ix x1))), (0, .ref (ad a0)), (1, .int x1), (2, .int x2), (3, .int x3)]) hx hb dX13_treesAfter_125 hl (by decide) rfl (fun ls hl => ?_)
                    refine lv_iload hx hb dX13_treesAfter_127 (lv_at hl 0 rfl) ?_
                    refine lv_if_ge (tgt := 136) hx hb dX13_treesAfter_129 rfl (fun c57 => ?_) (fun c57 => ?_)
                    · replace h := ite_t c57 h
                      refine lv_iload hx hb dX13_treesAfter_136 (lv_at hl 0 rfl) ?_
                      refine lv_sipush (v := 9999) hx hb dX13_treesAfter_138 rfl ?_
                      refine lv_icmp_le (tgt := 150) hx hb dX13_treesAfter_141 rfl (fun c58 => ?_) (fun c58 => ?_)
                      · replace h := ite_t c58 h
                        refine lv_iload hx hb dX13_treesAfter_150 (lv_at hl 0 rfl) ?_
                        exact r_iret hx hb hr hlocks hP hK hD hT hG hS (Option.some.inj h) rfl dX13_treesAfter_152
                      · replace h := ite_f c58 h
                        refine lv_sipush (v := 9999) hx hb dX13_treesAfter_144 rfl ?_
                        refine lv_goto (tgt := 152) hx hb dX13_treesAfter_147 rfl ?_
                        exact r_iret hx hb hr hlocks hP hK hD hT hG hS (Option.some.inj h) rfl dX13_treesAfter_152
                    · replace h := ite_f c57 h
                      refine lv_iconst (v := 0) hx hb dX13_treesAfter_132 rfl ?_
                      refine lv_goto (tgt := 152) hx hb dX13_treesAfter_133 rfl ?_
                      exact r_iret hx hb hr hlocks hP hK hD hT hG hS (Option.some.inj h) rfl dX13_treesAfter_152
                  · replace h := ite_t c56 h
                    refine lv_iload hx hb dX13_treesAfter_106 (lv_at hl 0 rfl) ?_
                    refine lv_iload_n hx hb dX13_treesAfter_108 rfl (lv_at hl 6 rfl) ?_
                    refine lv_iload hx hb dX13_treesAfter_109 (lv_at hl 2 rfl) ?_
                    refine lv_imul hx hb dX13_treesAfter_111 ?_
                    refine lv_bipush (v := 100) hx hb dX13_treesAfter_112 rfl ?_
                    refine lv_idiv hx hb dX13_treesAfter_114 (by decide) ?_
                    refine lv_iadd hx hb dX13_treesAfter_115 ?_
                    refine lv_istore (lv' := [(7, .int ((((x2 * 2) / 100) + (((gI M b5 (ix x1)) * (gI M b48 29)) / 100)) + ((x2 * (gI M b5 (ix x1))) / 100))), (6, .int ((((x2 * (gI M b7 28)) / 100) * (100 - (gI M b5 (ix x1)))) / 100)), (5, .int (gI M b5 (ix x1))), (4, .int (gI M b2 (ix x1))), (0, .ref (ad a0)), (1, .int x1), (2, .int x2), (3, .int x3)]) hx hb dX13_treesAfter_116 hl (by decide) rfl (fun ls hl => ?_)
                    refine lv_iload_n hx hb dX13_treesAfter_118 rfl (lv_at hl 6 rfl) ?_
                    refine lv_iload hx hb dX13_treesAfter_119 (lv_at hl 1 rfl) ?_
                    refine lv_iadd hx hb dX13_treesAfter_121 ?_
                    refine lv_iload hx hb dX13_treesAfter_122 (lv_at hl 0 rfl) ?_
                    refine lv_isub hx hb dX13_treesAfter_124 ?_
                    refine lv_istore (lv' := [(8, .int ((x2 + ((((x2 * (gI M b7 28)) / 100) * (100 - (gI M b5 (ix x1)))) / 100)) - ((((x2 * 2) / 100) + (((gI M b5 (ix x1)) * (gI M b48 29)) / 100)) + ((x2 * (gI M b5 (ix x1))) / 100)))), (7, .int ((((x2 * 2) / 100) + (((gI M b5 (ix x1)) * (gI M b48 29)) / 100)) + ((x2 * (gI M b5 (ix x1))) / 100))), (6, .int ((((x2 * (gI M b7 28)) / 100) * (100 - (gI M b5 (ix x1)))) / 100)), (5, .int (gI M b5 (ix x1))), (4, .int (gI M b2 (ix x1))), (0, .ref (ad a0)), (1, .int x1), (2, .int x2), (3, .int x3)]) hx hb dX13_treesAfter_125 hl (by decide) rfl (fun ls hl => ?_)
                    refine lv_iload hx hb dX13_treesAfter_127 (lv_at hl 0 rfl) ?_
                    refine lv_if_ge (tgt := 136) hx hb dX13_treesAfter_129 rfl (fun c59 => ?_) (fun c59 => ?_)
                    · replace h := ite_t c59 h
                      refine lv_iload hx hb dX13_treesAfter_136 (lv_at hl 0 rfl) ?_
                      refine lv_sipush (v := 9999) hx hb dX13_treesAfter_138 rfl ?_
                      refine lv_icmp_le (tgt := 150) hx hb dX13_treesAfter_141 rfl (fun c60 => ?_) (fun c60 => ?_)
                      · replace h := ite_t c60 h
                        refine lv_iload hx hb dX13_treesAfter_150 (lv_at hl 0 rfl) ?_
                        exact r_iret hx hb hr hlocks hP hK hD hT hG hS (Option.some.inj h) rfl dX13_treesAfter_152
                      · replace h := ite_f c60 h
                        refine lv_sipush (v := 9999) hx hb dX13_treesAfter_144 rfl ?_
                        refine lv_goto (tgt := 152) hx hb dX13_treesAfter_147 rfl ?_
                        exact r_iret hx hb hr hlocks hP hK hD hT hG hS (Option.some.inj h) rfl dX13_treesAfter_152
                    · replace h := ite_f c59 h
                      refine lv_iconst (v := 0) hx hb dX13_treesAfter_132 rfl ?_
                      refine lv_goto (tgt := 152) hx hb dX13_treesAfter_133 rfl ?_
                      exact r_iret hx hb hr hlocks hP hK hD hT hG hS (Option.some.inj h) rfl dX13_treesAfter_152
