set_option maxHeartbeats 4000000 in
set_option maxRecDepth 100000 in
theorem c_X13_needBy {l : Launch} {D : va_G} {ad : Nat → Nat} {cy : Nat → ClassId} {A : Nat → Prop} {g : CG} {q : SE} (M : MM) (a0 : Nat) (x1 : Int32) (x2 : Int32) (x3 : Int32) (k0 : ok g a0 13 0) {Z : Int32} (h : f_X13_needBy M a0 x1 x2 x3 = some Z) : Met l yX13_needBy wsX13_needBy ({ frames := 1, cells := 0, slots := 0, locals := 21 }) (va_Pc [.ref (ad a0), .int x1, .int x2, .int x3] (Wd D ad cy A g q M)) (va_Qi (fun r u => r = Z ∧ u = M) (Wd D ad cy A g q) A) 0 0 A := by
  refine Met.ofW (cc := cX13_needBy) (maxL := 6) (ret := (some .int)) (by decide) rfl ?_
  intro p e s m args below meth c s₁ B hml hv
  obtain ⟨rfl, hP, hK, hD, hT, hG⟩ := hv
  have hx := B.exec
  have hb := B.bytes
  have hr := B.returns
  have hts := atoms_spec (ws := wsX13_needBy) B.pre
  have hown : s.vm.findClass RX13 = some m.cls := findClass_of_methodNamed B.named
  have hlocks := B.notSynchronized
  have in12 : ∀ w ∈ u_ws RX12 TX12 48, w ∈ wsX13_needBy := fun w h => List.mem_cons_of_mem _ (List.mem_append_right _ h)
  have in13 : ∀ w ∈ u_ws RX13 TX13 29, w ∈ wsX13_needBy := fun w h => List.mem_cons_of_mem _ (List.mem_append_left _ (List.mem_append_right _ h))
  have hS : va_S A s.heap s.heap [] := va_S.rf
  have hl := lv_entry ([.ref (ad a0), .int x1, .int x2, .int x3]) (n := 6) (Nat.le_of_ble_eq_true rfl)
  rw [lg_entry_eq]
  generalize (lg_sl ([.ref (ad a0), .int x1, .int x2, .int x3]) ++ List.replicate (6 - (lg_sl ([.ref (ad a0), .int x1, .int x2, .int x3])).length) Slot.unset).toArray = ls at hl ⊢
  have hl : lv_has ls 6 [(0, .ref (ad a0)), (1, .int x1), (2, .int x2), (3, .int x3)] := hl
  unfold f_X13_needBy at h
  refine lv_aload_n hx hb dX13_needBy_0 rfl (lv_at hl 0 rfl) ?_
  rcases hN1 : gR M a0 3 with _ | b1
  · replace h := oc_n hN1 h
    refine r_get (T := TX13) (v := .null) hx hb hts in13 hown hK hP k0 (by decide) rfl 3 (by decide) (hts (.fieldLink RX13 431 "StoneWalkModel" "island" "LStoneWalkModel$Island;") (List.mem_of_getElem? (i := 1) (by decide +kernel))) rfl (t := 2) rfl (by show va_rf _ = _; rw [hN1]; rfl) dX13_needBy_1 ?_
    exact absurd h (by simp)
  · replace h := oc_s hN1 h
    have kb1 := hT.f k0 (k := 3) (t := 12) (n := 0) rfl hN1
    refine r_get (T := TX13) (v := .ref (ad b1)) hx hb hts in13 hown hK hP k0 (by decide) rfl 3 (by decide) (hts (.fieldLink RX13 431 "StoneWalkModel" "island" "LStoneWalkModel$Island;") (List.mem_of_getElem? (i := 1) (by decide +kernel))) rfl (t := 2) rfl (by show va_rf _ = _; rw [hN1]; rfl) dX13_needBy_1 ?_
    rcases hN2 : gR M b1 9 with _ | b2
    · exact absurd (oc_n hN2 h) (by simp)
    replace h := oc_s hN2 h
    have kb2 := hT.f kb1 (k := 9) (t := 15) (n := 4) rfl hN2
    refine r_getN (T := TX12) (v := .ref (ad b2)) hx hb hts in12 hown hK hP kb1 (by decide) rfl 9 (by decide) (hG.2.2.1 ("StoneWalkModel", 247, "StoneWalkModel$Island", "kind", "[I", "StoneWalkModel") (List.mem_of_getElem? (i := 8) rfl)) rfl (t := 2) rfl (by show va_rf _ = _; rw [hN2]; rfl) dX13_needBy_4 ?_
    refine lv_iload_n hx hb dX13_needBy_7 rfl (lv_at hl 1 rfl) ?_
    obtain ⟨hn3, h⟩ := chk_some h
    refine r_iald hx hb hK hP kb2 hn3 dX13_needBy_8 ?_
    refine lv_istore (lv' := [(4, .int (gI M b2 (ix x1))), (0, .ref (ad a0)), (1, .int x1), (2, .int x2), (3, .int x3)]) hx hb dX13_needBy_9 hl (by decide) rfl (fun ls hl => ?_)
    refine lv_iload hx hb dX13_needBy_11 (lv_at hl 0 rfl) ?_
    refine lv_iconst (v := 1) hx hb dX13_needBy_13 rfl ?_
    refine lv_icmp_ne (tgt := 21) hx hb dX13_needBy_14 rfl (fun c4 => ?_) (fun c4 => ?_)
    · replace h := ite_f c4 h
      refine lv_iload hx hb dX13_needBy_21 (lv_at hl 0 rfl) ?_
      refine lv_iconst (v := 3) hx hb dX13_needBy_23 rfl ?_
      refine lv_icmp_ne (tgt := 31) hx hb dX13_needBy_24 rfl (fun c5 => ?_) (fun c5 => ?_)
      · replace h := ite_f c5 h
        refine lv_iconst (v := 1) hx hb dX13_needBy_31 rfl ?_
        refine lv_istore (lv' := [(5, .int 1), (4, .int (gI M b2 (ix x1))), (0, .ref (ad a0)), (1, .int x1), (2, .int x2), (3, .int x3)]) hx hb dX13_needBy_32 hl (by decide) rfl (fun ls hl => ?_)
        refine lv_iload_n hx hb dX13_needBy_34 rfl (lv_at hl 4 rfl) ?_
        refine lv_bipush (v := 10) hx hb dX13_needBy_35 rfl ?_
        refine lv_imul hx hb dX13_needBy_37 ?_
        refine lv_iload hx hb dX13_needBy_38 (lv_at hl 0 rfl) ?_
        refine lv_imul hx hb dX13_needBy_40 ?_
        refine lv_bipush (v := 100) hx hb dX13_needBy_41 rfl ?_
        refine lv_iload_n hx hb dX13_needBy_43 rfl (lv_at hl 5 rfl) ?_
        refine lv_if_le (tgt := 53) hx hb dX13_needBy_44 rfl (fun c6 => ?_) (fun c6 => ?_)
        · replace h := ite_t c6 h
          refine lv_iconst (v := 0) hx hb dX13_needBy_53 rfl ?_
          refine lv_iadd hx hb dX13_needBy_54 ?_
          refine lv_imul hx hb dX13_needBy_55 ?_
          refine lv_bipush (v := 100) hx hb dX13_needBy_56 rfl ?_
          refine lv_aload_n hx hb dX13_needBy_58 rfl (lv_at hl 2 rfl) ?_
          rcases hN7 : gR M a0 3 with _ | b7
          · replace h := oc_n hN7 h
            refine r_get (T := TX13) (v := .null) hx hb hts in13 hown hK hP k0 (by decide) rfl 3 (by decide) (hts (.fieldLink RX13 431 "StoneWalkModel" "island" "LStoneWalkModel$Island;") (List.mem_of_getElem? (i := 1) (by decide +kernel))) rfl (t := 2) rfl (by show va_rf _ = _; rw [hN7]; rfl) dX13_needBy_59 ?_
            exact absurd h (by simp)
          · replace h := oc_s hN7 h
            have kb7 := hT.f k0 (k := 3) (t := 12) (n := 0) rfl hN7
            refine r_get (T := TX13) (v := .ref (ad b7)) hx hb hts in13 hown hK hP k0 (by decide) rfl 3 (by decide) (hts (.fieldLink RX13 431 "StoneWalkModel" "island" "LStoneWalkModel$Island;") (List.mem_of_getElem? (i := 1) (by decide +kernel))) rfl (t := 2) rfl (by show va_rf _ = _; rw [hN7]; rfl) dX13_needBy_59 ?_
            rcases hN8 : gR M b7 11 with _ | b8
            · exact absurd (oc_n hN8 h) (by simp)
            replace h := oc_s hN8 h
            have kb8 := hT.f kb7 (k := 11) (t := 15) (n := 4) rfl hN8
            refine r_getN (T := TX12) (v := .ref (ad b8)) hx hb hts in12 hown hK hP kb7 (by decide) rfl 11 (by decide) (hG.2.2.1 ("StoneWalkModel", 252, "StoneWalkModel$Island", "pull", "[I", "StoneWalkModel") (List.mem_of_getElem? (i := 10) rfl)) rfl (t := 2) rfl (by show va_rf _ = _; rw [hN8]; rfl) dX13_needBy_62 ?_
            refine lv_iload_n hx hb dX13_needBy_65 rfl (lv_at hl 3 rfl) ?_
            obtain ⟨hn9, h⟩ := chk_some h
            refine r_iald hx hb hK hP kb8 hn9 dX13_needBy_66 ?_
            refine lv_imul hx hb dX13_needBy_67 ?_
            obtain ⟨z10, h10, h⟩ := ob_some h
            refine k_i (va_runS (As := [.int (((x2 * 10) * 1) * (100 + 0)), .int (100 * (gI M b8 (ix x1)))]) (rest := []) ⟨hx, hb, hml, hown, hts⟩ (c_X13_up (l := l) M (((x2 * 10) * 1) * (100 + 0)) (100 * (gI M b8 (ix x1))) h10) (va_cwS 2 hts gX13_needBy_X13_up rfl rfl rfl hdS_X13_up ⟨Nat.le_of_ble_eq_true rfl, Nat.le_of_ble_eq_true rfl⟩) (pS hP hK hD hT hG hS) rfl rfl hl.1 rfl (lv_room (Nat.le_of_ble_eq_true rfl)) dX13_needBy_68 ⟨Nat.zero_le _, Nat.zero_le _⟩) hS (fun H locs hP hD hT hS => ?_)
            exact r_iret hx hb hr hlocks hP hK hD hT hG hS (Option.some.inj h) rfl dX13_needBy_71
        · replace h := ite_f c6 h
          refine lv_iconst (v := 5) hx hb dX13_needBy_47 rfl ?_
          refine lv_iload_n hx hb dX13_needBy_48 rfl (lv_at hl 5 rfl) ?_
          refine lv_imul hx hb dX13_needBy_49 ?_
          refine lv_goto (tgt := 54) hx hb dX13_needBy_50 rfl ?_
          refine lv_iadd hx hb dX13_needBy_54 ?_
          refine lv_imul hx hb dX13_needBy_55 ?_
          refine lv_bipush (v := 100) hx hb dX13_needBy_56 rfl ?_
          refine lv_aload_n hx hb dX13_needBy_58 rfl (lv_at hl 2 rfl) ?_
          rcases hN11 : gR M a0 3 with _ | b11
          · replace h := oc_n hN11 h
            refine r_get (T := TX13) (v := .null) hx hb hts in13 hown hK hP k0 (by decide) rfl 3 (by decide) (hts (.fieldLink RX13 431 "StoneWalkModel" "island" "LStoneWalkModel$Island;") (List.mem_of_getElem? (i := 1) (by decide +kernel))) rfl (t := 2) rfl (by show va_rf _ = _; rw [hN11]; rfl) dX13_needBy_59 ?_
            exact absurd h (by simp)
          · replace h := oc_s hN11 h
            have kb11 := hT.f k0 (k := 3) (t := 12) (n := 0) rfl hN11
            refine r_get (T := TX13) (v := .ref (ad b11)) hx hb hts in13 hown hK hP k0 (by decide) rfl 3 (by decide) (hts (.fieldLink RX13 431 "StoneWalkModel" "island" "LStoneWalkModel$Island;") (List.mem_of_getElem? (i := 1) (by decide +kernel))) rfl (t := 2) rfl (by show va_rf _ = _; rw [hN11]; rfl) dX13_needBy_59 ?_
            rcases hN12 : gR M b11 11 with _ | b12
            · exact absurd (oc_n hN12 h) (by simp)
            replace h := oc_s hN12 h
            have kb12 := hT.f kb11 (k := 11) (t := 15) (n := 4) rfl hN12
            refine r_getN (T := TX12) (v := .ref (ad b12)) hx hb hts in12 hown hK hP kb11 (by decide) rfl 11 (by decide) (hG.2.2.1 ("StoneWalkModel", 252, "StoneWalkModel$Island", "pull", "[I", "StoneWalkModel") (List.mem_of_getElem? (i := 10) rfl)) rfl (t := 2) rfl (by show va_rf _ = _; rw [hN12]; rfl) dX13_needBy_62 ?_
            refine lv_iload_n hx hb dX13_needBy_65 rfl (lv_at hl 3 rfl) ?_
            obtain ⟨hn13, h⟩ := chk_some h
            refine r_iald hx hb hK hP kb12 hn13 dX13_needBy_66 ?_
            refine lv_imul hx hb dX13_needBy_67 ?_
            obtain ⟨z14, h14, h⟩ := ob_some h
            refine k_i (va_runS (As := [.int (((x2 * 10) * 1) * (100 + (5 * x3))), .int (100 * (gI M b12 (ix x1)))]) (rest := []) ⟨hx, hb, hml, hown, hts⟩ (c_X13_up (l := l) M (((x2 * 10) * 1) * (100 + (5 * x3))) (100 * (gI M b12 (ix x1))) h14) (va_cwS 2 hts gX13_needBy_X13_up rfl rfl rfl hdS_X13_up ⟨Nat.le_of_ble_eq_true rfl, Nat.le_of_ble_eq_true rfl⟩) (pS hP hK hD hT hG hS) rfl rfl hl.1 rfl (lv_room (Nat.le_of_ble_eq_true rfl)) dX13_needBy_68 ⟨Nat.zero_le _, Nat.zero_le _⟩) hS (fun H locs hP hD hT hS => ?_)
            exact r_iret hx hb hr hlocks hP hK hD hT hG hS (Option.some.inj h) rfl dX13_needBy_71
      · replace h := ite_t c5 h
        refine lv_iconst (v := 3) hx hb dX13_needBy_27 rfl ?_
        refine lv_goto (tgt := 32) hx hb dX13_needBy_28 rfl ?_
        refine lv_istore (lv' := [(5, .int 3), (4, .int (gI M b2 (ix x1))), (0, .ref (ad a0)), (1, .int x1), (2, .int x2), (3, .int x3)]) hx hb dX13_needBy_32 hl (by decide) rfl (fun ls hl => ?_)
        refine lv_iload_n hx hb dX13_needBy_34 rfl (lv_at hl 4 rfl) ?_
        refine lv_bipush (v := 10) hx hb dX13_needBy_35 rfl ?_
        refine lv_imul hx hb dX13_needBy_37 ?_
        refine lv_iload hx hb dX13_needBy_38 (lv_at hl 0 rfl) ?_
        refine lv_imul hx hb dX13_needBy_40 ?_
        refine lv_bipush (v := 100) hx hb dX13_needBy_41 rfl ?_
        refine lv_iload_n hx hb dX13_needBy_43 rfl (lv_at hl 5 rfl) ?_
        refine lv_if_le (tgt := 53) hx hb dX13_needBy_44 rfl (fun c15 => ?_) (fun c15 => ?_)
        · replace h := ite_t c15 h
          refine lv_iconst (v := 0) hx hb dX13_needBy_53 rfl ?_
          refine lv_iadd hx hb dX13_needBy_54 ?_
          refine lv_imul hx hb dX13_needBy_55 ?_
          refine lv_bipush (v := 100) hx hb dX13_needBy_56 rfl ?_
          refine lv_aload_n hx hb dX13_needBy_58 rfl (lv_at hl 2 rfl) ?_
          rcases hN16 : gR M a0 3 with _ | b16
          · replace h := oc_n hN16 h
            refine r_get (T := TX13) (v := .null) hx hb hts in13 hown hK hP k0 (by decide) rfl 3 (by decide) (hts (.fieldLink RX13 431 "StoneWalkModel" "island" "LStoneWalkModel$Island;") (List.mem_of_getElem? (i := 1) (by decide +kernel))) rfl (t := 2) rfl (by show va_rf _ = _; rw [hN16]; rfl) dX13_needBy_59 ?_
            exact absurd h (by simp)
          · replace h := oc_s hN16 h
            have kb16 := hT.f k0 (k := 3) (t := 12) (n := 0) rfl hN16
            refine r_get (T := TX13) (v := .ref (ad b16)) hx hb hts in13 hown hK hP k0 (by decide) rfl 3 (by decide) (hts (.fieldLink RX13 431 "StoneWalkModel" "island" "LStoneWalkModel$Island;") (List.mem_of_getElem? (i := 1) (by decide +kernel))) rfl (t := 2) rfl (by show va_rf _ = _; rw [hN16]; rfl) dX13_needBy_59 ?_
            rcases hN17 : gR M b16 11 with _ | b17
            · exact absurd (oc_n hN17 h) (by simp)
            replace h := oc_s hN17 h
            have kb17 := hT.f kb16 (k := 11) (t := 15) (n := 4) rfl hN17
            refine r_getN (T := TX12) (v := .ref (ad b17)) hx hb hts in12 hown hK hP kb16 (by decide) rfl 11 (by decide) (hG.2.2.1 ("StoneWalkModel", 252, "StoneWalkModel$Island", "pull", "[I", "StoneWalkModel") (List.mem_of_getElem? (i := 10) rfl)) rfl (t := 2) rfl (by show va_rf _ = _; rw [hN17]; rfl) dX13_needBy_62 ?_
            refine lv_iload_n hx hb dX13_needBy_65 rfl (lv_at hl 3 rfl) ?_
            obtain ⟨hn18, h⟩ := chk_some h
            refine r_iald hx hb hK hP kb17 hn18 dX13_needBy_66 ?_
            refine lv_imul hx hb dX13_needBy_67 ?_
            obtain ⟨z19, h19, h⟩ := ob_some h
            refine k_i (va_runS (As := [.int (((x2 * 10) * 3) * (100 + 0)), .int (100 * (gI M b17 (ix x1)))]) (rest := []) ⟨hx, hb, hml, hown, hts⟩ (c_X13_up (l := l) M (((x2 * 10) * 3) * (100 + 0)) (100 * (gI M b17 (ix x1))) h19) (va_cwS 2 hts gX13_needBy_X13_up rfl rfl rfl hdS_X13_up ⟨Nat.le_of_ble_eq_true rfl, Nat.le_of_ble_eq_true rfl⟩) (pS hP hK hD hT hG hS) rfl rfl hl.1 rfl (lv_room (Nat.le_of_ble_eq_true rfl)) dX13_needBy_68 ⟨Nat.zero_le _, Nat.zero_le _⟩) hS (fun H locs hP hD hT hS => ?_)
            exact r_iret hx hb hr hlocks hP hK hD hT hG hS (Option.some.inj h) rfl dX13_needBy_71
        · replace h := ite_f c15 h
          refine lv_iconst (v := 5) hx hb dX13_needBy_47 rfl ?_
          refine lv_iload_n hx hb dX13_needBy_48 rfl (lv_at hl 5 rfl) ?_
          refine lv_imul hx hb dX13_needBy_49 ?_
          refine lv_goto (tgt := 54) hx hb dX13_needBy_50 rfl ?_
          refine lv_iadd hx hb dX13_needBy_54 ?_
          refine lv_imul hx hb dX13_needBy_55 ?_
          refine lv_bipush (v := 100) hx hb dX13_needBy_56 rfl ?_
          refine lv_aload_n hx hb dX13_needBy_58 rfl (lv_at hl 2 rfl) ?_
          rcases hN20 : gR M a0 3 with _ | b20
          · replace h := oc_n hN20 h
            refine r_get (T := TX13) (v := .null) hx hb hts in13 hown hK hP k0 (by decide) rfl 3 (by decide) (hts (.fieldLink RX13 431 "StoneWalkModel" "island" "LStoneWalkModel$Island;") (List.mem_of_getElem? (i := 1) (by decide +kernel))) rfl (t := 2) rfl (by show va_rf _ = _; rw [hN20]; rfl) dX13_needBy_59 ?_
            exact absurd h (by simp)
          · replace h := oc_s hN20 h
            have kb20 := hT.f k0 (k := 3) (t := 12) (n := 0) rfl hN20
            refine r_get (T := TX13) (v := .ref (ad b20)) hx hb hts in13 hown hK hP k0 (by decide) rfl 3 (by decide) (hts (.fieldLink RX13 431 "StoneWalkModel" "island" "LStoneWalkModel$Island;") (List.mem_of_getElem? (i := 1) (by decide +kernel))) rfl (t := 2) rfl (by show va_rf _ = _; rw [hN20]; rfl) dX13_needBy_59 ?_
            rcases hN21 : gR M b20 11 with _ | b21
            · exact absurd (oc_n hN21 h) (by simp)
            replace h := oc_s hN21 h
            have kb21 := hT.f kb20 (k := 11) (t := 15) (n := 4) rfl hN21
            refine r_getN (T := TX12) (v := .ref (ad b21)) hx hb hts in12 hown hK hP kb20 (by decide) rfl 11 (by decide) (hG.2.2.1 ("StoneWalkModel", 252, "StoneWalkModel$Island", "pull", "[I", "StoneWalkModel") (List.mem_of_getElem? (i := 10) rfl)) rfl (t := 2) rfl (by show va_rf _ = _; rw [hN21]; rfl) dX13_needBy_62 ?_
            refine lv_iload_n hx hb dX13_needBy_65 rfl (lv_at hl 3 rfl) ?_
            obtain ⟨hn22, h⟩ := chk_some h
            refine r_iald hx hb hK hP kb21 hn22 dX13_needBy_66 ?_
            refine lv_imul hx hb dX13_needBy_67 ?_
            obtain ⟨z23, h23, h⟩ := ob_some h
            refine k_i (va_runS (As := [.int (((x2 * 10) * 3) * (100 + (5 * x3))), .int (100 * (gI M b21 (ix x1)))]) (rest := []) ⟨hx, hb, hml, hown, hts⟩ (c_X13_up (l := l) M (((x2 * 10) * 3) * (100 + (5 * x3))) (100 * (gI M b21 (ix x1))) h23) (va_cwS 2 hts gX13_needBy_X13_up rfl rfl rfl hdS_X13_up ⟨Nat.le_of_ble_eq_true rfl, Nat.le_of_ble_eq_true rfl⟩) (pS hP hK hD hT hG hS) rfl rfl hl.1 rfl (lv_room (Nat.le_of_ble_eq_true rfl)) dX13_needBy_68 ⟨Nat.zero_le _, Nat.zero_le _⟩) hS (fun H locs hP hD hT hS => ?_)
            exact r_iret hx hb hr hlocks hP hK hD hT hG hS (Option.some.inj h) rfl dX13_needBy_71
    · replace h := ite_t c4 h
      refine lv_iconst (v := 2) hx hb dX13_needBy_17 rfl ?_
      refine lv_goto (tgt := 32) hx hb dX13_needBy_18 rfl ?_
      refine lv_istore (lv' := [(5, .int 2), (4, .int (gI M b2 (ix x1))), (0, .ref (ad a0)), (1, .int x1), (2, .int x2), (3, .int x3)]) hx hb dX13_needBy_32 hl (by decide) rfl (fun ls hl => ?_)
      refine lv_iload_n hx hb dX13_needBy_34 rfl (lv_at hl 4 rfl) ?_
      refine lv_bipush (v := 10) hx hb dX13_needBy_35 rfl ?_
      refine lv_imul hx hb dX13_needBy_37 ?_
      refine lv_iload hx hb dX13_needBy_38 (lv_at hl 0 rfl) ?_
      refine lv_imul hx hb dX13_needBy_40 ?_
      refine lv_bipush (v := 100) hx hb dX13_needBy_41 rfl ?_
      refine lv_iload_n hx hb dX13_needBy_43 rfl (lv_at hl 5 rfl) ?_
      refine lv_if_le (tgt := 53) hx hb dX13_needBy_44 rfl (fun c24 => ?_) (fun c24 => ?_)
      · replace h := ite_t c24 h
        refine lv_iconst (v := 0) hx hb dX13_needBy_53 rfl ?_
        refine lv_iadd hx hb dX13_needBy_54 ?_
        refine lv_imul hx hb dX13_needBy_55 ?_
        refine lv_bipush (v := 100) hx hb dX13_needBy_56 rfl ?_
        refine lv_aload_n hx hb dX13_needBy_58 rfl (lv_at hl 2 rfl) ?_
        rcases hN25 : gR M a0 3 with _ | b25
        · replace h := oc_n hN25 h
          refine r_get (T := TX13) (v := .null) hx hb hts in13 hown hK hP k0 (by decide) rfl 3 (by decide) (hts (.fieldLink RX13 431 "StoneWalkModel" "island" "LStoneWalkModel$Island;") (List.mem_of_getElem? (i := 1) (by decide +kernel))) rfl (t := 2) rfl (by show va_rf _ = _; rw [hN25]; rfl) dX13_needBy_59 ?_
          exact absurd h (by simp)
        · replace h := oc_s hN25 h
          have kb25 := hT.f k0 (k := 3) (t := 12) (n := 0) rfl hN25
          refine r_get (T := TX13) (v := .ref (ad b25)) hx hb hts in13 hown hK hP k0 (by decide) rfl 3 (by decide) (hts (.fieldLink RX13 431 "StoneWalkModel" "island" "LStoneWalkModel$Island;") (List.mem_of_getElem? (i := 1) (by decide +kernel))) rfl (t := 2) rfl (by show va_rf _ = _; rw [hN25]; rfl) dX13_needBy_59 ?_
          rcases hN26 : gR M b25 11 with _ | b26
          · exact absurd (oc_n hN26 h) (by simp)
          replace h := oc_s hN26 h
          have kb26 := hT.f kb25 (k := 11) (t := 15) (n := 4) rfl hN26
          refine r_getN (T := TX12) (v := .ref (ad b26)) hx hb hts in12 hown hK hP kb25 (by decide) rfl 11 (by decide) (hG.2.2.1 ("StoneWalkModel", 252, "StoneWalkModel$Island", "pull", "[I", "StoneWalkModel") (List.mem_of_getElem? (i := 10) rfl)) rfl (t := 2) rfl (by show va_rf _ = _; rw [hN26]; rfl) dX13_needBy_62 ?_
          refine lv_iload_n hx hb dX13_needBy_65 rfl (lv_at hl 3 rfl) ?_
          obtain ⟨hn27, h⟩ := chk_some h
          refine r_iald hx hb hK hP kb26 hn27 dX13_needBy_66 ?_
          refine lv_imul hx hb dX13_needBy_67 ?_
          obtain ⟨z28, h28, h⟩ := ob_some h
          refine k_i (va_runS (As := [.int (((x2 * 10) * 2) * (100 + 0)), .int (100 * (gI M b26 (ix x1)))]) (rest := []) ⟨hx, hb, hml, hown, hts⟩ (c_X13_up (l := l) M (((x2 * 10) * 2) * (100 + 0)) (100 * (gI M b26 (ix x1))) h28) (va_cwS 2 hts gX13_needBy_X13_up rfl rfl rfl hdS_X13_up ⟨Nat.le_of_ble_eq_true rfl, Nat.le_of_ble_eq_true rfl⟩) (pS hP hK hD hT hG hS) rfl rfl hl.1 rfl (lv_room (Nat.le_of_ble_eq_true rfl)) dX13_needBy_68 ⟨Nat.zero_le _, Nat.zero_le _⟩) hS (fun H locs hP hD hT hS => ?_)
          exact r_iret hx hb hr hlocks hP hK hD hT hG hS (Option.some.inj h) rfl dX13_needBy_71
      · replace h := ite_f c24 h
        refine lv_iconst (v := 5) hx hb dX13_needBy_47 rfl ?_
        refine lv_iload_n hx hb dX13_needBy_48 rfl (lv_at hl 5 rfl) ?_
        refine lv_imul hx hb dX13_needBy_49 ?_
        refine lv_goto (tgt := 54) hx hb dX13_needBy_50 rfl ?_
        refine lv_iadd hx hb dX13_needBy_54 ?_
        refine lv_imul hx hb dX13_needBy_55 ?_
        refine lv_bipush (v := 100) hx hb dX13_needBy_56 rfl ?_
        refine lv_aload_n hx hb dX13_needBy_58 rfl (lv_at hl 2 rfl) ?_
        rcases hN29 : gR M a0 3 with _ | b29
        · replace h := oc_n hN29 h
          refine r_get (T := TX13) (v := .null) hx hb hts in13 hown hK hP k0 (by decide) rfl 3 (by decide) (hts (.fieldLink RX13 431 "StoneWalkModel" "island" "LStoneWalkModel$Island;") (List.mem_of_getElem? (i := 1) (by decide +kernel))) rfl (t := 2) rfl (by show va_rf _ = _; rw [hN29]; rfl) dX13_needBy_59 ?_
          exact absurd h (by simp)
        · replace h := oc_s hN29 h
          have kb29 := hT.f k0 (k := 3) (t := 12) (n := 0) rfl hN29
          refine r_get (T := TX13) (v := .ref (ad b29)) hx hb hts in13 hown hK hP k0 (by decide) rfl 3 (by decide) (hts (.fieldLink RX13 431 "StoneWalkModel" "island" "LStoneWalkModel$Island;") (List.mem_of_getElem? (i := 1) (by decide +kernel))) rfl (t := 2) rfl (by show va_rf _ = _; rw [hN29]; rfl) dX13_needBy_59 ?_
          rcases hN30 : gR M b29 11 with _ | b30
          · exact absurd (oc_n hN30 h) (by simp)
          replace h := oc_s hN30 h
          have kb30 := hT.f kb29 (k := 11) (t := 15) (n := 4) rfl hN30
          refine r_getN (T := TX12) (v := .ref (ad b30)) hx hb hts in12 hown hK hP kb29 (by decide) rfl 11 (by decide) (hG.2.2.1 ("StoneWalkModel", 252, "StoneWalkModel$Island", "pull", "[I", "StoneWalkModel") (List.mem_of_getElem? (i := 10) rfl)) rfl (t := 2) rfl (by show va_rf _ = _; rw [hN30]; rfl) dX13_needBy_62 ?_
          refine lv_iload_n hx hb dX13_needBy_65 rfl (lv_at hl 3 rfl) ?_
          obtain ⟨hn31, h⟩ := chk_some h
          refine r_iald hx hb hK hP kb30 hn31 dX13_needBy_66 ?_
          refine lv_imul hx hb dX13_needBy_67 ?_
          obtain ⟨z32, h32, h⟩ := ob_some h
          refine k_i (va_runS (As := [.int (((x2 * 10) * 2) * (100 + (5 * x3))), .int (100 * (gI M b30 (ix x1)))]) (rest := []) ⟨hx, hb, hml, hown, hts⟩ (c_X13_up (l := l) M (((x2 * 10) * 2) * (100 + (5 * x3))) (100 * (gI M b30 (ix x1))) h32) (va_cwS 2 hts gX13_needBy_X13_up rfl rfl rfl hdS_X13_up ⟨Nat.le_of_ble_eq_true rfl, Nat.le_of_ble_eq_true rfl⟩) (pS hP hK hD hT hG hS) rfl rfl hl.1 rfl (lv_room (Nat.le_of_ble_eq_true rfl)) dX13_needBy_68 ⟨Nat.zero_le _, Nat.zero_le _⟩) hS (fun H locs hP hD hT hS => ?_)
          exact r_iret hx hb hr hlocks hP hK hD hT hG hS (Option.some.inj h) rfl dX13_needBy_71
set_option maxHeartbeats 4000000 in
set_option maxRecDepth 100000 in
theorem c_X13_need {l : Launch} {D : va_G} {ad : Nat → Nat} {cy : Nat → ClassId} {A : Nat → Prop} {g : CG} {q : SE} (M : MM) (a0 : Nat) (x1 : Int32) (x2 : Int32) (x3 : Int32) (k0 : ok g a0 13 0) {Z : (Int32 × MM)} (h : f_X13_need M a0 x1 x2 x3 = some Z) : Met l yX13_need wsX13_need ({ frames := 2, cells := 0, slots := 0, locals := 46 }) (va_Pc [.ref (ad a0), .int x1, .int x2, .int x3] (Wd D ad cy A g q M)) (va_Qi (fun r u => r = Z.1 ∧ u = Z.2) (Wd D ad cy A g q) A) 0 0 A := by
  refine Met.ofW (cc := cX13_need) (maxL := 5) (ret := (some .int)) (by decide) rfl ?_
  intro p e s m args below meth c s₁ B hml hv
  obtain ⟨rfl, hP, hK, hD, hT, hG⟩ := hv
  have hx := B.exec
  have hb := B.bytes
  have hr := B.returns
  have hts := atoms_spec (ws := wsX13_need) B.pre
  have hown : s.vm.findClass RX13 = some m.cls := findClass_of_methodNamed B.named
  have hlocks := B.notSynchronized
  have in12 : ∀ w ∈ u_ws RX12 TX12 48, w ∈ wsX13_need := fun w h => List.mem_cons_of_mem _ (List.mem_append_right _ h)
  have in13 : ∀ w ∈ u_ws RX13 TX13 29, w ∈ wsX13_need := fun w h => List.mem_cons_of_mem _ (List.mem_append_left _ (List.mem_append_right _ h))
  have hS : va_S A s.heap s.heap [] := va_S.rf
  have hl := lv_entry ([.ref (ad a0), .int x1, .int x2, .int x3]) (n := 5) (Nat.le_of_ble_eq_true rfl)
  rw [lg_entry_eq]
  generalize (lg_sl ([.ref (ad a0), .int x1, .int x2, .int x3]) ++ List.replicate (5 - (lg_sl ([.ref (ad a0), .int x1, .int x2, .int x3])).length) Slot.unset).toArray = ls at hl ⊢
  have hl : lv_has ls 5 [(0, .ref (ad a0)), (1, .int x1), (2, .int x2), (3, .int x3)] := hl
  unfold f_X13_need at h
  refine lv_aload_n hx hb dX13_need_0 rfl (lv_at hl 0 rfl) ?_
  refine lv_iconst (v := 0) hx hb dX13_need_1 rfl ?_
  refine r_putI (T := TX13) (ty := .int) (v := 0) hx hb hts in13 tyX13 tyX13_ok nmX13 hown hK hP hD hT hS k0 (by decide) rfl 0 (by decide) (hts (.fieldLink RX13 30 "StoneWalkModel" "thrown" "I") (List.mem_of_getElem? (i := 1) (by decide +kernel))) rfl rfl (tyX13_ok 0 (by decide)) rfl rfl rfl dX13_need_2 (fun H locs hP hD hT hS => ?_)
  generalize pI M a0 0 0 = Mg1 at h hP hD hT ⊢
  refine lv_aload_n hx hb dX13_need_5 rfl (lv_at hl 0 rfl) ?_
  refine lv_iload_n hx hb dX13_need_6 rfl (lv_at hl 1 rfl) ?_
  refine lv_iload_n hx hb dX13_need_7 rfl (lv_at hl 2 rfl) ?_
  refine lv_iload_n hx hb dX13_need_8 rfl (lv_at hl 3 rfl) ?_
  obtain ⟨z1, h1, h⟩ := ob_some h
  refine k_i (va_runV (As := [.int x1, .int x2, .int x3]) (rest := []) ⟨hx, hb, hml, hown, hts⟩ (c_X13_refusesSlope (l := l) Mg1 a0 x1 x2 x3 k0 h1) (cwV 3 hts gX13_need_X13_refusesSlope rfl rfl rfl hdV_X13_refusesSlope ⟨Nat.le_of_ble_eq_true rfl, Nat.le_of_ble_eq_true rfl⟩) (pV (T := TX13) hP hK hD hT hG hS k0 (by decide) rfl) rfl rfl hl.1 rfl (lv_room (Nat.le_of_ble_eq_true rfl)) dX13_need_9 ⟨Nat.zero_le _, Nat.zero_le _⟩) hS (fun H locs hP hD hT hS => ?_)
  refine lv_istore (lv' := [(4, .int z1), (0, .ref (ad a0)), (1, .int x1), (2, .int x2), (3, .int x3)]) hx hb dX13_need_12 hl (by decide) rfl (fun ls hl => ?_)
  refine lv_iload hx hb dX13_need_14 (lv_at hl 0 rfl) ?_
  refine lv_if_le (tgt := 28) hx hb dX13_need_16 rfl (fun c2 => ?_) (fun c2 => ?_)
  · replace h := ite_t c2 h
    refine lv_aload_n hx hb dX13_need_28 rfl (lv_at hl 1 rfl) ?_
    refine lv_aload_n hx hb dX13_need_29 rfl (lv_at hl 1 rfl) ?_
    refine lv_iload_n hx hb dX13_need_30 rfl (lv_at hl 2 rfl) ?_
    refine lv_aload_n hx hb dX13_need_31 rfl (lv_at hl 1 rfl) ?_
    rcases hN3 : gR Mg1 a0 3 with _ | b3
    · replace h := oc_n hN3 h
      refine r_get (T := TX13) (v := .null) hx hb hts in13 hown hK hP k0 (by decide) rfl 3 (by decide) (hts (.fieldLink RX13 431 "StoneWalkModel" "island" "LStoneWalkModel$Island;") (List.mem_of_getElem? (i := 2) (by decide +kernel))) rfl (t := 2) rfl (by show va_rf _ = _; rw [hN3]; rfl) dX13_need_32 ?_
      exact absurd h (by simp)
    · replace h := oc_s hN3 h
      have kb3 := hT.f k0 (k := 3) (t := 12) (n := 0) rfl hN3
      refine r_get (T := TX13) (v := .ref (ad b3)) hx hb hts in13 hown hK hP k0 (by decide) rfl 3 (by decide) (hts (.fieldLink RX13 431 "StoneWalkModel" "island" "LStoneWalkModel$Island;") (List.mem_of_getElem? (i := 2) (by decide +kernel))) rfl (t := 2) rfl (by show va_rf _ = _; rw [hN3]; rfl) dX13_need_32 ?_
      rcases hN4 : gR Mg1 b3 15 with _ | b4
      · exact absurd (oc_n hN4 h) (by simp)
      replace h := oc_s hN4 h
      have kb4 := hT.f kb3 (k := 15) (t := 15) (n := 10) rfl hN4
      refine r_getN (T := TX12) (v := .ref (ad b4)) hx hb hts in12 hown hK hP kb3 (by decide) rfl 15 (by decide) (hG.2.2.1 ("StoneWalkModel", 301, "StoneWalkModel$Island", "tons", "[I", "StoneWalkModel") (List.mem_of_getElem? (i := 15) rfl)) rfl (t := 2) rfl (by show va_rf _ = _; rw [hN4]; rfl) dX13_need_35 ?_
      refine lv_iload_n hx hb dX13_need_38 rfl (lv_at hl 3 rfl) ?_
      obtain ⟨hn5, h⟩ := chk_some h
      refine r_iald hx hb hK hP kb4 hn5 dX13_need_39 ?_
      refine lv_iload_n hx hb dX13_need_40 rfl (lv_at hl 4 rfl) ?_
      obtain ⟨z6, h6, h⟩ := ob_some h
      refine k_i (va_runV (As := [.int x1, .int (gI Mg1 b4 (ix x2)), .int x3]) (rest := [.ref (ad a0)]) ⟨hx, hb, hml, hown, hts⟩ (c_X13_needBy (l := l) Mg1 a0 x1 (gI Mg1 b4 (ix x2)) x3 k0 h6) (cwV 3 hts gX13_need_X13_needBy rfl rfl rfl hdV_X13_needBy ⟨Nat.le_of_ble_eq_true rfl, Nat.le_of_ble_eq_true rfl⟩) (pV (T := TX13) hP hK hD hT hG hS k0 (by decide) rfl) rfl rfl hl.1 rfl (lv_room (Nat.le_of_ble_eq_true rfl)) dX13_need_41 ⟨Nat.zero_le _, Nat.zero_le _⟩) hS (fun H locs hP hD hT hS => ?_)
      obtain ⟨z7, h7, h⟩ := ob_some h
      refine k_i (va_runV (As := [.int z6]) (rest := []) ⟨hx, hb, hml, hown, hts⟩ (c_X13_done (l := l) Mg1 a0 z6 k0 h7) (cwV 1 hts gX13_need_X13_done rfl rfl rfl hdV_X13_done ⟨Nat.le_of_ble_eq_true rfl, Nat.le_of_ble_eq_true rfl⟩) (pV (T := TX13) hP hK hD hT hG hS k0 (by decide) rfl) rfl rfl hl.1 rfl (lv_room (Nat.le_of_ble_eq_true rfl)) dX13_need_44 ⟨Nat.zero_le _, Nat.zero_le _⟩) hS (fun H locs hP hD hT hS => ?_)
      have hZ := Option.some.inj h
      have hZ1 := congrArg Prod.fst hZ
      have hZ2 := congrArg Prod.snd hZ
      exact r_iret hx hb hr hlocks hP hK hD hT hG hS hZ1 hZ2 dX13_need_47
  · replace h := ite_f c2 h
    refine lv_aload_n hx hb dX13_need_19 rfl (lv_at hl 1 rfl) ?_
    refine lv_iload hx hb dX13_need_20 (lv_at hl 0 rfl) ?_
    obtain ⟨z8, h8, h⟩ := ob_some h
    refine k_i (va_runV (As := [.int z1]) (rest := []) ⟨hx, hb, hml, hown, hts⟩ (c_X13_refused (l := l) Mg1 a0 z1 k0 h8) (cwV 1 hts gX13_need_X13_refused rfl rfl rfl hdV_X13_refused ⟨Nat.le_of_ble_eq_true rfl, Nat.le_of_ble_eq_true rfl⟩) (pV (T := TX13) hP hK hD hT hG hS k0 (by decide) rfl) rfl rfl hl.1 rfl (lv_room (Nat.le_of_ble_eq_true rfl)) dX13_need_22 ⟨Nat.zero_le _, Nat.zero_le _⟩) hS (fun H locs hP hD hT hS => ?_)
    refine lv_goto (tgt := 47) hx hb dX13_need_25 rfl ?_
    have hZ := Option.some.inj h
    have hZ1 := congrArg Prod.fst hZ
    have hZ2 := congrArg Prod.snd hZ
    exact r_iret hx hb hr hlocks hP hK hD hT hG hS hZ1 hZ2 dX13_need_47
set_option maxHeartbeats 4000000 in
set_option maxRecDepth 100000 in
theorem c_X13_minutesBy {l : Launch} {D : va_G} {ad : Nat → Nat} {cy : Nat → ClassId} {A : Nat → Prop} {g : CG} {q : SE} (M : MM) (a0 : Nat) (x1 : Int32) (x2 : Int32) (x3 : Int32) (k0 : ok g a0 13 0) {Z : Int32} (h : f_X13_minutesBy M a0 x1 x2 x3 = some Z) : Met l yX13_minutesBy wsX13_minutesBy ({ frames := 1, cells := 0, slots := 0, locals := 21 }) (va_Pc [.ref (ad a0), .int x1, .int x2, .int x3] (Wd D ad cy A g q M)) (va_Qi (fun r u => r = Z ∧ u = M) (Wd D ad cy A g q) A) 0 0 A := by
  refine Met.ofW (cc := cX13_minutesBy) (maxL := 7) (ret := (some .int)) (by decide) rfl ?_
  intro p e s m args below meth c s₁ B hml hv
  obtain ⟨rfl, hP, hK, hD, hT, hG⟩ := hv
  have hx := B.exec
  have hb := B.bytes
  have hr := B.returns
  have hts := atoms_spec (ws := wsX13_minutesBy) B.pre
  have hown : s.vm.findClass RX13 = some m.cls := findClass_of_methodNamed B.named
  have hlocks := B.notSynchronized
  have in12 : ∀ w ∈ u_ws RX12 TX12 48, w ∈ wsX13_minutesBy := fun w h => List.mem_cons_of_mem _ (List.mem_append_right _ h)
  have in13 : ∀ w ∈ u_ws RX13 TX13 29, w ∈ wsX13_minutesBy := fun w h => List.mem_cons_of_mem _ (List.mem_append_left _ (List.mem_append_right _ h))
  have hS : va_S A s.heap s.heap [] := va_S.rf
  have hl := lv_entry ([.ref (ad a0), .int x1, .int x2, .int x3]) (n := 7) (Nat.le_of_ble_eq_true rfl)
  rw [lg_entry_eq]
  generalize (lg_sl ([.ref (ad a0), .int x1, .int x2, .int x3]) ++ List.replicate (7 - (lg_sl ([.ref (ad a0), .int x1, .int x2, .int x3])).length) Slot.unset).toArray = ls at hl ⊢
  have hl : lv_has ls 7 [(0, .ref (ad a0)), (1, .int x1), (2, .int x2), (3, .int x3)] := hl
  unfold f_X13_minutesBy at h
  refine lv_aload_n hx hb dX13_minutesBy_0 rfl (lv_at hl 0 rfl) ?_
  rcases hN1 : gR M a0 3 with _ | b1
  · replace h := oc_n hN1 h
    refine r_get (T := TX13) (v := .null) hx hb hts in13 hown hK hP k0 (by decide) rfl 3 (by decide) (hts (.fieldLink RX13 431 "StoneWalkModel" "island" "LStoneWalkModel$Island;") (List.mem_of_getElem? (i := 1) (by decide +kernel))) rfl (t := 2) rfl (by show va_rf _ = _; rw [hN1]; rfl) dX13_minutesBy_1 ?_
    exact absurd h (by simp)
  · replace h := oc_s hN1 h
    have kb1 := hT.f k0 (k := 3) (t := 12) (n := 0) rfl hN1
    refine r_get (T := TX13) (v := .ref (ad b1)) hx hb hts in13 hown hK hP k0 (by decide) rfl 3 (by decide) (hts (.fieldLink RX13 431 "StoneWalkModel" "island" "LStoneWalkModel$Island;") (List.mem_of_getElem? (i := 1) (by decide +kernel))) rfl (t := 2) rfl (by show va_rf _ = _; rw [hN1]; rfl) dX13_minutesBy_1 ?_
    rcases hN2 : gR M b1 9 with _ | b2
    · exact absurd (oc_n hN2 h) (by simp)
    replace h := oc_s hN2 h
    have kb2 := hT.f kb1 (k := 9) (t := 15) (n := 4) rfl hN2
    refine r_getN (T := TX12) (v := .ref (ad b2)) hx hb hts in12 hown hK hP kb1 (by decide) rfl 9 (by decide) (hG.2.2.1 ("StoneWalkModel", 247, "StoneWalkModel$Island", "kind", "[I", "StoneWalkModel") (List.mem_of_getElem? (i := 8) rfl)) rfl (t := 2) rfl (by show va_rf _ = _; rw [hN2]; rfl) dX13_minutesBy_4 ?_
    refine lv_iload_n hx hb dX13_minutesBy_7 rfl (lv_at hl 1 rfl) ?_
    obtain ⟨hn3, h⟩ := chk_some h
    refine r_iald hx hb hK hP kb2 hn3 dX13_minutesBy_8 ?_
    refine lv_istore (lv' := [(4, .int (gI M b2 (ix x1))), (0, .ref (ad a0)), (1, .int x1), (2, .int x2), (3, .int x3)]) hx hb dX13_minutesBy_9 hl (by decide) rfl (fun ls hl => ?_)
    refine lv_iload hx hb dX13_minutesBy_11 (lv_at hl 0 rfl) ?_
    refine lv_if_ne (tgt := 21) hx hb dX13_minutesBy_13 rfl (fun c4 => ?_) (fun c4 => ?_)
    · replace h := ite_f c4 h
      refine lv_iload hx hb dX13_minutesBy_21 (lv_at hl 0 rfl) ?_
      refine lv_iconst (v := 1) hx hb dX13_minutesBy_23 rfl ?_
      refine lv_icmp_ne (tgt := 32) hx hb dX13_minutesBy_24 rfl (fun c5 => ?_) (fun c5 => ?_)
      · replace h := ite_f c5 h
        refine lv_iload hx hb dX13_minutesBy_32 (lv_at hl 0 rfl) ?_
        refine lv_iconst (v := 2) hx hb dX13_minutesBy_34 rfl ?_
        refine lv_icmp_ne (tgt := 43) hx hb dX13_minutesBy_35 rfl (fun c6 => ?_) (fun c6 => ?_)
        · replace h := ite_f c6 h
          refine lv_bipush (v := 90) hx hb dX13_minutesBy_43 rfl ?_
          refine lv_istore (lv' := [(5, .int 90), (4, .int (gI M b2 (ix x1))), (0, .ref (ad a0)), (1, .int x1), (2, .int x2), (3, .int x3)]) hx hb dX13_minutesBy_45 hl (by decide) rfl (fun ls hl => ?_)
          refine lv_iload hx hb dX13_minutesBy_47 (lv_at hl 0 rfl) ?_
          refine lv_iload_n hx hb dX13_minutesBy_49 rfl (lv_at hl 4 rfl) ?_
          refine lv_imul hx hb dX13_minutesBy_50 ?_
          refine lv_iload_n hx hb dX13_minutesBy_51 rfl (lv_at hl 5 rfl) ?_
          obtain ⟨z7, h7, h⟩ := ob_some h
          refine k_i (va_runS (As := [.int (90 * x2), .int x3]) (rest := []) ⟨hx, hb, hml, hown, hts⟩ (c_X13_up (l := l) M (90 * x2) x3 h7) (va_cwS 2 hts gX13_minutesBy_X13_up rfl rfl rfl hdS_X13_up ⟨Nat.le_of_ble_eq_true rfl, Nat.le_of_ble_eq_true rfl⟩) (pS hP hK hD hT hG hS) rfl rfl hl.1 rfl (lv_room (Nat.le_of_ble_eq_true rfl)) dX13_minutesBy_52 ⟨Nat.zero_le _, Nat.zero_le _⟩) hS (fun H locs hP hD hT hS => ?_)
          refine lv_istore (lv' := [(6, .int z7), (5, .int 90), (4, .int (gI M b2 (ix x1))), (0, .ref (ad a0)), (1, .int x1), (2, .int x2), (3, .int x3)]) hx hb dX13_minutesBy_55 hl (by decide) rfl (fun ls hl => ?_)
          refine lv_iload hx hb dX13_minutesBy_57 (lv_at hl 0 rfl) ?_
          refine lv_iload hx hb dX13_minutesBy_59 (lv_at hl 1 rfl) ?_
          refine lv_iconst (v := 2) hx hb dX13_minutesBy_61 rfl ?_
          refine lv_idiv hx hb dX13_minutesBy_62 (by decide) ?_
          refine lv_icmp_ge (tgt := 73) hx hb dX13_minutesBy_63 rfl (fun c8 => ?_) (fun c8 => ?_)
          · replace h := ite_t c8 h
            refine lv_iload hx hb dX13_minutesBy_73 (lv_at hl 0 rfl) ?_
            exact r_iret hx hb hr hlocks hP hK hD hT hG hS (Option.some.inj h) rfl dX13_minutesBy_75
          · replace h := ite_f c8 h
            refine lv_iload hx hb dX13_minutesBy_66 (lv_at hl 1 rfl) ?_
            refine lv_iconst (v := 2) hx hb dX13_minutesBy_68 rfl ?_
            refine lv_idiv hx hb dX13_minutesBy_69 (by decide) ?_
            refine lv_goto (tgt := 75) hx hb dX13_minutesBy_70 rfl ?_
            exact r_iret hx hb hr hlocks hP hK hD hT hG hS (Option.some.inj h) rfl dX13_minutesBy_75
        · replace h := ite_t c6 h
          refine lv_bipush (v := 30) hx hb dX13_minutesBy_38 rfl ?_
          refine lv_goto (tgt := 45) hx hb dX13_minutesBy_40 rfl ?_
          refine lv_istore (lv' := [(5, .int 30), (4, .int (gI M b2 (ix x1))), (0, .ref (ad a0)), (1, .int x1), (2, .int x2), (3, .int x3)]) hx hb dX13_minutesBy_45 hl (by decide) rfl (fun ls hl => ?_)
          refine lv_iload hx hb dX13_minutesBy_47 (lv_at hl 0 rfl) ?_
          refine lv_iload_n hx hb dX13_minutesBy_49 rfl (lv_at hl 4 rfl) ?_
          refine lv_imul hx hb dX13_minutesBy_50 ?_
          refine lv_iload_n hx hb dX13_minutesBy_51 rfl (lv_at hl 5 rfl) ?_
          obtain ⟨z9, h9, h⟩ := ob_some h
          refine k_i (va_runS (As := [.int (30 * x2), .int x3]) (rest := []) ⟨hx, hb, hml, hown, hts⟩ (c_X13_up (l := l) M (30 * x2) x3 h9) (va_cwS 2 hts gX13_minutesBy_X13_up rfl rfl rfl hdS_X13_up ⟨Nat.le_of_ble_eq_true rfl, Nat.le_of_ble_eq_true rfl⟩) (pS hP hK hD hT hG hS) rfl rfl hl.1 rfl (lv_room (Nat.le_of_ble_eq_true rfl)) dX13_minutesBy_52 ⟨Nat.zero_le _, Nat.zero_le _⟩) hS (fun H locs hP hD hT hS => ?_)
          refine lv_istore (lv' := [(6, .int z9), (5, .int 30), (4, .int (gI M b2 (ix x1))), (0, .ref (ad a0)), (1, .int x1), (2, .int x2), (3, .int x3)]) hx hb dX13_minutesBy_55 hl (by decide) rfl (fun ls hl => ?_)
          refine lv_iload hx hb dX13_minutesBy_57 (lv_at hl 0 rfl) ?_
          refine lv_iload hx hb dX13_minutesBy_59 (lv_at hl 1 rfl) ?_
          refine lv_iconst (v := 2) hx hb dX13_minutesBy_61 rfl ?_
          refine lv_idiv hx hb dX13_minutesBy_62 (by decide) ?_
          refine lv_icmp_ge (tgt := 73) hx hb dX13_minutesBy_63 rfl (fun c10 => ?_) (fun c10 => ?_)
          · replace h := ite_t c10 h
            refine lv_iload hx hb dX13_minutesBy_73 (lv_at hl 0 rfl) ?_
            exact r_iret hx hb hr hlocks hP hK hD hT hG hS (Option.some.inj h) rfl dX13_minutesBy_75
          · replace h := ite_f c10 h
            refine lv_iload hx hb dX13_minutesBy_66 (lv_at hl 1 rfl) ?_
            refine lv_iconst (v := 2) hx hb dX13_minutesBy_68 rfl ?_
            refine lv_idiv hx hb dX13_minutesBy_69 (by decide) ?_
            refine lv_goto (tgt := 75) hx hb dX13_minutesBy_70 rfl ?_
            exact r_iret hx hb hr hlocks hP hK hD hT hG hS (Option.some.inj h) rfl dX13_minutesBy_75
      · replace h := ite_t c5 h
        refine lv_bipush (v := 60) hx hb dX13_minutesBy_27 rfl ?_
        refine lv_goto (tgt := 45) hx hb dX13_minutesBy_29 rfl ?_
        refine lv_istore (lv' := [(5, .int 60), (4, .int (gI M b2 (ix x1))), (0, .ref (ad a0)), (1, .int x1), (2, .int x2), (3, .int x3)]) hx hb dX13_minutesBy_45 hl (by decide) rfl (fun ls hl => ?_)
        refine lv_iload hx hb dX13_minutesBy_47 (lv_at hl 0 rfl) ?_
        refine lv_iload_n hx hb dX13_minutesBy_49 rfl (lv_at hl 4 rfl) ?_
        refine lv_imul hx hb dX13_minutesBy_50 ?_
        refine lv_iload_n hx hb dX13_minutesBy_51 rfl (lv_at hl 5 rfl) ?_
        obtain ⟨z11, h11, h⟩ := ob_some h
        refine k_i (va_runS (As := [.int (60 * x2), .int x3]) (rest := []) ⟨hx, hb, hml, hown, hts⟩ (c_X13_up (l := l) M (60 * x2) x3 h11) (va_cwS 2 hts gX13_minutesBy_X13_up rfl rfl rfl hdS_X13_up ⟨Nat.le_of_ble_eq_true rfl, Nat.le_of_ble_eq_true rfl⟩) (pS hP hK hD hT hG hS) rfl rfl hl.1 rfl (lv_room (Nat.le_of_ble_eq_true rfl)) dX13_minutesBy_52 ⟨Nat.zero_le _, Nat.zero_le _⟩) hS (fun H locs hP hD hT hS => ?_)
        refine lv_istore (lv' := [(6, .int z11), (5, .int 60), (4, .int (gI M b2 (ix x1))), (0, .ref (ad a0)), (1, .int x1), (2, .int x2), (3, .int x3)]) hx hb dX13_minutesBy_55 hl (by decide) rfl (fun ls hl => ?_)
        refine lv_iload hx hb dX13_minutesBy_57 (lv_at hl 0 rfl) ?_
        refine lv_iload hx hb dX13_minutesBy_59 (lv_at hl 1 rfl) ?_
        refine lv_iconst (v := 2) hx hb dX13_minutesBy_61 rfl ?_
        refine lv_idiv hx hb dX13_minutesBy_62 (by decide) ?_
        refine lv_icmp_ge (tgt := 73) hx hb dX13_minutesBy_63 rfl (fun c12 => ?_) (fun c12 => ?_)
        · replace h := ite_t c12 h
          refine lv_iload hx hb dX13_minutesBy_73 (lv_at hl 0 rfl) ?_
          exact r_iret hx hb hr hlocks hP hK hD hT hG hS (Option.some.inj h) rfl dX13_minutesBy_75
        · replace h := ite_f c12 h
          refine lv_iload hx hb dX13_minutesBy_66 (lv_at hl 1 rfl) ?_
          refine lv_iconst (v := 2) hx hb dX13_minutesBy_68 rfl ?_
          refine lv_idiv hx hb dX13_minutesBy_69 (by decide) ?_
          refine lv_goto (tgt := 75) hx hb dX13_minutesBy_70 rfl ?_
          exact r_iret hx hb hr hlocks hP hK hD hT hG hS (Option.some.inj h) rfl dX13_minutesBy_75
    · replace h := ite_t c4 h
      refine lv_bipush (v := 40) hx hb dX13_minutesBy_16 rfl ?_
      refine lv_goto (tgt := 45) hx hb dX13_minutesBy_18 rfl ?_
      refine lv_istore (lv' := [(5, .int 40), (4, .int (gI M b2 (ix x1))), (0, .ref (ad a0)), (1, .int x1), (2, .int x2), (3, .int x3)]) hx hb dX13_minutesBy_45 hl (by decide) rfl (fun ls hl => ?_)
      refine lv_iload hx hb dX13_minutesBy_47 (lv_at hl 0 rfl) ?_
      refine lv_iload_n hx hb dX13_minutesBy_49 rfl (lv_at hl 4 rfl) ?_
      refine lv_imul hx hb dX13_minutesBy_50 ?_
      refine lv_iload_n hx hb dX13_minutesBy_51 rfl (lv_at hl 5 rfl) ?_
      obtain ⟨z13, h13, h⟩ := ob_some h
      refine k_i (va_runS (As := [.int (40 * x2), .int x3]) (rest := []) ⟨hx, hb, hml, hown, hts⟩ (c_X13_up (l := l) M (40 * x2) x3 h13) (va_cwS 2 hts gX13_minutesBy_X13_up rfl rfl rfl hdS_X13_up ⟨Nat.le_of_ble_eq_true rfl, Nat.le_of_ble_eq_true rfl⟩) (pS hP hK hD hT hG hS) rfl rfl hl.1 rfl (lv_room (Nat.le_of_ble_eq_true rfl)) dX13_minutesBy_52 ⟨Nat.zero_le _, Nat.zero_le _⟩) hS (fun H locs hP hD hT hS => ?_)
      refine lv_istore (lv' := [(6, .int z13), (5, .int 40), (4, .int (gI M b2 (ix x1))), (0, .ref (ad a0)), (1, .int x1), (2, .int x2), (3, .int x3)]) hx hb dX13_minutesBy_55 hl (by decide) rfl (fun ls hl => ?_)
      refine lv_iload hx hb dX13_minutesBy_57 (lv_at hl 0 rfl) ?_
      refine lv_iload hx hb dX13_minutesBy_59 (lv_at hl 1 rfl) ?_
      refine lv_iconst (v := 2) hx hb dX13_minutesBy_61 rfl ?_
      refine lv_idiv hx hb dX13_minutesBy_62 (by decide) ?_
      refine lv_icmp_ge (tgt := 73) hx hb dX13_minutesBy_63 rfl (fun c14 => ?_) (fun c14 => ?_)
      · replace h := ite_t c14 h
        refine lv_iload hx hb dX13_minutesBy_73 (lv_at hl 0 rfl) ?_
        exact r_iret hx hb hr hlocks hP hK hD hT hG hS (Option.some.inj h) rfl dX13_minutesBy_75
      · replace h := ite_f c14 h
        refine lv_iload hx hb dX13_minutesBy_66 (lv_at hl 1 rfl) ?_
        refine lv_iconst (v := 2) hx hb dX13_minutesBy_68 rfl ?_
        refine lv_idiv hx hb dX13_minutesBy_69 (by decide) ?_
        refine lv_goto (tgt := 75) hx hb dX13_minutesBy_70 rfl ?_
        exact r_iret hx hb hr hlocks hP hK hD hT hG hS (Option.some.inj h) rfl dX13_minutesBy_75
set_option maxHeartbeats 4000000 in
set_option maxRecDepth 100000 in
theorem c_X13_minutes {l : Launch} {D : va_G} {ad : Nat → Nat} {cy : Nat → ClassId} {A : Nat → Prop} {g : CG} {q : SE} (M : MM) (a0 : Nat) (x1 : Int32) (x2 : Int32) (x3 : Int32) (x4 : Int32) (k0 : ok g a0 13 0) {Z : (Int32 × MM)} (h : f_X13_minutes M a0 x1 x2 x3 x4 = some Z) : Met l yX13_minutes wsX13_minutes ({ frames := 2, cells := 0, slots := 0, locals := 47 }) (va_Pc [.ref (ad a0), .int x1, .int x2, .int x3, .int x4] (Wd D ad cy A g q M)) (va_Qi (fun r u => r = Z.1 ∧ u = Z.2) (Wd D ad cy A g q) A) 0 0 A := by
  refine Met.ofW (cc := cX13_minutes) (maxL := 6) (ret := (some .int)) (by decide) rfl ?_
  intro p e s m args below meth c s₁ B hml hv
  obtain ⟨rfl, hP, hK, hD, hT, hG⟩ := hv
  have hx := B.exec
  have hb := B.bytes
  have hr := B.returns
  have hts := atoms_spec (ws := wsX13_minutes) B.pre
  have hown : s.vm.findClass RX13 = some m.cls := findClass_of_methodNamed B.named
  have hlocks := B.notSynchronized
  have in12 : ∀ w ∈ u_ws RX12 TX12 48, w ∈ wsX13_minutes := fun w h => List.mem_cons_of_mem _ (List.mem_append_right _ h)
  have in13 : ∀ w ∈ u_ws RX13 TX13 29, w ∈ wsX13_minutes := fun w h => List.mem_cons_of_mem _ (List.mem_append_left _ (List.mem_append_right _ h))
  have hS : va_S A s.heap s.heap [] := va_S.rf
  have hl := lv_entry ([.ref (ad a0), .int x1, .int x2, .int x3, .int x4]) (n := 6) (Nat.le_of_ble_eq_true rfl)
  rw [lg_entry_eq]
  generalize (lg_sl ([.ref (ad a0), .int x1, .int x2, .int x3, .int x4]) ++ List.replicate (6 - (lg_sl ([.ref (ad a0), .int x1, .int x2, .int x3, .int x4])).length) Slot.unset).toArray = ls at hl ⊢
  have hl : lv_has ls 6 [(0, .ref (ad a0)), (1, .int x1), (2, .int x2), (3, .int x3), (4, .int x4)] := hl
  unfold f_X13_minutes at h
  refine lv_aload_n hx hb dX13_minutes_0 rfl (lv_at hl 0 rfl) ?_
  refine lv_iconst (v := 0) hx hb dX13_minutes_1 rfl ?_
  refine r_putI (T := TX13) (ty := .int) (v := 0) hx hb hts in13 tyX13 tyX13_ok nmX13 hown hK hP hD hT hS k0 (by decide) rfl 0 (by decide) (hts (.fieldLink RX13 30 "StoneWalkModel" "thrown" "I") (List.mem_of_getElem? (i := 1) (by decide +kernel))) rfl rfl (tyX13_ok 0 (by decide)) rfl rfl rfl dX13_minutes_2 (fun H locs hP hD hT hS => ?_)
  generalize pI M a0 0 0 = Mg1 at h hP hD hT ⊢
  refine lv_aload_n hx hb dX13_minutes_5 rfl (lv_at hl 0 rfl) ?_
  refine lv_iload_n hx hb dX13_minutes_6 rfl (lv_at hl 1 rfl) ?_
  refine lv_iload_n hx hb dX13_minutes_7 rfl (lv_at hl 2 rfl) ?_
  refine lv_iload_n hx hb dX13_minutes_8 rfl (lv_at hl 3 rfl) ?_
  obtain ⟨z1, h1, h⟩ := ob_some h
  refine k_i (va_runV (As := [.int x1, .int x2, .int x3]) (rest := []) ⟨hx, hb, hml, hown, hts⟩ (c_X13_refusesSlope (l := l) Mg1 a0 x1 x2 x3 k0 h1) (cwV 3 hts gX13_minutes_X13_refusesSlope rfl rfl rfl hdV_X13_refusesSlope ⟨Nat.le_of_ble_eq_true rfl, Nat.le_of_ble_eq_true rfl⟩) (pV (T := TX13) hP hK hD hT hG hS k0 (by decide) rfl) rfl rfl hl.1 rfl (lv_room (Nat.le_of_ble_eq_true rfl)) dX13_minutes_9 ⟨Nat.zero_le _, Nat.zero_le _⟩) hS (fun H locs hP hD hT hS => ?_)
  refine lv_istore (lv' := [(5, .int z1), (0, .ref (ad a0)), (1, .int x1), (2, .int x2), (3, .int x3), (4, .int x4)]) hx hb dX13_minutes_12 hl (by decide) rfl (fun ls hl => ?_)
  refine lv_iload hx hb dX13_minutes_14 (lv_at hl 0 rfl) ?_
  refine lv_if_le (tgt := 26) hx hb dX13_minutes_16 rfl (fun c2 => ?_) (fun c2 => ?_)
  · replace h := ite_t c2 h
    refine lv_iload hx hb dX13_minutes_26 (lv_at hl 5 rfl) ?_
    refine lv_iconst (v := 1) hx hb dX13_minutes_28 rfl ?_
    refine lv_sipush (v := 200) hx hb dX13_minutes_29 rfl ?_
    obtain ⟨z3, h3, h⟩ := ob_some h
    refine k_z (va_runS (As := [.int x4, .int 1, .int 200]) (rest := []) ⟨hx, hb, hml, hown, hts⟩ (c_X13_in (l := l) Mg1 x4 1 200 h3) (va_cwS 3 hts gX13_minutes_X13_in rfl rfl rfl hdS_X13_in ⟨Nat.le_of_ble_eq_true rfl, Nat.le_of_ble_eq_true rfl⟩) (pS hP hK hD hT hG hS) rfl rfl hl.1 rfl (lv_room (Nat.le_of_ble_eq_true rfl)) dX13_minutes_32 ⟨Nat.zero_le _, Nat.zero_le _⟩) hS (fun H locs hz3 hP hD hT hS => ?_)
    refine lv_if_eq (tgt := 67) hx hb dX13_minutes_35 rfl (fun c4 => ?_) (fun c4 => ?_)
    · replace h := ite_t c4 h
      refine lv_aload_n hx hb dX13_minutes_67 rfl (lv_at hl 1 rfl) ?_
      refine lv_iconst (v := 2) hx hb dX13_minutes_68 rfl ?_
      obtain ⟨z5, h5, h⟩ := ob_some h
      refine k_i (va_runV (As := [.int 2]) (rest := []) ⟨hx, hb, hml, hown, hts⟩ (c_X13_refused (l := l) Mg1 a0 2 k0 h5) (cwV 1 hts gX13_minutes_X13_refused rfl rfl rfl hdV_X13_refused ⟨Nat.le_of_ble_eq_true rfl, Nat.le_of_ble_eq_true rfl⟩) (pV (T := TX13) hP hK hD hT hG hS k0 (by decide) rfl) rfl rfl hl.1 rfl (lv_room (Nat.le_of_ble_eq_true rfl)) dX13_minutes_69 ⟨Nat.zero_le _, Nat.zero_le _⟩) hS (fun H locs hP hD hT hS => ?_)
      have hZ := Option.some.inj h
      have hZ1 := congrArg Prod.fst hZ
      have hZ2 := congrArg Prod.snd hZ
      exact r_iret hx hb hr hlocks hP hK hD hT hG hS hZ1 hZ2 dX13_minutes_72
    · replace h := ite_f c4 h
      refine lv_aload_n hx hb dX13_minutes_38 rfl (lv_at hl 1 rfl) ?_
      refine lv_aload_n hx hb dX13_minutes_39 rfl (lv_at hl 1 rfl) ?_
      refine lv_iload_n hx hb dX13_minutes_40 rfl (lv_at hl 2 rfl) ?_
      refine lv_aload_n hx hb dX13_minutes_41 rfl (lv_at hl 1 rfl) ?_
      refine lv_iload_n hx hb dX13_minutes_42 rfl (lv_at hl 2 rfl) ?_
      refine lv_aload_n hx hb dX13_minutes_43 rfl (lv_at hl 1 rfl) ?_
      rcases hN6 : gR Mg1 a0 3 with _ | b6
      · replace h := oc_n hN6 h
        refine r_get (T := TX13) (v := .null) hx hb hts in13 hown hK hP k0 (by decide) rfl 3 (by decide) (hts (.fieldLink RX13 431 "StoneWalkModel" "island" "LStoneWalkModel$Island;") (List.mem_of_getElem? (i := 2) (by decide +kernel))) rfl (t := 2) rfl (by show va_rf _ = _; rw [hN6]; rfl) dX13_minutes_44 ?_
        exact absurd h (by simp)
      · replace h := oc_s hN6 h
        have kb6 := hT.f k0 (k := 3) (t := 12) (n := 0) rfl hN6
        refine r_get (T := TX13) (v := .ref (ad b6)) hx hb hts in13 hown hK hP k0 (by decide) rfl 3 (by decide) (hts (.fieldLink RX13 431 "StoneWalkModel" "island" "LStoneWalkModel$Island;") (List.mem_of_getElem? (i := 2) (by decide +kernel))) rfl (t := 2) rfl (by show va_rf _ = _; rw [hN6]; rfl) dX13_minutes_44 ?_
        rcases hN7 : gR Mg1 b6 15 with _ | b7
        · exact absurd (oc_n hN7 h) (by simp)
        replace h := oc_s hN7 h
        have kb7 := hT.f kb6 (k := 15) (t := 15) (n := 10) rfl hN7
        refine r_getN (T := TX12) (v := .ref (ad b7)) hx hb hts in12 hown hK hP kb6 (by decide) rfl 15 (by decide) (hG.2.2.1 ("StoneWalkModel", 301, "StoneWalkModel$Island", "tons", "[I", "StoneWalkModel") (List.mem_of_getElem? (i := 15) rfl)) rfl (t := 2) rfl (by show va_rf _ = _; rw [hN7]; rfl) dX13_minutes_47 ?_
        refine lv_iload_n hx hb dX13_minutes_50 rfl (lv_at hl 3 rfl) ?_
        obtain ⟨hn8, h⟩ := chk_some h
        refine r_iald hx hb hK hP kb7 hn8 dX13_minutes_51 ?_
        refine lv_iload_n hx hb dX13_minutes_52 rfl (lv_at hl 4 rfl) ?_
        obtain ⟨z9, h9, h⟩ := ob_some h
        refine k_i (va_runV (As := [.int x1, .int (gI Mg1 b7 (ix x2)), .int x3]) (rest := [.int x1, .ref (ad a0), .ref (ad a0)]) ⟨hx, hb, hml, hown, hts⟩ (c_X13_needBy (l := l) Mg1 a0 x1 (gI Mg1 b7 (ix x2)) x3 k0 h9) (cwV 3 hts gX13_minutes_X13_needBy rfl rfl rfl hdV_X13_needBy ⟨Nat.le_of_ble_eq_true rfl, Nat.le_of_ble_eq_true rfl⟩) (pV (T := TX13) hP hK hD hT hG hS k0 (by decide) rfl) rfl rfl hl.1 rfl (lv_room (Nat.le_of_ble_eq_true rfl)) dX13_minutes_53 ⟨Nat.zero_le _, Nat.zero_le _⟩) hS (fun H locs hP hD hT hS => ?_)
        refine lv_iload hx hb dX13_minutes_56 (lv_at hl 5 rfl) ?_
        obtain ⟨z10, h10, h⟩ := ob_some h
        refine k_i (va_runV (As := [.int x1, .int z9, .int x4]) (rest := [.ref (ad a0)]) ⟨hx, hb, hml, hown, hts⟩ (c_X13_minutesBy (l := l) Mg1 a0 x1 z9 x4 k0 h10) (cwV 3 hts gX13_minutes_X13_minutesBy rfl rfl rfl hdV_X13_minutesBy ⟨Nat.le_of_ble_eq_true rfl, Nat.le_of_ble_eq_true rfl⟩) (pV (T := TX13) hP hK hD hT hG hS k0 (by decide) rfl) rfl rfl hl.1 rfl (lv_room (Nat.le_of_ble_eq_true rfl)) dX13_minutes_58 ⟨Nat.zero_le _, Nat.zero_le _⟩) hS (fun H locs hP hD hT hS => ?_)
        obtain ⟨z11, h11, h⟩ := ob_some h
        refine k_i (va_runV (As := [.int z10]) (rest := []) ⟨hx, hb, hml, hown, hts⟩ (c_X13_done (l := l) Mg1 a0 z10 k0 h11) (cwV 1 hts gX13_minutes_X13_done rfl rfl rfl hdV_X13_done ⟨Nat.le_of_ble_eq_true rfl, Nat.le_of_ble_eq_true rfl⟩) (pV (T := TX13) hP hK hD hT hG hS k0 (by decide) rfl) rfl rfl hl.1 rfl (lv_room (Nat.le_of_ble_eq_true rfl)) dX13_minutes_61 ⟨Nat.zero_le _, Nat.zero_le _⟩) hS (fun H locs hP hD hT hS => ?_)
        refine lv_goto (tgt := 72) hx hb dX13_minutes_64 rfl ?_
        have hZ := Option.some.inj h
        have hZ1 := congrArg Prod.fst hZ
        have hZ2 := congrArg Prod.snd hZ
        exact r_iret hx hb hr hlocks hP hK hD hT hG hS hZ1 hZ2 dX13_minutes_72
  · replace h := ite_f c2 h
    refine lv_aload_n hx hb dX13_minutes_19 rfl (lv_at hl 1 rfl) ?_
    refine lv_iload hx hb dX13_minutes_20 (lv_at hl 0 rfl) ?_
    obtain ⟨z12, h12, h⟩ := ob_some h
    refine k_i (va_runV (As := [.int z1]) (rest := []) ⟨hx, hb, hml, hown, hts⟩ (c_X13_refused (l := l) Mg1 a0 z1 k0 h12) (cwV 1 hts gX13_minutes_X13_refused rfl rfl rfl hdV_X13_refused ⟨Nat.le_of_ble_eq_true rfl, Nat.le_of_ble_eq_true rfl⟩) (pV (T := TX13) hP hK hD hT hG hS k0 (by decide) rfl) rfl rfl hl.1 rfl (lv_room (Nat.le_of_ble_eq_true rfl)) dX13_minutes_22 ⟨Nat.zero_le _, Nat.zero_le _⟩) hS (fun H locs hP hD hT hS => ?_)
    have hZ := Option.some.inj h
    have hZ1 := congrArg Prod.fst hZ
    have hZ2 := congrArg Prod.snd hZ
    exact r_iret hx hb hr hlocks hP hK hD hT hG hS hZ1 hZ2 dX13_minutes_25
set_option maxHeartbeats 4000000 in
set_option maxRecDepth 100000 in
theorem c_X13_chanceBy {l : Launch} {D : va_G} {ad : Nat → Nat} {cy : Nat → ClassId} {A : Nat → Prop} {g : CG} {q : SE} (M : MM) (a0 : Nat) (x1 : Int32) (x2 : Int32) (x3 : Int32) (k0 : ok g a0 13 0) {Z : Int32} (h : f_X13_chanceBy M a0 x1 x2 x3 = some Z) : Met l yX13_chanceBy wsX13_chanceBy ({ frames := 0, cells := 0, slots := 0, locals := 0 }) (va_Pc [.ref (ad a0), .int x1, .int x2, .int x3] (Wd D ad cy A g q M)) (va_Qi (fun r u => r = Z ∧ u = M) (Wd D ad cy A g q) A) 0 0 A := by
  refine Met.ofW (cc := cX13_chanceBy) (maxL := 8) (ret := (some .int)) (by decide) rfl ?_
  intro p e s m args below meth c s₁ B hml hv
  obtain ⟨rfl, hP, hK, hD, hT, hG⟩ := hv
  have hx := B.exec
  have hb := B.bytes
  have hr := B.returns
  have hts := atoms_spec (ws := wsX13_chanceBy) B.pre
  have hown : s.vm.findClass RX13 = some m.cls := findClass_of_methodNamed B.named
  have hlocks := B.notSynchronized
  have in12 : ∀ w ∈ u_ws RX12 TX12 48, w ∈ wsX13_chanceBy := fun w h => List.mem_cons_of_mem _ (List.mem_append_right _ h)
  have in13 : ∀ w ∈ u_ws RX13 TX13 29, w ∈ wsX13_chanceBy := fun w h => List.mem_cons_of_mem _ (List.mem_append_left _ (List.mem_append_right _ h))
  have hS : va_S A s.heap s.heap [] := va_S.rf
  have hl := lv_entry ([.ref (ad a0), .int x1, .int x2, .int x3]) (n := 8) (Nat.le_of_ble_eq_true rfl)
  rw [lg_entry_eq]
  generalize (lg_sl ([.ref (ad a0), .int x1, .int x2, .int x3]) ++ List.replicate (8 - (lg_sl ([.ref (ad a0), .int x1, .int x2, .int x3])).length) Slot.unset).toArray = ls at hl ⊢
  have hl : lv_has ls 8 [(0, .ref (ad a0)), (1, .int x1), (2, .int x2), (3, .int x3)] := hl
  unfold f_X13_chanceBy at h
  refine lv_iload_n hx hb dX13_chanceBy_0 rfl (lv_at hl 3 rfl) ?_
  refine lv_if_ge (tgt := 9) hx hb dX13_chanceBy_1 rfl (fun c1 => ?_) (fun c1 => ?_)
  · replace h := ite_t c1 h
    refine lv_iload_n hx hb dX13_chanceBy_9 rfl (lv_at hl 3 rfl) ?_
    refine lv_istore (lv' := [(4, .int x3), (0, .ref (ad a0)), (1, .int x1), (2, .int x2), (3, .int x3)]) hx hb dX13_chanceBy_10 hl (by decide) rfl (fun ls hl => ?_)
    refine lv_aload_n hx hb dX13_chanceBy_12 rfl (lv_at hl 1 rfl) ?_
    rcases hN2 : gR M a0 3 with _ | b2
    · replace h := oc_n hN2 h
      refine r_get (T := TX13) (v := .null) hx hb hts in13 hown hK hP k0 (by decide) rfl 3 (by decide) (hts (.fieldLink RX13 431 "StoneWalkModel" "island" "LStoneWalkModel$Island;") (List.mem_of_getElem? (i := 1) (by decide +kernel))) rfl (t := 2) rfl (by show va_rf _ = _; rw [hN2]; rfl) dX13_chanceBy_13 ?_
      exact absurd h (by simp)
    · replace h := oc_s hN2 h
      have kb2 := hT.f k0 (k := 3) (t := 12) (n := 0) rfl hN2
      refine r_get (T := TX13) (v := .ref (ad b2)) hx hb hts in13 hown hK hP k0 (by decide) rfl 3 (by decide) (hts (.fieldLink RX13 431 "StoneWalkModel" "island" "LStoneWalkModel$Island;") (List.mem_of_getElem? (i := 1) (by decide +kernel))) rfl (t := 2) rfl (by show va_rf _ = _; rw [hN2]; rfl) dX13_chanceBy_13 ?_
      rcases hN3 : gR M b2 9 with _ | b3
      · exact absurd (oc_n hN3 h) (by simp)
      replace h := oc_s hN3 h
      have kb3 := hT.f kb2 (k := 9) (t := 15) (n := 4) rfl hN3
      refine r_getN (T := TX12) (v := .ref (ad b3)) hx hb hts in12 hown hK hP kb2 (by decide) rfl 9 (by decide) (hG.2.2.1 ("StoneWalkModel", 247, "StoneWalkModel$Island", "kind", "[I", "StoneWalkModel") (List.mem_of_getElem? (i := 8) rfl)) rfl (t := 2) rfl (by show va_rf _ = _; rw [hN3]; rfl) dX13_chanceBy_16 ?_
      refine lv_iload_n hx hb dX13_chanceBy_19 rfl (lv_at hl 2 rfl) ?_
      obtain ⟨hn4, h⟩ := chk_some h
      refine r_iald hx hb hK hP kb3 hn4 dX13_chanceBy_20 ?_
      refine lv_istore (lv' := [(5, .int (gI M b3 (ix x1))), (4, .int x3), (0, .ref (ad a0)), (1, .int x1), (2, .int x2), (3, .int x3)]) hx hb dX13_chanceBy_21 hl (by decide) rfl (fun ls hl => ?_)
      refine lv_bipush (v := 10) hx hb dX13_chanceBy_23 rfl ?_
      refine lv_aload_n hx hb dX13_chanceBy_25 rfl (lv_at hl 2 rfl) ?_
      rcases hN5 : gR M a0 3 with _ | b5
      · replace h := oc_n hN5 h
        refine r_get (T := TX13) (v := .null) hx hb hts in13 hown hK hP k0 (by decide) rfl 3 (by decide) (hts (.fieldLink RX13 431 "StoneWalkModel" "island" "LStoneWalkModel$Island;") (List.mem_of_getElem? (i := 1) (by decide +kernel))) rfl (t := 2) rfl (by show va_rf _ = _; rw [hN5]; rfl) dX13_chanceBy_26 ?_
        exact absurd h (by simp)
      · replace h := oc_s hN5 h
        have kb5 := hT.f k0 (k := 3) (t := 12) (n := 0) rfl hN5
        refine r_get (T := TX13) (v := .ref (ad b5)) hx hb hts in13 hown hK hP k0 (by decide) rfl 3 (by decide) (hts (.fieldLink RX13 431 "StoneWalkModel" "island" "LStoneWalkModel$Island;") (List.mem_of_getElem? (i := 1) (by decide +kernel))) rfl (t := 2) rfl (by show va_rf _ = _; rw [hN5]; rfl) dX13_chanceBy_26 ?_
        rcases hN6 : gR M b5 17 with _ | b6
        · exact absurd (oc_n hN6 h) (by simp)
        replace h := oc_s hN6 h
        have kb6 := hT.f kb5 (k := 17) (t := 15) (n := 10) rfl hN6
        refine r_getN (T := TX12) (v := .ref (ad b6)) hx hb hts in12 hown hK hP kb5 (by decide) rfl 17 (by decide) (hG.2.2.1 ("StoneWalkModel", 305, "StoneWalkModel$Island", "edge", "[I", "StoneWalkModel") (List.mem_of_getElem? (i := 17) rfl)) rfl (t := 2) rfl (by show va_rf _ = _; rw [hN6]; rfl) dX13_chanceBy_29 ?_
        refine lv_iload_n hx hb dX13_chanceBy_32 rfl (lv_at hl 4 rfl) ?_
        obtain ⟨hn7, h⟩ := chk_some h
        refine r_iald hx hb hK hP kb6 hn7 dX13_chanceBy_33 ?_
        refine lv_isub hx hb dX13_chanceBy_34 ?_
        refine lv_istore (lv' := [(6, .int (10 - (gI M b6 (ix x2)))), (5, .int (gI M b3 (ix x1))), (4, .int x3), (0, .ref (ad a0)), (1, .int x1), (2, .int x2), (3, .int x3)]) hx hb dX13_chanceBy_35 hl (by decide) rfl (fun ls hl => ?_)
        refine lv_iload hx hb dX13_chanceBy_37 (lv_at hl 1 rfl) ?_
        refine lv_if_ne (tgt := 61) hx hb dX13_chanceBy_39 rfl (fun c8 => ?_) (fun c8 => ?_)
        · replace h := ite_f c8 h
          refine lv_iload hx hb dX13_chanceBy_61 (lv_at hl 1 rfl) ?_
          refine lv_iconst (v := 1) hx hb dX13_chanceBy_63 rfl ?_
          refine lv_icmp_ne (tgt := 72) hx hb dX13_chanceBy_64 rfl (fun c9 => ?_) (fun c9 => ?_)
          · replace h := ite_f c9 h
            refine lv_iload hx hb dX13_chanceBy_72 (lv_at hl 1 rfl) ?_
            refine lv_iconst (v := 2) hx hb dX13_chanceBy_74 rfl ?_
            refine lv_icmp_ne (tgt := 85) hx hb dX13_chanceBy_75 rfl (fun c10 => ?_) (fun c10 => ?_)
            · replace h := ite_f c10 h
              refine lv_iconst (v := 0) hx hb dX13_chanceBy_85 rfl ?_
              refine lv_istore (lv' := [(7, .int 0), (6, .int (10 - (gI M b6 (ix x2)))), (5, .int (gI M b3 (ix x1))), (4, .int x3), (0, .ref (ad a0)), (1, .int x1), (2, .int x2), (3, .int x3)]) hx hb dX13_chanceBy_86 hl (by decide) rfl (fun ls hl => ?_)
              refine lv_iload hx hb dX13_chanceBy_88 (lv_at hl 0 rfl) ?_
              refine lv_bipush (v := 100) hx hb dX13_chanceBy_90 rfl ?_
              refine lv_icmp_le (tgt := 100) hx hb dX13_chanceBy_92 rfl (fun _ => ?_) (fun c11 => absurd c11 (by decide))
              refine lv_iload hx hb dX13_chanceBy_100 (lv_at hl 0 rfl) ?_
              exact r_iret hx hb hr hlocks hP hK hD hT hG hS (Option.some.inj h) rfl dX13_chanceBy_102
            · replace h := ite_t c10 h
              refine lv_iconst (v := 3) hx hb dX13_chanceBy_78 rfl ?_
              refine lv_iload hx hb dX13_chanceBy_79 (lv_at hl 2 rfl) ?_
              refine lv_imul hx hb dX13_chanceBy_81 ?_
              refine lv_goto (tgt := 86) hx hb dX13_chanceBy_82 rfl ?_
              refine lv_istore (lv' := [(7, .int (3 * x3)), (6, .int (10 - (gI M b6 (ix x2)))), (5, .int (gI M b3 (ix x1))), (4, .int x3), (0, .ref (ad a0)), (1, .int x1), (2, .int x2), (3, .int x3)]) hx hb dX13_chanceBy_86 hl (by decide) rfl (fun ls hl => ?_)
              refine lv_iload hx hb dX13_chanceBy_88 (lv_at hl 0 rfl) ?_
              refine lv_bipush (v := 100) hx hb dX13_chanceBy_90 rfl ?_
              refine lv_icmp_le (tgt := 100) hx hb dX13_chanceBy_92 rfl (fun c12 => ?_) (fun c12 => ?_)
              · replace h := ite_t c12 h
                refine lv_iload hx hb dX13_chanceBy_100 (lv_at hl 0 rfl) ?_
                exact r_iret hx hb hr hlocks hP hK hD hT hG hS (Option.some.inj h) rfl dX13_chanceBy_102
              · replace h := ite_f c12 h
                refine lv_bipush (v := 100) hx hb dX13_chanceBy_95 rfl ?_
                refine lv_goto (tgt := 102) hx hb dX13_chanceBy_97 rfl ?_
                exact r_iret hx hb hr hlocks hP hK hD hT hG hS (Option.some.inj h) rfl dX13_chanceBy_102
          · replace h := ite_t c9 h
            refine lv_iload hx hb dX13_chanceBy_67 (lv_at hl 2 rfl) ?_
            refine lv_goto (tgt := 86) hx hb dX13_chanceBy_69 rfl ?_
            refine lv_istore (lv' := [(7, .int x3), (6, .int (10 - (gI M b6 (ix x2)))), (5, .int (gI M b3 (ix x1))), (4, .int x3), (0, .ref (ad a0)), (1, .int x1), (2, .int x2), (3, .int x3)]) hx hb dX13_chanceBy_86 hl (by decide) rfl (fun ls hl => ?_)
            refine lv_iload hx hb dX13_chanceBy_88 (lv_at hl 0 rfl) ?_
            refine lv_bipush (v := 100) hx hb dX13_chanceBy_90 rfl ?_
            refine lv_icmp_le (tgt := 100) hx hb dX13_chanceBy_92 rfl (fun c13 => ?_) (fun c13 => ?_)
            · replace h := ite_t c13 h
              refine lv_iload hx hb dX13_chanceBy_100 (lv_at hl 0 rfl) ?_
              exact r_iret hx hb hr hlocks hP hK hD hT hG hS (Option.some.inj h) rfl dX13_chanceBy_102
            · replace h := ite_f c13 h
              refine lv_bipush (v := 100) hx hb dX13_chanceBy_95 rfl ?_
              refine lv_goto (tgt := 102) hx hb dX13_chanceBy_97 rfl ?_
              exact r_iret hx hb hr hlocks hP hK hD hT hG hS (Option.some.inj h) rfl dX13_chanceBy_102
        · replace h := ite_t c8 h
          refine lv_iconst (v := 2) hx hb dX13_chanceBy_42 rfl ?_
          refine lv_iload hx hb dX13_chanceBy_43 (lv_at hl 2 rfl) ?_
          refine lv_imul hx hb dX13_chanceBy_45 ?_
          refine lv_iload hx hb dX13_chanceBy_46 (lv_at hl 0 rfl) ?_
          refine lv_if_le (tgt := 56) hx hb dX13_chanceBy_48 rfl (fun c14 => ?_) (fun c14 => ?_)
          · replace h := ite_t c14 h
            refine lv_iconst (v := 0) hx hb dX13_chanceBy_56 rfl ?_
            refine lv_iadd hx hb dX13_chanceBy_57 ?_
            refine lv_goto (tgt := 86) hx hb dX13_chanceBy_58 rfl ?_
            refine lv_istore (lv' := [(7, .int ((2 * x3) + 0)), (6, .int (10 - (gI M b6 (ix x2)))), (5, .int (gI M b3 (ix x1))), (4, .int x3), (0, .ref (ad a0)), (1, .int x1), (2, .int x2), (3, .int x3)]) hx hb dX13_chanceBy_86 hl (by decide) rfl (fun ls hl => ?_)
            refine lv_iload hx hb dX13_chanceBy_88 (lv_at hl 0 rfl) ?_
            refine lv_bipush (v := 100) hx hb dX13_chanceBy_90 rfl ?_
            refine lv_icmp_le (tgt := 100) hx hb dX13_chanceBy_92 rfl (fun c15 => ?_) (fun c15 => ?_)
            · replace h := ite_t c15 h
              refine lv_iload hx hb dX13_chanceBy_100 (lv_at hl 0 rfl) ?_
              exact r_iret hx hb hr hlocks hP hK hD hT hG hS (Option.some.inj h) rfl dX13_chanceBy_102
            · replace h := ite_f c15 h
              refine lv_bipush (v := 100) hx hb dX13_chanceBy_95 rfl ?_
              refine lv_goto (tgt := 102) hx hb dX13_chanceBy_97 rfl ?_
              exact r_iret hx hb hr hlocks hP hK hD hT hG hS (Option.some.inj h) rfl dX13_chanceBy_102
          · replace h := ite_f c14 h
            refine lv_iload hx hb dX13_chanceBy_51 (lv_at hl 0 rfl) ?_
            refine lv_goto (tgt := 57) hx hb dX13_chanceBy_53 rfl ?_
            refine lv_iadd hx hb dX13_chanceBy_57 ?_
            refine lv_goto (tgt := 86) hx hb dX13_chanceBy_58 rfl ?_
            refine lv_istore (lv' := [(7, .int ((2 * x3) + (10 - (gI M b6 (ix x2))))), (6, .int (10 - (gI M b6 (ix x2)))), (5, .int (gI M b3 (ix x1))), (4, .int x3), (0, .ref (ad a0)), (1, .int x1), (2, .int x2), (3, .int x3)]) hx hb dX13_chanceBy_86 hl (by decide) rfl (fun ls hl => ?_)
            refine lv_iload hx hb dX13_chanceBy_88 (lv_at hl 0 rfl) ?_
            refine lv_bipush (v := 100) hx hb dX13_chanceBy_90 rfl ?_
            refine lv_icmp_le (tgt := 100) hx hb dX13_chanceBy_92 rfl (fun c16 => ?_) (fun c16 => ?_)
            · replace h := ite_t c16 h
              refine lv_iload hx hb dX13_chanceBy_100 (lv_at hl 0 rfl) ?_
              exact r_iret hx hb hr hlocks hP hK hD hT hG hS (Option.some.inj h) rfl dX13_chanceBy_102
            · replace h := ite_f c16 h
              refine lv_bipush (v := 100) hx hb dX13_chanceBy_95 rfl ?_
              refine lv_goto (tgt := 102) hx hb dX13_chanceBy_97 rfl ?_
              exact r_iret hx hb hr hlocks hP hK hD hT hG hS (Option.some.inj h) rfl dX13_chanceBy_102
  · replace h := ite_f c1 h
    refine lv_iload_n hx hb dX13_chanceBy_4 rfl (lv_at hl 3 rfl) ?_
    refine lv_ineg hx hb dX13_chanceBy_5 ?_
    refine lv_goto (tgt := 10) hx hb dX13_chanceBy_6 rfl ?_
    refine lv_istore (lv' := [(4, .int (-x3)), (0, .ref (ad a0)), (1, .int x1), (2, .int x2), (3, .int x3)]) hx hb dX13_chanceBy_10 hl (by decide) rfl (fun ls hl => ?_)
    refine lv_aload_n hx hb dX13_chanceBy_12 rfl (lv_at hl 1 rfl) ?_
    rcases hN17 : gR M a0 3 with _ | b17
    · replace h := oc_n hN17 h
      refine r_get (T := TX13) (v := .null) hx hb hts in13 hown hK hP k0 (by decide) rfl 3 (by decide) (hts (.fieldLink RX13 431 "StoneWalkModel" "island" "LStoneWalkModel$Island;") (List.mem_of_getElem? (i := 1) (by decide +kernel))) rfl (t := 2) rfl (by show va_rf _ = _; rw [hN17]; rfl) dX13_chanceBy_13 ?_
      exact absurd h (by simp)
    · replace h := oc_s hN17 h
      have kb17 := hT.f k0 (k := 3) (t := 12) (n := 0) rfl hN17
      refine r_get (T := TX13) (v := .ref (ad b17)) hx hb hts in13 hown hK hP k0 (by decide) rfl 3 (by decide) (hts (.fieldLink RX13 431 "StoneWalkModel" "island" "LStoneWalkModel$Island;") (List.mem_of_getElem? (i := 1) (by decide +kernel))) rfl (t := 2) rfl (by show va_rf _ = _; rw [hN17]; rfl) dX13_chanceBy_13 ?_
      rcases hN18 : gR M b17 9 with _ | b18
      · exact absurd (oc_n hN18 h) (by simp)
      replace h := oc_s hN18 h
      have kb18 := hT.f kb17 (k := 9) (t := 15) (n := 4) rfl hN18
      refine r_getN (T := TX12) (v := .ref (ad b18)) hx hb hts in12 hown hK hP kb17 (by decide) rfl 9 (by decide) (hG.2.2.1 ("StoneWalkModel", 247, "StoneWalkModel$Island", "kind", "[I", "StoneWalkModel") (List.mem_of_getElem? (i := 8) rfl)) rfl (t := 2) rfl (by show va_rf _ = _; rw [hN18]; rfl) dX13_chanceBy_16 ?_
      refine lv_iload_n hx hb dX13_chanceBy_19 rfl (lv_at hl 2 rfl) ?_
      obtain ⟨hn19, h⟩ := chk_some h
      refine r_iald hx hb hK hP kb18 hn19 dX13_chanceBy_20 ?_
      refine lv_istore (lv' := [(5, .int (gI M b18 (ix x1))), (4, .int (-x3)), (0, .ref (ad a0)), (1, .int x1), (2, .int x2), (3, .int x3)]) hx hb dX13_chanceBy_21 hl (by decide) rfl (fun ls hl => ?_)
      refine lv_bipush (v := 10) hx hb dX13_chanceBy_23 rfl ?_
      refine lv_aload_n hx hb dX13_chanceBy_25 rfl (lv_at hl 2 rfl) ?_
      rcases hN20 : gR M a0 3 with _ | b20
      · replace h := oc_n hN20 h
        refine r_get (T := TX13) (v := .null) hx hb hts in13 hown hK hP k0 (by decide) rfl 3 (by decide) (hts (.fieldLink RX13 431 "StoneWalkModel" "island" "LStoneWalkModel$Island;") (List.mem_of_getElem? (i := 1) (by decide +kernel))) rfl (t := 2) rfl (by show va_rf _ = _; rw [hN20]; rfl) dX13_chanceBy_26 ?_
        exact absurd h (by simp)
      · replace h := oc_s hN20 h
        have kb20 := hT.f k0 (k := 3) (t := 12) (n := 0) rfl hN20
        refine r_get (T := TX13) (v := .ref (ad b20)) hx hb hts in13 hown hK hP k0 (by decide) rfl 3 (by decide) (hts (.fieldLink RX13 431 "StoneWalkModel" "island" "LStoneWalkModel$Island;") (List.mem_of_getElem? (i := 1) (by decide +kernel))) rfl (t := 2) rfl (by show va_rf _ = _; rw [hN20]; rfl) dX13_chanceBy_26 ?_
        rcases hN21 : gR M b20 17 with _ | b21
        · exact absurd (oc_n hN21 h) (by simp)
        replace h := oc_s hN21 h
        have kb21 := hT.f kb20 (k := 17) (t := 15) (n := 10) rfl hN21
        refine r_getN (T := TX12) (v := .ref (ad b21)) hx hb hts in12 hown hK hP kb20 (by decide) rfl 17 (by decide) (hG.2.2.1 ("StoneWalkModel", 305, "StoneWalkModel$Island", "edge", "[I", "StoneWalkModel") (List.mem_of_getElem? (i := 17) rfl)) rfl (t := 2) rfl (by show va_rf _ = _; rw [hN21]; rfl) dX13_chanceBy_29 ?_
        refine lv_iload_n hx hb dX13_chanceBy_32 rfl (lv_at hl 4 rfl) ?_
        obtain ⟨hn22, h⟩ := chk_some h
        refine r_iald hx hb hK hP kb21 hn22 dX13_chanceBy_33 ?_
        refine lv_isub hx hb dX13_chanceBy_34 ?_
        refine lv_istore (lv' := [(6, .int (10 - (gI M b21 (ix x2)))), (5, .int (gI M b18 (ix x1))), (4, .int (-x3)), (0, .ref (ad a0)), (1, .int x1), (2, .int x2), (3, .int x3)]) hx hb dX13_chanceBy_35 hl (by decide) rfl (fun ls hl => ?_)
        refine lv_iload hx hb dX13_chanceBy_37 (lv_at hl 1 rfl) ?_
        refine lv_if_ne (tgt := 61) hx hb dX13_chanceBy_39 rfl (fun c23 => ?_) (fun c23 => ?_)
        · replace h := ite_f c23 h
          refine lv_iload hx hb dX13_chanceBy_61 (lv_at hl 1 rfl) ?_
          refine lv_iconst (v := 1) hx hb dX13_chanceBy_63 rfl ?_
          refine lv_icmp_ne (tgt := 72) hx hb dX13_chanceBy_64 rfl (fun c24 => ?_) (fun c24 => ?_)
          · replace h := ite_f c24 h
            refine lv_iload hx hb dX13_chanceBy_72 (lv_at hl 1 rfl) ?_
            refine lv_iconst (v := 2) hx hb dX13_chanceBy_74 rfl ?_
            refine lv_icmp_ne (tgt := 85) hx hb dX13_chanceBy_75 rfl (fun c25 => ?_) (fun c25 => ?_)
            · replace h := ite_f c25 h
              refine lv_iconst (v := 0) hx hb dX13_chanceBy_85 rfl ?_
              refine lv_istore (lv' := [(7, .int 0), (6, .int (10 - (gI M b21 (ix x2)))), (5, .int (gI M b18 (ix x1))), (4, .int (-x3)), (0, .ref (ad a0)), (1, .int x1), (2, .int x2), (3, .int x3)]) hx hb dX13_chanceBy_86 hl (by decide) rfl (fun ls hl => ?_)
              refine lv_iload hx hb dX13_chanceBy_88 (lv_at hl 0 rfl) ?_
              refine lv_bipush (v := 100) hx hb dX13_chanceBy_90 rfl ?_
              refine lv_icmp_le (tgt := 100) hx hb dX13_chanceBy_92 rfl (fun _ => ?_) (fun c26 => absurd c26 (by decide))
              refine lv_iload hx hb dX13_chanceBy_100 (lv_at hl 0 rfl) ?_
              exact r_iret hx hb hr hlocks hP hK hD hT hG hS (Option.some.inj h) rfl dX13_chanceBy_102
            · replace h := ite_t c25 h
              refine lv_iconst (v := 3) hx hb dX13_chanceBy_78 rfl ?_
              refine lv_iload hx hb dX13_chanceBy_79 (lv_at hl 2 rfl) ?_
              refine lv_imul hx hb dX13_chanceBy_81 ?_
              refine lv_goto (tgt := 86) hx hb dX13_chanceBy_82 rfl ?_
              refine lv_istore (lv' := [(7, .int (3 * (-x3))), (6, .int (10 - (gI M b21 (ix x2)))), (5, .int (gI M b18 (ix x1))), (4, .int (-x3)), (0, .ref (ad a0)), (1, .int x1), (2, .int x2), (3, .int x3)]) hx hb dX13_chanceBy_86 hl (by decide) rfl (fun ls hl => ?_)
              refine lv_iload hx hb dX13_chanceBy_88 (lv_at hl 0 rfl) ?_
              refine lv_bipush (v := 100) hx hb dX13_chanceBy_90 rfl ?_
              refine lv_icmp_le (tgt := 100) hx hb dX13_chanceBy_92 rfl (fun c27 => ?_) (fun c27 => ?_)
              · replace h := ite_t c27 h
                refine lv_iload hx hb dX13_chanceBy_100 (lv_at hl 0 rfl) ?_
                exact r_iret hx hb hr hlocks hP hK hD hT hG hS (Option.some.inj h) rfl dX13_chanceBy_102
              · replace h := ite_f c27 h
                refine lv_bipush (v := 100) hx hb dX13_chanceBy_95 rfl ?_
                refine lv_goto (tgt := 102) hx hb dX13_chanceBy_97 rfl ?_
                exact r_iret hx hb hr hlocks hP hK hD hT hG hS (Option.some.inj h) rfl dX13_chanceBy_102
          · replace h := ite_t c24 h
            refine lv_iload hx hb dX13_chanceBy_67 (lv_at hl 2 rfl) ?_
            refine lv_goto (tgt := 86) hx hb dX13_chanceBy_69 rfl ?_
            refine lv_istore (lv' := [(7, .int (-x3)), (6, .int (10 - (gI M b21 (ix x2)))), (5, .int (gI M b18 (ix x1))), (4, .int (-x3)), (0, .ref (ad a0)), (1, .int x1), (2, .int x2), (3, .int x3)]) hx hb dX13_chanceBy_86 hl (by decide) rfl (fun ls hl => ?_)
            refine lv_iload hx hb dX13_chanceBy_88 (lv_at hl 0 rfl) ?_
            refine lv_bipush (v := 100) hx hb dX13_chanceBy_90 rfl ?_
            refine lv_icmp_le (tgt := 100) hx hb dX13_chanceBy_92 rfl (fun c28 => ?_) (fun c28 => ?_)
            · replace h := ite_t c28 h
              refine lv_iload hx hb dX13_chanceBy_100 (lv_at hl 0 rfl) ?_
              exact r_iret hx hb hr hlocks hP hK hD hT hG hS (Option.some.inj h) rfl dX13_chanceBy_102
            · replace h := ite_f c28 h
              refine lv_bipush (v := 100) hx hb dX13_chanceBy_95 rfl ?_
              refine lv_goto (tgt := 102) hx hb dX13_chanceBy_97 rfl ?_
              exact r_iret hx hb hr hlocks hP hK hD hT hG hS (Option.some.inj h) rfl dX13_chanceBy_102
        · replace h := ite_t c23 h
          refine lv_iconst (v := 2) hx hb dX13_chanceBy_42 rfl ?_
          refine lv_iload hx hb dX13_chanceBy_43 (lv_at hl 2 rfl) ?_
          refine lv_imul hx hb dX13_chanceBy_45 ?_
          refine lv_iload hx hb dX13_chanceBy_46 (lv_at hl 0 rfl) ?_
          refine lv_if_le (tgt := 56) hx hb dX13_chanceBy_48 rfl (fun c29 => ?_) (fun c29 => ?_)
          · replace h := ite_t c29 h
            refine lv_iconst (v := 0) hx hb dX13_chanceBy_56 rfl ?_
            refine lv_iadd hx hb dX13_chanceBy_57 ?_
            refine lv_goto (tgt := 86) hx hb dX13_chanceBy_58 rfl ?_
            refine lv_istore (lv' := [(7, .int ((2 * (-x3)) + 0)), (6, .int (10 - (gI M b21 (ix x2)))), (5, .int (gI M b18 (ix x1))), (4, .int (-x3)), (0, .ref (ad a0)), (1, .int x1), (2, .int x2), (3, .int x3)]) hx hb dX13_chanceBy_86 hl (by decide) rfl (fun ls hl => ?_)
            refine lv_iload hx hb dX13_chanceBy_88 (lv_at hl 0 rfl) ?_
            refine lv_bipush (v := 100) hx hb dX13_chanceBy_90 rfl ?_
            refine lv_icmp_le (tgt := 100) hx hb dX13_chanceBy_92 rfl (fun c30 => ?_) (fun c30 => ?_)
            · replace h := ite_t c30 h
              refine lv_iload hx hb dX13_chanceBy_100 (lv_at hl 0 rfl) ?_
              exact r_iret hx hb hr hlocks hP hK hD hT hG hS (Option.some.inj h) rfl dX13_chanceBy_102
            · replace h := ite_f c30 h
              refine lv_bipush (v := 100) hx hb dX13_chanceBy_95 rfl ?_
              refine lv_goto (tgt := 102) hx hb dX13_chanceBy_97 rfl ?_
              exact r_iret hx hb hr hlocks hP hK hD hT hG hS (Option.some.inj h) rfl dX13_chanceBy_102
          · replace h := ite_f c29 h
            refine lv_iload hx hb dX13_chanceBy_51 (lv_at hl 0 rfl) ?_
            refine lv_goto (tgt := 57) hx hb dX13_chanceBy_53 rfl ?_
            refine lv_iadd hx hb dX13_chanceBy_57 ?_
            refine lv_goto (tgt := 86) hx hb dX13_chanceBy_58 rfl ?_
            refine lv_istore (lv' := [(7, .int ((2 * (-x3)) + (10 - (gI M b21 (ix x2))))), (6, .int (10 - (gI M b21 (ix x2)))), (5, .int (gI M b18 (ix x1))), (4, .int (-x3)), (0, .ref (ad a0)), (1, .int x1), (2, .int x2), (3, .int x3)]) hx hb dX13_chanceBy_86 hl (by decide) rfl (fun ls hl => ?_)
            refine lv_iload hx hb dX13_chanceBy_88 (lv_at hl 0 rfl) ?_
            refine lv_bipush (v := 100) hx hb dX13_chanceBy_90 rfl ?_
            refine lv_icmp_le (tgt := 100) hx hb dX13_chanceBy_92 rfl (fun c31 => ?_) (fun c31 => ?_)
            · replace h := ite_t c31 h
              refine lv_iload hx hb dX13_chanceBy_100 (lv_at hl 0 rfl) ?_
              exact r_iret hx hb hr hlocks hP hK hD hT hG hS (Option.some.inj h) rfl dX13_chanceBy_102
            · replace h := ite_f c31 h
              refine lv_bipush (v := 100) hx hb dX13_chanceBy_95 rfl ?_
              refine lv_goto (tgt := 102) hx hb dX13_chanceBy_97 rfl ?_
              exact r_iret hx hb hr hlocks hP hK hD hT hG hS (Option.some.inj h) rfl dX13_chanceBy_102
set_option maxHeartbeats 4000000 in
set_option maxRecDepth 100000 in
theorem c_X13_chance {l : Launch} {D : va_G} {ad : Nat → Nat} {cy : Nat → ClassId} {A : Nat → Prop} {g : CG} {q : SE} (M : MM) (a0 : Nat) (x1 : Int32) (x2 : Int32) (x3 : Int32) (k0 : ok g a0 13 0) {Z : (Int32 × MM)} (h : f_X13_chance M a0 x1 x2 x3 = some Z) : Met l yX13_chance wsX13_chance ({ frames := 2, cells := 0, slots := 0, locals := 45 }) (va_Pc [.ref (ad a0), .int x1, .int x2, .int x3] (Wd D ad cy A g q M)) (va_Qi (fun r u => r = Z.1 ∧ u = Z.2) (Wd D ad cy A g q) A) 0 0 A := by
  refine Met.ofW (cc := cX13_chance) (maxL := 5) (ret := (some .int)) (by decide) rfl ?_
  intro p e s m args below meth c s₁ B hml hv
  obtain ⟨rfl, hP, hK, hD, hT, hG⟩ := hv
  have hx := B.exec
  have hb := B.bytes
  have hr := B.returns
  have hts := atoms_spec (ws := wsX13_chance) B.pre
  have hown : s.vm.findClass RX13 = some m.cls := findClass_of_methodNamed B.named
  have hlocks := B.notSynchronized
  have in13 : ∀ w ∈ u_ws RX13 TX13 29, w ∈ wsX13_chance := fun w h => List.mem_cons_of_mem _ (List.mem_append_left _ (List.mem_append_right _ h))
  have hS : va_S A s.heap s.heap [] := va_S.rf
  have hl := lv_entry ([.ref (ad a0), .int x1, .int x2, .int x3]) (n := 5) (Nat.le_of_ble_eq_true rfl)
  rw [lg_entry_eq]
  generalize (lg_sl ([.ref (ad a0), .int x1, .int x2, .int x3]) ++ List.replicate (5 - (lg_sl ([.ref (ad a0), .int x1, .int x2, .int x3])).length) Slot.unset).toArray = ls at hl ⊢
  have hl : lv_has ls 5 [(0, .ref (ad a0)), (1, .int x1), (2, .int x2), (3, .int x3)] := hl
  unfold f_X13_chance at h
  refine lv_aload_n hx hb dX13_chance_0 rfl (lv_at hl 0 rfl) ?_
  refine lv_iconst (v := 0) hx hb dX13_chance_1 rfl ?_
  refine r_putI (T := TX13) (ty := .int) (v := 0) hx hb hts in13 tyX13 tyX13_ok nmX13 hown hK hP hD hT hS k0 (by decide) rfl 0 (by decide) (hts (.fieldLink RX13 30 "StoneWalkModel" "thrown" "I") (List.mem_of_getElem? (i := 1) (by decide +kernel))) rfl rfl (tyX13_ok 0 (by decide)) rfl rfl rfl dX13_chance_2 (fun H locs hP hD hT hS => ?_)
  generalize pI M a0 0 0 = Mg1 at h hP hD hT ⊢
  refine lv_aload_n hx hb dX13_chance_5 rfl (lv_at hl 0 rfl) ?_
  refine lv_iload_n hx hb dX13_chance_6 rfl (lv_at hl 1 rfl) ?_
  refine lv_iload_n hx hb dX13_chance_7 rfl (lv_at hl 2 rfl) ?_
  refine lv_iload_n hx hb dX13_chance_8 rfl (lv_at hl 3 rfl) ?_
  obtain ⟨z1, h1, h⟩ := ob_some h
  refine k_i (va_runV (As := [.int x1, .int x2, .int x3]) (rest := []) ⟨hx, hb, hml, hown, hts⟩ (c_X13_refusesSlope (l := l) Mg1 a0 x1 x2 x3 k0 h1) (cwV 3 hts gX13_chance_X13_refusesSlope rfl rfl rfl hdV_X13_refusesSlope ⟨Nat.le_of_ble_eq_true rfl, Nat.le_of_ble_eq_true rfl⟩) (pV (T := TX13) hP hK hD hT hG hS k0 (by decide) rfl) rfl rfl hl.1 rfl (lv_room (Nat.le_of_ble_eq_true rfl)) dX13_chance_9 ⟨Nat.zero_le _, Nat.zero_le _⟩) hS (fun H locs hP hD hT hS => ?_)
  refine lv_istore (lv' := [(4, .int z1), (0, .ref (ad a0)), (1, .int x1), (2, .int x2), (3, .int x3)]) hx hb dX13_chance_12 hl (by decide) rfl (fun ls hl => ?_)
  refine lv_iload hx hb dX13_chance_14 (lv_at hl 0 rfl) ?_
  refine lv_if_le (tgt := 28) hx hb dX13_chance_16 rfl (fun c2 => ?_) (fun c2 => ?_)
  · replace h := ite_t c2 h
    refine lv_aload_n hx hb dX13_chance_28 rfl (lv_at hl 1 rfl) ?_
    refine lv_aload_n hx hb dX13_chance_29 rfl (lv_at hl 1 rfl) ?_
    refine lv_iload_n hx hb dX13_chance_30 rfl (lv_at hl 2 rfl) ?_
    refine lv_iload_n hx hb dX13_chance_31 rfl (lv_at hl 3 rfl) ?_
    refine lv_iload_n hx hb dX13_chance_32 rfl (lv_at hl 4 rfl) ?_
    obtain ⟨z3, h3, h⟩ := ob_some h
    refine k_i (va_runV (As := [.int x1, .int x2, .int x3]) (rest := [.ref (ad a0)]) ⟨hx, hb, hml, hown, hts⟩ (c_X13_chanceBy (l := l) Mg1 a0 x1 x2 x3 k0 h3) (cwV 3 hts gX13_chance_X13_chanceBy rfl rfl rfl hdV_X13_chanceBy ⟨Nat.le_of_ble_eq_true rfl, Nat.le_of_ble_eq_true rfl⟩) (pV (T := TX13) hP hK hD hT hG hS k0 (by decide) rfl) rfl rfl hl.1 rfl (lv_room (Nat.le_of_ble_eq_true rfl)) dX13_chance_33 ⟨Nat.zero_le _, Nat.zero_le _⟩) hS (fun H locs hP hD hT hS => ?_)
    obtain ⟨z4, h4, h⟩ := ob_some h
    refine k_i (va_runV (As := [.int z3]) (rest := []) ⟨hx, hb, hml, hown, hts⟩ (c_X13_done (l := l) Mg1 a0 z3 k0 h4) (cwV 1 hts gX13_chance_X13_done rfl rfl rfl hdV_X13_done ⟨Nat.le_of_ble_eq_true rfl, Nat.le_of_ble_eq_true rfl⟩) (pV (T := TX13) hP hK hD hT hG hS k0 (by decide) rfl) rfl rfl hl.1 rfl (lv_room (Nat.le_of_ble_eq_true rfl)) dX13_chance_36 ⟨Nat.zero_le _, Nat.zero_le _⟩) hS (fun H locs hP hD hT hS => ?_)
    have hZ := Option.some.inj h
    have hZ1 := congrArg Prod.fst hZ
    have hZ2 := congrArg Prod.snd hZ
    exact r_iret hx hb hr hlocks hP hK hD hT hG hS hZ1 hZ2 dX13_chance_39
  · replace h := ite_f c2 h
    refine lv_aload_n hx hb dX13_chance_19 rfl (lv_at hl 1 rfl) ?_
    refine lv_iload hx hb dX13_chance_20 (lv_at hl 0 rfl) ?_
    obtain ⟨z5, h5, h⟩ := ob_some h
    refine k_i (va_runV (As := [.int z1]) (rest := []) ⟨hx, hb, hml, hown, hts⟩ (c_X13_refused (l := l) Mg1 a0 z1 k0 h5) (cwV 1 hts gX13_chance_X13_refused rfl rfl rfl hdV_X13_refused ⟨Nat.le_of_ble_eq_true rfl, Nat.le_of_ble_eq_true rfl⟩) (pV (T := TX13) hP hK hD hT hG hS k0 (by decide) rfl) rfl rfl hl.1 rfl (lv_room (Nat.le_of_ble_eq_true rfl)) dX13_chance_22 ⟨Nat.zero_le _, Nat.zero_le _⟩) hS (fun H locs hP hD hT hS => ?_)
    refine lv_goto (tgt := 39) hx hb dX13_chance_25 rfl ?_
    have hZ := Option.some.inj h
    have hZ1 := congrArg Prod.fst hZ
    have hZ2 := congrArg Prod.snd hZ
    exact r_iret hx hb hr hlocks hP hK hD hT hG hS hZ1 hZ2 dX13_chance_39
set_option maxHeartbeats 4000000 in
set_option maxRecDepth 100000 in
theorem c_X13_tenths {l : Launch} {D : va_G} {ad : Nat → Nat} {cy : Nat → ClassId} {A : Nat → Prop} {g : CG} {q : SE} (M : MM) (a0 : Nat) (x1 : Int32) (x2 : Int32) (x3 : Int32) (k0 : ok g a0 13 0) {Z : Int32} (h : f_X13_tenths M a0 x1 x2 x3 = some Z) : Met l yX13_tenths wsX13_tenths ({ frames := 0, cells := 0, slots := 0, locals := 0 }) (va_Pc [.ref (ad a0), .int x1, .int x2, .int x3] (Wd D ad cy A g q M)) (va_Qi (fun r u => r = Z ∧ u = M) (Wd D ad cy A g q) A) 0 0 A := by
  refine Met.ofW (cc := cX13_tenths) (maxL := 6) (ret := (some .int)) (by decide) rfl ?_
  intro p e s m args below meth c s₁ B hml hv
  obtain ⟨rfl, hP, hK, hD, hT, hG⟩ := hv
  have hx := B.exec
  have hb := B.bytes
  have hr := B.returns
  have hts := atoms_spec (ws := wsX13_tenths) B.pre
  have hown : s.vm.findClass RX13 = some m.cls := findClass_of_methodNamed B.named
  have hlocks := B.notSynchronized
  have in12 : ∀ w ∈ u_ws RX12 TX12 48, w ∈ wsX13_tenths := fun w h => List.mem_cons_of_mem _ (List.mem_append_right _ h)
  have in13 : ∀ w ∈ u_ws RX13 TX13 29, w ∈ wsX13_tenths := fun w h => List.mem_cons_of_mem _ (List.mem_append_left _ (List.mem_append_right _ h))
  have hS : va_S A s.heap s.heap [] := va_S.rf
  have hl := lv_entry ([.ref (ad a0), .int x1, .int x2, .int x3]) (n := 6) (Nat.le_of_ble_eq_true rfl)
  rw [lg_entry_eq]
  generalize (lg_sl ([.ref (ad a0), .int x1, .int x2, .int x3]) ++ List.replicate (6 - (lg_sl ([.ref (ad a0), .int x1, .int x2, .int x3])).length) Slot.unset).toArray = ls at hl ⊢
  have hl : lv_has ls 6 [(0, .ref (ad a0)), (1, .int x1), (2, .int x2), (3, .int x3)] := hl
  unfold f_X13_tenths at h
  refine lv_aload_n hx hb dX13_tenths_0 rfl (lv_at hl 0 rfl) ?_
  rcases hN1 : gR M a0 3 with _ | b1
  · replace h := oc_n hN1 h
    refine r_get (T := TX13) (v := .null) hx hb hts in13 hown hK hP k0 (by decide) rfl 3 (by decide) (hts (.fieldLink RX13 431 "StoneWalkModel" "island" "LStoneWalkModel$Island;") (List.mem_of_getElem? (i := 1) (by decide +kernel))) rfl (t := 2) rfl (by show va_rf _ = _; rw [hN1]; rfl) dX13_tenths_1 ?_
    exact absurd h (by simp)
  · replace h := oc_s hN1 h
    have kb1 := hT.f k0 (k := 3) (t := 12) (n := 0) rfl hN1
    refine r_get (T := TX13) (v := .ref (ad b1)) hx hb hts in13 hown hK hP k0 (by decide) rfl 3 (by decide) (hts (.fieldLink RX13 431 "StoneWalkModel" "island" "LStoneWalkModel$Island;") (List.mem_of_getElem? (i := 1) (by decide +kernel))) rfl (t := 2) rfl (by show va_rf _ = _; rw [hN1]; rfl) dX13_tenths_1 ?_
    rcases hN2 : gR M b1 9 with _ | b2
    · exact absurd (oc_n hN2 h) (by simp)
    replace h := oc_s hN2 h
    have kb2 := hT.f kb1 (k := 9) (t := 15) (n := 4) rfl hN2
    refine r_getN (T := TX12) (v := .ref (ad b2)) hx hb hts in12 hown hK hP kb1 (by decide) rfl 9 (by decide) (hG.2.2.1 ("StoneWalkModel", 247, "StoneWalkModel$Island", "kind", "[I", "StoneWalkModel") (List.mem_of_getElem? (i := 8) rfl)) rfl (t := 2) rfl (by show va_rf _ = _; rw [hN2]; rfl) dX13_tenths_4 ?_
    refine lv_iload_n hx hb dX13_tenths_7 rfl (lv_at hl 1 rfl) ?_
    obtain ⟨hn3, h⟩ := chk_some h
    refine r_iald hx hb hK hP kb2 hn3 dX13_tenths_8 ?_
    by_cases c4_0 : gI M b2 (ix x1) = 0
    · replace h := ite_t c4_0 h
      refine lv_tableIn (tgt := 36) (off := 27) hx hb dX13_tenths_9 (by rw [c4_0]; decide) (by rw [c4_0]; decide) (by rw [c4_0]; decide) rfl ?_
      refine lv_iload_n hx hb dX13_tenths_36 rfl (lv_at hl 2 rfl) ?_
      refine lv_if_ge (tgt := 45) hx hb dX13_tenths_37 rfl (fun c5 => ?_) (fun c5 => ?_)
      · replace h := ite_t c5 h
        refine lv_iload_n hx hb dX13_tenths_45 rfl (lv_at hl 2 rfl) ?_
        refine lv_if_ne (tgt := 53) hx hb dX13_tenths_46 rfl (fun c6 => ?_) (fun c6 => ?_)
        · replace h := ite_f c6 h
          refine lv_iconst (v := 2) hx hb dX13_tenths_53 rfl ?_
          refine lv_istore (lv' := [(4, .int 2), (0, .ref (ad a0)), (1, .int x1), (2, .int x2), (3, .int x3)]) hx hb dX13_tenths_54 hl (by decide) rfl (fun ls hl => ?_)
          refine lv_iload_n hx hb dX13_tenths_56 rfl (lv_at hl 3 rfl) ?_
          refine lv_if_ge (tgt := 64) hx hb dX13_tenths_57 rfl (fun c7 => ?_) (fun c7 => ?_)
          · replace h := ite_t c7 h
            refine lv_iload_n hx hb dX13_tenths_64 rfl (lv_at hl 3 rfl) ?_
            refine lv_if_ne (tgt := 72) hx hb dX13_tenths_65 rfl (fun c8 => ?_) (fun c8 => ?_)
            · replace h := ite_f c8 h
              refine lv_bipush (v := 7) hx hb dX13_tenths_72 rfl ?_
              refine lv_istore (lv' := [(5, .int 7), (4, .int 2), (0, .ref (ad a0)), (1, .int x1), (2, .int x2), (3, .int x3)]) hx hb dX13_tenths_74 hl (by decide) rfl (fun ls hl => ?_)
              refine lv_goto (tgt := 136) hx hb dX13_tenths_76 rfl ?_
              refine lv_iload_n hx hb dX13_tenths_136 rfl (lv_at hl 5 rfl) ?_
              refine lv_if_ne (tgt := 145) hx hb dX13_tenths_137 rfl (fun c9 => ?_) (fun c9 => ?_)
              · replace h := ite_f c9 h
                refine lv_iload_n hx hb dX13_tenths_145 rfl (lv_at hl 5 rfl) ?_
                refine lv_iconst (v := 1) hx hb dX13_tenths_146 rfl ?_
                refine lv_icmp_ne (tgt := 155) hx hb dX13_tenths_147 rfl (fun c10 => ?_) (fun c10 => ?_)
                · replace h := ite_f c10 h
                  refine lv_bipush (v := 10) hx hb dX13_tenths_155 rfl ?_
                  refine lv_iload hx hb dX13_tenths_157 (lv_at hl 1 rfl) ?_
                  refine lv_isub hx hb dX13_tenths_159 ?_
                  refine lv_iload hx hb dX13_tenths_160 (lv_at hl 0 rfl) ?_
                  refine lv_isub hx hb dX13_tenths_162 ?_
                  exact r_iret hx hb hr hlocks hP hK hD hT hG hS (Option.some.inj h) rfl dX13_tenths_163
                · replace h := ite_t c10 h
                  refine lv_iload hx hb dX13_tenths_150 (lv_at hl 0 rfl) ?_
                  refine lv_goto (tgt := 163) hx hb dX13_tenths_152 rfl ?_
                  exact r_iret hx hb hr hlocks hP hK hD hT hG hS (Option.some.inj h) rfl dX13_tenths_163
              · replace h := ite_t c9 h
                refine lv_iload hx hb dX13_tenths_140 (lv_at hl 1 rfl) ?_
                refine lv_goto (tgt := 163) hx hb dX13_tenths_142 rfl ?_
                exact r_iret hx hb hr hlocks hP hK hD hT hG hS (Option.some.inj h) rfl dX13_tenths_163
            · replace h := ite_t c8 h
              refine lv_iconst (v := 4) hx hb dX13_tenths_68 rfl ?_
              refine lv_goto (tgt := 74) hx hb dX13_tenths_69 rfl ?_
              refine lv_istore (lv' := [(5, .int 4), (4, .int 2), (0, .ref (ad a0)), (1, .int x1), (2, .int x2), (3, .int x3)]) hx hb dX13_tenths_74 hl (by decide) rfl (fun ls hl => ?_)
              refine lv_goto (tgt := 136) hx hb dX13_tenths_76 rfl ?_
              refine lv_iload_n hx hb dX13_tenths_136 rfl (lv_at hl 5 rfl) ?_
              refine lv_if_ne (tgt := 145) hx hb dX13_tenths_137 rfl (fun c11 => ?_) (fun c11 => ?_)
              · replace h := ite_f c11 h
                refine lv_iload_n hx hb dX13_tenths_145 rfl (lv_at hl 5 rfl) ?_
                refine lv_iconst (v := 1) hx hb dX13_tenths_146 rfl ?_
                refine lv_icmp_ne (tgt := 155) hx hb dX13_tenths_147 rfl (fun c12 => ?_) (fun c12 => ?_)
                · replace h := ite_f c12 h
                  refine lv_bipush (v := 10) hx hb dX13_tenths_155 rfl ?_
                  refine lv_iload hx hb dX13_tenths_157 (lv_at hl 1 rfl) ?_
                  refine lv_isub hx hb dX13_tenths_159 ?_
                  refine lv_iload hx hb dX13_tenths_160 (lv_at hl 0 rfl) ?_
                  refine lv_isub hx hb dX13_tenths_162 ?_
                  exact r_iret hx hb hr hlocks hP hK hD hT hG hS (Option.some.inj h) rfl dX13_tenths_163
                · replace h := ite_t c12 h
                  refine lv_iload hx hb dX13_tenths_150 (lv_at hl 0 rfl) ?_
                  refine lv_goto (tgt := 163) hx hb dX13_tenths_152 rfl ?_
                  exact r_iret hx hb hr hlocks hP hK hD hT hG hS (Option.some.inj h) rfl dX13_tenths_163
              · replace h := ite_t c11 h
                refine lv_iload hx hb dX13_tenths_140 (lv_at hl 1 rfl) ?_
                refine lv_goto (tgt := 163) hx hb dX13_tenths_142 rfl ?_
                exact r_iret hx hb hr hlocks hP hK hD hT hG hS (Option.some.inj h) rfl dX13_tenths_163
          · replace h := ite_f c7 h
            refine lv_iconst (v := 1) hx hb dX13_tenths_60 rfl ?_
            refine lv_goto (tgt := 74) hx hb dX13_tenths_61 rfl ?_
            refine lv_istore (lv' := [(5, .int 1), (4, .int 2), (0, .ref (ad a0)), (1, .int x1), (2, .int x2), (3, .int x3)]) hx hb dX13_tenths_74 hl (by decide) rfl (fun ls hl => ?_)
            refine lv_goto (tgt := 136) hx hb dX13_tenths_76 rfl ?_
            refine lv_iload_n hx hb dX13_tenths_136 rfl (lv_at hl 5 rfl) ?_
            refine lv_if_ne (tgt := 145) hx hb dX13_tenths_137 rfl (fun c13 => ?_) (fun c13 => ?_)
            · replace h := ite_f c13 h
              refine lv_iload_n hx hb dX13_tenths_145 rfl (lv_at hl 5 rfl) ?_
              refine lv_iconst (v := 1) hx hb dX13_tenths_146 rfl ?_
              refine lv_icmp_ne (tgt := 155) hx hb dX13_tenths_147 rfl (fun c14 => ?_) (fun c14 => ?_)
              · replace h := ite_f c14 h
                refine lv_bipush (v := 10) hx hb dX13_tenths_155 rfl ?_
                refine lv_iload hx hb dX13_tenths_157 (lv_at hl 1 rfl) ?_
                refine lv_isub hx hb dX13_tenths_159 ?_
                refine lv_iload hx hb dX13_tenths_160 (lv_at hl 0 rfl) ?_
                refine lv_isub hx hb dX13_tenths_162 ?_
                exact r_iret hx hb hr hlocks hP hK hD hT hG hS (Option.some.inj h) rfl dX13_tenths_163
              · replace h := ite_t c14 h
                refine lv_iload hx hb dX13_tenths_150 (lv_at hl 0 rfl) ?_
                refine lv_goto (tgt := 163) hx hb dX13_tenths_152 rfl ?_
                exact r_iret hx hb hr hlocks hP hK hD hT hG hS (Option.some.inj h) rfl dX13_tenths_163
            · replace h := ite_t c13 h
              refine lv_iload hx hb dX13_tenths_140 (lv_at hl 1 rfl) ?_
              refine lv_goto (tgt := 163) hx hb dX13_tenths_142 rfl ?_
              exact r_iret hx hb hr hlocks hP hK hD hT hG hS (Option.some.inj h) rfl dX13_tenths_163
        · replace h := ite_t c6 h
          refine lv_iconst (v := 4) hx hb dX13_tenths_49 rfl ?_
          refine lv_goto (tgt := 54) hx hb dX13_tenths_50 rfl ?_
          refine lv_istore (lv' := [(4, .int 4), (0, .ref (ad a0)), (1, .int x1), (2, .int x2), (3, .int x3)]) hx hb dX13_tenths_54 hl (by decide) rfl (fun ls hl => ?_)
          refine lv_iload_n hx hb dX13_tenths_56 rfl (lv_at hl 3 rfl) ?_
          refine lv_if_ge (tgt := 64) hx hb dX13_tenths_57 rfl (fun c15 => ?_) (fun c15 => ?_)
          · replace h := ite_t c15 h
            refine lv_iload_n hx hb dX13_tenths_64 rfl (lv_at hl 3 rfl) ?_
            refine lv_if_ne (tgt := 72) hx hb dX13_tenths_65 rfl (fun c16 => ?_) (fun c16 => ?_)
            · replace h := ite_f c16 h
              refine lv_bipush (v := 7) hx hb dX13_tenths_72 rfl ?_
              refine lv_istore (lv' := [(5, .int 7), (4, .int 4), (0, .ref (ad a0)), (1, .int x1), (2, .int x2), (3, .int x3)]) hx hb dX13_tenths_74 hl (by decide) rfl (fun ls hl => ?_)
              refine lv_goto (tgt := 136) hx hb dX13_tenths_76 rfl ?_
              refine lv_iload_n hx hb dX13_tenths_136 rfl (lv_at hl 5 rfl) ?_
              refine lv_if_ne (tgt := 145) hx hb dX13_tenths_137 rfl (fun c17 => ?_) (fun c17 => ?_)
              · replace h := ite_f c17 h
                refine lv_iload_n hx hb dX13_tenths_145 rfl (lv_at hl 5 rfl) ?_
                refine lv_iconst (v := 1) hx hb dX13_tenths_146 rfl ?_
                refine lv_icmp_ne (tgt := 155) hx hb dX13_tenths_147 rfl (fun c18 => ?_) (fun c18 => ?_)
                · replace h := ite_f c18 h
                  refine lv_bipush (v := 10) hx hb dX13_tenths_155 rfl ?_
                  refine lv_iload hx hb dX13_tenths_157 (lv_at hl 1 rfl) ?_
                  refine lv_isub hx hb dX13_tenths_159 ?_
                  refine lv_iload hx hb dX13_tenths_160 (lv_at hl 0 rfl) ?_
                  refine lv_isub hx hb dX13_tenths_162 ?_
                  exact r_iret hx hb hr hlocks hP hK hD hT hG hS (Option.some.inj h) rfl dX13_tenths_163
                · replace h := ite_t c18 h
                  refine lv_iload hx hb dX13_tenths_150 (lv_at hl 0 rfl) ?_
                  refine lv_goto (tgt := 163) hx hb dX13_tenths_152 rfl ?_
                  exact r_iret hx hb hr hlocks hP hK hD hT hG hS (Option.some.inj h) rfl dX13_tenths_163
              · replace h := ite_t c17 h
                refine lv_iload hx hb dX13_tenths_140 (lv_at hl 1 rfl) ?_
                refine lv_goto (tgt := 163) hx hb dX13_tenths_142 rfl ?_
                exact r_iret hx hb hr hlocks hP hK hD hT hG hS (Option.some.inj h) rfl dX13_tenths_163
            · replace h := ite_t c16 h
              refine lv_iconst (v := 4) hx hb dX13_tenths_68 rfl ?_
              refine lv_goto (tgt := 74) hx hb dX13_tenths_69 rfl ?_
              refine lv_istore (lv' := [(5, .int 4), (4, .int 4), (0, .ref (ad a0)), (1, .int x1), (2, .int x2), (3, .int x3)]) hx hb dX13_tenths_74 hl (by decide) rfl (fun ls hl => ?_)
              refine lv_goto (tgt := 136) hx hb dX13_tenths_76 rfl ?_
              refine lv_iload_n hx hb dX13_tenths_136 rfl (lv_at hl 5 rfl) ?_
              refine lv_if_ne (tgt := 145) hx hb dX13_tenths_137 rfl (fun c19 => ?_) (fun c19 => ?_)
              · replace h := ite_f c19 h
                refine lv_iload_n hx hb dX13_tenths_145 rfl (lv_at hl 5 rfl) ?_
                refine lv_iconst (v := 1) hx hb dX13_tenths_146 rfl ?_
                refine lv_icmp_ne (tgt := 155) hx hb dX13_tenths_147 rfl (fun c20 => ?_) (fun c20 => ?_)
                · replace h := ite_f c20 h
                  refine lv_bipush (v := 10) hx hb dX13_tenths_155 rfl ?_
                  refine lv_iload hx hb dX13_tenths_157 (lv_at hl 1 rfl) ?_
                  refine lv_isub hx hb dX13_tenths_159 ?_
                  refine lv_iload hx hb dX13_tenths_160 (lv_at hl 0 rfl) ?_
                  refine lv_isub hx hb dX13_tenths_162 ?_
                  exact r_iret hx hb hr hlocks hP hK hD hT hG hS (Option.some.inj h) rfl dX13_tenths_163
                · replace h := ite_t c20 h
                  refine lv_iload hx hb dX13_tenths_150 (lv_at hl 0 rfl) ?_
                  refine lv_goto (tgt := 163) hx hb dX13_tenths_152 rfl ?_
                  exact r_iret hx hb hr hlocks hP hK hD hT hG hS (Option.some.inj h) rfl dX13_tenths_163
              · replace h := ite_t c19 h
                refine lv_iload hx hb dX13_tenths_140 (lv_at hl 1 rfl) ?_
                refine lv_goto (tgt := 163) hx hb dX13_tenths_142 rfl ?_
                exact r_iret hx hb hr hlocks hP hK hD hT hG hS (Option.some.inj h) rfl dX13_tenths_163
          · replace h := ite_f c15 h
            refine lv_iconst (v := 1) hx hb dX13_tenths_60 rfl ?_
            refine lv_goto (tgt := 74) hx hb dX13_tenths_61 rfl ?_
            refine lv_istore (lv' := [(5, .int 1), (4, .int 4), (0, .ref (ad a0)), (1, .int x1), (2, .int x2), (3, .int x3)]) hx hb dX13_tenths_74 hl (by decide) rfl (fun ls hl => ?_)
            refine lv_goto (tgt := 136) hx hb dX13_tenths_76 rfl ?_
            refine lv_iload_n hx hb dX13_tenths_136 rfl (lv_at hl 5 rfl) ?_
            refine lv_if_ne (tgt := 145) hx hb dX13_tenths_137 rfl (fun c21 => ?_) (fun c21 => ?_)
            · replace h := ite_f c21 h
              refine lv_iload_n hx hb dX13_tenths_145 rfl (lv_at hl 5 rfl) ?_
              refine lv_iconst (v := 1) hx hb dX13_tenths_146 rfl ?_
              refine lv_icmp_ne (tgt := 155) hx hb dX13_tenths_147 rfl (fun c22 => ?_) (fun c22 => ?_)
              · replace h := ite_f c22 h
                refine lv_bipush (v := 10) hx hb dX13_tenths_155 rfl ?_
                refine lv_iload hx hb dX13_tenths_157 (lv_at hl 1 rfl) ?_
                refine lv_isub hx hb dX13_tenths_159 ?_
                refine lv_iload hx hb dX13_tenths_160 (lv_at hl 0 rfl) ?_
                refine lv_isub hx hb dX13_tenths_162 ?_
                exact r_iret hx hb hr hlocks hP hK hD hT hG hS (Option.some.inj h) rfl dX13_tenths_163
              · replace h := ite_t c22 h
                refine lv_iload hx hb dX13_tenths_150 (lv_at hl 0 rfl) ?_
                refine lv_goto (tgt := 163) hx hb dX13_tenths_152 rfl ?_
                exact r_iret hx hb hr hlocks hP hK hD hT hG hS (Option.some.inj h) rfl dX13_tenths_163
            · replace h := ite_t c21 h
              refine lv_iload hx hb dX13_tenths_140 (lv_at hl 1 rfl) ?_
              refine lv_goto (tgt := 163) hx hb dX13_tenths_142 rfl ?_
              exact r_iret hx hb hr hlocks hP hK hD hT hG hS (Option.some.inj h) rfl dX13_tenths_163
      · replace h := ite_f c5 h
        refine lv_bipush (v := 8) hx hb dX13_tenths_40 rfl ?_
        refine lv_goto (tgt := 54) hx hb dX13_tenths_42 rfl ?_
        refine lv_istore (lv' := [(4, .int 8), (0, .ref (ad a0)), (1, .int x1), (2, .int x2), (3, .int x3)]) hx hb dX13_tenths_54 hl (by decide) rfl (fun ls hl => ?_)
        refine lv_iload_n hx hb dX13_tenths_56 rfl (lv_at hl 3 rfl) ?_
        refine lv_if_ge (tgt := 64) hx hb dX13_tenths_57 rfl (fun c23 => ?_) (fun c23 => ?_)
        · replace h := ite_t c23 h
          refine lv_iload_n hx hb dX13_tenths_64 rfl (lv_at hl 3 rfl) ?_
          refine lv_if_ne (tgt := 72) hx hb dX13_tenths_65 rfl (fun c24 => ?_) (fun c24 => ?_)
          · replace h := ite_f c24 h
            refine lv_bipush (v := 7) hx hb dX13_tenths_72 rfl ?_
            refine lv_istore (lv' := [(5, .int 7), (4, .int 8), (0, .ref (ad a0)), (1, .int x1), (2, .int x2), (3, .int x3)]) hx hb dX13_tenths_74 hl (by decide) rfl (fun ls hl => ?_)
            refine lv_goto (tgt := 136) hx hb dX13_tenths_76 rfl ?_
            refine lv_iload_n hx hb dX13_tenths_136 rfl (lv_at hl 5 rfl) ?_
            refine lv_if_ne (tgt := 145) hx hb dX13_tenths_137 rfl (fun c25 => ?_) (fun c25 => ?_)
            · replace h := ite_f c25 h
              refine lv_iload_n hx hb dX13_tenths_145 rfl (lv_at hl 5 rfl) ?_
              refine lv_iconst (v := 1) hx hb dX13_tenths_146 rfl ?_
              refine lv_icmp_ne (tgt := 155) hx hb dX13_tenths_147 rfl (fun c26 => ?_) (fun c26 => ?_)
              · replace h := ite_f c26 h
                refine lv_bipush (v := 10) hx hb dX13_tenths_155 rfl ?_
                refine lv_iload hx hb dX13_tenths_157 (lv_at hl 1 rfl) ?_
                refine lv_isub hx hb dX13_tenths_159 ?_
                refine lv_iload hx hb dX13_tenths_160 (lv_at hl 0 rfl) ?_
                refine lv_isub hx hb dX13_tenths_162 ?_
                exact r_iret hx hb hr hlocks hP hK hD hT hG hS (Option.some.inj h) rfl dX13_tenths_163
              · replace h := ite_t c26 h
                refine lv_iload hx hb dX13_tenths_150 (lv_at hl 0 rfl) ?_
                refine lv_goto (tgt := 163) hx hb dX13_tenths_152 rfl ?_
                exact r_iret hx hb hr hlocks hP hK hD hT hG hS (Option.some.inj h) rfl dX13_tenths_163
            · replace h := ite_t c25 h
              refine lv_iload hx hb dX13_tenths_140 (lv_at hl 1 rfl) ?_
              refine lv_goto (tgt := 163) hx hb dX13_tenths_142 rfl ?_
              exact r_iret hx hb hr hlocks hP hK hD hT hG hS (Option.some.inj h) rfl dX13_tenths_163
          · replace h := ite_t c24 h
            refine lv_iconst (v := 4) hx hb dX13_tenths_68 rfl ?_
            refine lv_goto (tgt := 74) hx hb dX13_tenths_69 rfl ?_
            refine lv_istore (lv' := [(5, .int 4), (4, .int 8), (0, .ref (ad a0)), (1, .int x1), (2, .int x2), (3, .int x3)]) hx hb dX13_tenths_74 hl (by decide) rfl (fun ls hl => ?_)
            refine lv_goto (tgt := 136) hx hb dX13_tenths_76 rfl ?_
            refine lv_iload_n hx hb dX13_tenths_136 rfl (lv_at hl 5 rfl) ?_
            refine lv_if_ne (tgt := 145) hx hb dX13_tenths_137 rfl (fun c27 => ?_) (fun c27 => ?_)
            · replace h := ite_f c27 h
              refine lv_iload_n hx hb dX13_tenths_145 rfl (lv_at hl 5 rfl) ?_
              refine lv_iconst (v := 1) hx hb dX13_tenths_146 rfl ?_
              refine lv_icmp_ne (tgt := 155) hx hb dX13_tenths_147 rfl (fun c28 => ?_) (fun c28 => ?_)
              · replace h := ite_f c28 h
                refine lv_bipush (v := 10) hx hb dX13_tenths_155 rfl ?_
                refine lv_iload hx hb dX13_tenths_157 (lv_at hl 1 rfl) ?_
                refine lv_isub hx hb dX13_tenths_159 ?_
                refine lv_iload hx hb dX13_tenths_160 (lv_at hl 0 rfl) ?_
                refine lv_isub hx hb dX13_tenths_162 ?_
                exact r_iret hx hb hr hlocks hP hK hD hT hG hS (Option.some.inj h) rfl dX13_tenths_163
              · replace h := ite_t c28 h
                refine lv_iload hx hb dX13_tenths_150 (lv_at hl 0 rfl) ?_
                refine lv_goto (tgt := 163) hx hb dX13_tenths_152 rfl ?_
                exact r_iret hx hb hr hlocks hP hK hD hT hG hS (Option.some.inj h) rfl dX13_tenths_163
            · replace h := ite_t c27 h
              refine lv_iload hx hb dX13_tenths_140 (lv_at hl 1 rfl) ?_
              refine lv_goto (tgt := 163) hx hb dX13_tenths_142 rfl ?_
              exact r_iret hx hb hr hlocks hP hK hD hT hG hS (Option.some.inj h) rfl dX13_tenths_163
        · replace h := ite_f c23 h
          refine lv_iconst (v := 1) hx hb dX13_tenths_60 rfl ?_
          refine lv_goto (tgt := 74) hx hb dX13_tenths_61 rfl ?_
          refine lv_istore (lv' := [(5, .int 1), (4, .int 8), (0, .ref (ad a0)), (1, .int x1), (2, .int x2), (3, .int x3)]) hx hb dX13_tenths_74 hl (by decide) rfl (fun ls hl => ?_)
          refine lv_goto (tgt := 136) hx hb dX13_tenths_76 rfl ?_
          refine lv_iload_n hx hb dX13_tenths_136 rfl (lv_at hl 5 rfl) ?_
          refine lv_if_ne (tgt := 145) hx hb dX13_tenths_137 rfl (fun c29 => ?_) (fun c29 => ?_)
          · replace h := ite_f c29 h
            refine lv_iload_n hx hb dX13_tenths_145 rfl (lv_at hl 5 rfl) ?_
            refine lv_iconst (v := 1) hx hb dX13_tenths_146 rfl ?_
            refine lv_icmp_ne (tgt := 155) hx hb dX13_tenths_147 rfl (fun c30 => ?_) (fun c30 => ?_)
            · replace h := ite_f c30 h
              refine lv_bipush (v := 10) hx hb dX13_tenths_155 rfl ?_
              refine lv_iload hx hb dX13_tenths_157 (lv_at hl 1 rfl) ?_
              refine lv_isub hx hb dX13_tenths_159 ?_
              refine lv_iload hx hb dX13_tenths_160 (lv_at hl 0 rfl) ?_
              refine lv_isub hx hb dX13_tenths_162 ?_
              exact r_iret hx hb hr hlocks hP hK hD hT hG hS (Option.some.inj h) rfl dX13_tenths_163
            · replace h := ite_t c30 h
              refine lv_iload hx hb dX13_tenths_150 (lv_at hl 0 rfl) ?_
              refine lv_goto (tgt := 163) hx hb dX13_tenths_152 rfl ?_
              exact r_iret hx hb hr hlocks hP hK hD hT hG hS (Option.some.inj h) rfl dX13_tenths_163
          · replace h := ite_t c29 h
            refine lv_iload hx hb dX13_tenths_140 (lv_at hl 1 rfl) ?_
            refine lv_goto (tgt := 163) hx hb dX13_tenths_142 rfl ?_
            exact r_iret hx hb hr hlocks hP hK hD hT hG hS (Option.some.inj h) rfl dX13_tenths_163
    · replace h := ite_f c4_0 h
      by_cases c4_1 : gI M b2 (ix x1) = 1
      · replace h := ite_t c4_1 h
        refine lv_tableIn (tgt := 79) (off := 70) hx hb dX13_tenths_9 (by rw [c4_1]; decide) (by rw [c4_1]; decide) (by rw [c4_1]; decide) rfl ?_
        refine lv_iconst (v := 2) hx hb dX13_tenths_79 rfl ?_
        refine lv_istore (lv' := [(4, .int 2), (0, .ref (ad a0)), (1, .int x1), (2, .int x2), (3, .int x3)]) hx hb dX13_tenths_80 hl (by decide) rfl (fun ls hl => ?_)
        refine lv_iconst (v := 2) hx hb dX13_tenths_82 rfl ?_
        refine lv_istore (lv' := [(5, .int 2), (4, .int 2), (0, .ref (ad a0)), (1, .int x1), (2, .int x2), (3, .int x3)]) hx hb dX13_tenths_83 hl (by decide) rfl (fun ls hl => ?_)
        refine lv_goto (tgt := 136) hx hb dX13_tenths_85 rfl ?_
        refine lv_iload_n hx hb dX13_tenths_136 rfl (lv_at hl 5 rfl) ?_
        refine lv_if_ne (tgt := 145) hx hb dX13_tenths_137 rfl (fun c31 => ?_) (fun c31 => ?_)
        · replace h := ite_f c31 h
          refine lv_iload_n hx hb dX13_tenths_145 rfl (lv_at hl 5 rfl) ?_
          refine lv_iconst (v := 1) hx hb dX13_tenths_146 rfl ?_
          refine lv_icmp_ne (tgt := 155) hx hb dX13_tenths_147 rfl (fun c32 => ?_) (fun c32 => ?_)
          · replace h := ite_f c32 h
            refine lv_bipush (v := 10) hx hb dX13_tenths_155 rfl ?_
            refine lv_iload hx hb dX13_tenths_157 (lv_at hl 1 rfl) ?_
            refine lv_isub hx hb dX13_tenths_159 ?_
            refine lv_iload hx hb dX13_tenths_160 (lv_at hl 0 rfl) ?_
            refine lv_isub hx hb dX13_tenths_162 ?_
            exact r_iret hx hb hr hlocks hP hK hD hT hG hS (Option.some.inj h) rfl dX13_tenths_163
          · replace h := ite_t c32 h
            refine lv_iload hx hb dX13_tenths_150 (lv_at hl 0 rfl) ?_
            refine lv_goto (tgt := 163) hx hb dX13_tenths_152 rfl ?_
            exact r_iret hx hb hr hlocks hP hK hD hT hG hS (Option.some.inj h) rfl dX13_tenths_163
        · replace h := ite_t c31 h
          refine lv_iload hx hb dX13_tenths_140 (lv_at hl 1 rfl) ?_
          refine lv_goto (tgt := 163) hx hb dX13_tenths_142 rfl ?_
          exact r_iret hx hb hr hlocks hP hK hD hT hG hS (Option.some.inj h) rfl dX13_tenths_163
      · replace h := ite_f c4_1 h
        by_cases c4_2 : gI M b2 (ix x1) = 2
        · replace h := ite_t c4_2 h
          refine lv_tableIn (tgt := 88) (off := 79) hx hb dX13_tenths_9 (by rw [c4_2]; decide) (by rw [c4_2]; decide) (by rw [c4_2]; decide) rfl ?_
          refine lv_iload_n hx hb dX13_tenths_88 rfl (lv_at hl 2 rfl) ?_
          refine lv_if_ge (tgt := 96) hx hb dX13_tenths_89 rfl (fun c33 => ?_) (fun c33 => ?_)
          · replace h := ite_t c33 h
            refine lv_iconst (v := 2) hx hb dX13_tenths_96 rfl ?_
            refine lv_istore (lv' := [(4, .int 2), (0, .ref (ad a0)), (1, .int x1), (2, .int x2), (3, .int x3)]) hx hb dX13_tenths_97 hl (by decide) rfl (fun ls hl => ?_)
            refine lv_iload_n hx hb dX13_tenths_99 rfl (lv_at hl 3 rfl) ?_
            refine lv_if_ge (tgt := 107) hx hb dX13_tenths_100 rfl (fun c34 => ?_) (fun c34 => ?_)
            · replace h := ite_t c34 h
              refine lv_iconst (v := 3) hx hb dX13_tenths_107 rfl ?_
              refine lv_istore (lv' := [(5, .int 3), (4, .int 2), (0, .ref (ad a0)), (1, .int x1), (2, .int x2), (3, .int x3)]) hx hb dX13_tenths_108 hl (by decide) rfl (fun ls hl => ?_)
              refine lv_goto (tgt := 136) hx hb dX13_tenths_110 rfl ?_
              refine lv_iload_n hx hb dX13_tenths_136 rfl (lv_at hl 5 rfl) ?_
              refine lv_if_ne (tgt := 145) hx hb dX13_tenths_137 rfl (fun c35 => ?_) (fun c35 => ?_)
              · replace h := ite_f c35 h
                refine lv_iload_n hx hb dX13_tenths_145 rfl (lv_at hl 5 rfl) ?_
                refine lv_iconst (v := 1) hx hb dX13_tenths_146 rfl ?_
                refine lv_icmp_ne (tgt := 155) hx hb dX13_tenths_147 rfl (fun c36 => ?_) (fun c36 => ?_)
                · replace h := ite_f c36 h
                  refine lv_bipush (v := 10) hx hb dX13_tenths_155 rfl ?_
                  refine lv_iload hx hb dX13_tenths_157 (lv_at hl 1 rfl) ?_
                  refine lv_isub hx hb dX13_tenths_159 ?_
                  refine lv_iload hx hb dX13_tenths_160 (lv_at hl 0 rfl) ?_
                  refine lv_isub hx hb dX13_tenths_162 ?_
                  exact r_iret hx hb hr hlocks hP hK hD hT hG hS (Option.some.inj h) rfl dX13_tenths_163
                · replace h := ite_t c36 h
                  refine lv_iload hx hb dX13_tenths_150 (lv_at hl 0 rfl) ?_
                  refine lv_goto (tgt := 163) hx hb dX13_tenths_152 rfl ?_
                  exact r_iret hx hb hr hlocks hP hK hD hT hG hS (Option.some.inj h) rfl dX13_tenths_163
              · replace h := ite_t c35 h
                refine lv_iload hx hb dX13_tenths_140 (lv_at hl 1 rfl) ?_
                refine lv_goto (tgt := 163) hx hb dX13_tenths_142 rfl ?_
                exact r_iret hx hb hr hlocks hP hK hD hT hG hS (Option.some.inj h) rfl dX13_tenths_163
            · replace h := ite_f c34 h
              refine lv_iconst (v := 2) hx hb dX13_tenths_103 rfl ?_
              refine lv_goto (tgt := 108) hx hb dX13_tenths_104 rfl ?_
              refine lv_istore (lv' := [(5, .int 2), (4, .int 2), (0, .ref (ad a0)), (1, .int x1), (2, .int x2), (3, .int x3)]) hx hb dX13_tenths_108 hl (by decide) rfl (fun ls hl => ?_)
              refine lv_goto (tgt := 136) hx hb dX13_tenths_110 rfl ?_
              refine lv_iload_n hx hb dX13_tenths_136 rfl (lv_at hl 5 rfl) ?_
              refine lv_if_ne (tgt := 145) hx hb dX13_tenths_137 rfl (fun c37 => ?_) (fun c37 => ?_)
              · replace h := ite_f c37 h
                refine lv_iload_n hx hb dX13_tenths_145 rfl (lv_at hl 5 rfl) ?_
                refine lv_iconst (v := 1) hx hb dX13_tenths_146 rfl ?_
                refine lv_icmp_ne (tgt := 155) hx hb dX13_tenths_147 rfl (fun c38 => ?_) (fun c38 => ?_)
                · replace h := ite_f c38 h
                  refine lv_bipush (v := 10) hx hb dX13_tenths_155 rfl ?_
                  refine lv_iload hx hb dX13_tenths_157 (lv_at hl 1 rfl) ?_
                  refine lv_isub hx hb dX13_tenths_159 ?_
                  refine lv_iload hx hb dX13_tenths_160 (lv_at hl 0 rfl) ?_
                  refine lv_isub hx hb dX13_tenths_162 ?_
                  exact r_iret hx hb hr hlocks hP hK hD hT hG hS (Option.some.inj h) rfl dX13_tenths_163
                · replace h := ite_t c38 h
                  refine lv_iload hx hb dX13_tenths_150 (lv_at hl 0 rfl) ?_
                  refine lv_goto (tgt := 163) hx hb dX13_tenths_152 rfl ?_
                  exact r_iret hx hb hr hlocks hP hK hD hT hG hS (Option.some.inj h) rfl dX13_tenths_163
              · replace h := ite_t c37 h
                refine lv_iload hx hb dX13_tenths_140 (lv_at hl 1 rfl) ?_
                refine lv_goto (tgt := 163) hx hb dX13_tenths_142 rfl ?_
                exact r_iret hx hb hr hlocks hP hK hD hT hG hS (Option.some.inj h) rfl dX13_tenths_163
          · replace h := ite_f c33 h
            refine lv_iconst (v := 3) hx hb dX13_tenths_92 rfl ?_
            refine lv_goto (tgt := 97) hx hb dX13_tenths_93 rfl ?_
            refine lv_istore (lv' := [(4, .int 3), (0, .ref (ad a0)), (1, .int x1), (2, .int x2), (3, .int x3)]) hx hb dX13_tenths_97 hl (by decide) rfl (fun ls hl => ?_)
            refine lv_iload_n hx hb dX13_tenths_99 rfl (lv_at hl 3 rfl) ?_
            refine lv_if_ge (tgt := 107) hx hb dX13_tenths_100 rfl (fun c39 => ?_) (fun c39 => ?_)
            · replace h := ite_t c39 h
              refine lv_iconst (v := 3) hx hb dX13_tenths_107 rfl ?_
              refine lv_istore (lv' := [(5, .int 3), (4, .int 3), (0, .ref (ad a0)), (1, .int x1), (2, .int x2), (3, .int x3)]) hx hb dX13_tenths_108 hl (by decide) rfl (fun ls hl => ?_)
              refine lv_goto (tgt := 136) hx hb dX13_tenths_110 rfl ?_
              refine lv_iload_n hx hb dX13_tenths_136 rfl (lv_at hl 5 rfl) ?_
              refine lv_if_ne (tgt := 145) hx hb dX13_tenths_137 rfl (fun c40 => ?_) (fun c40 => ?_)
              · replace h := ite_f c40 h
                refine lv_iload_n hx hb dX13_tenths_145 rfl (lv_at hl 5 rfl) ?_
                refine lv_iconst (v := 1) hx hb dX13_tenths_146 rfl ?_
                refine lv_icmp_ne (tgt := 155) hx hb dX13_tenths_147 rfl (fun c41 => ?_) (fun c41 => ?_)
                · replace h := ite_f c41 h
                  refine lv_bipush (v := 10) hx hb dX13_tenths_155 rfl ?_
                  refine lv_iload hx hb dX13_tenths_157 (lv_at hl 1 rfl) ?_
                  refine lv_isub hx hb dX13_tenths_159 ?_
                  refine lv_iload hx hb dX13_tenths_160 (lv_at hl 0 rfl) ?_
                  refine lv_isub hx hb dX13_tenths_162 ?_
                  exact r_iret hx hb hr hlocks hP hK hD hT hG hS (Option.some.inj h) rfl dX13_tenths_163
                · replace h := ite_t c41 h
                  refine lv_iload hx hb dX13_tenths_150 (lv_at hl 0 rfl) ?_
                  refine lv_goto (tgt := 163) hx hb dX13_tenths_152 rfl ?_
                  exact r_iret hx hb hr hlocks hP hK hD hT hG hS (Option.some.inj h) rfl dX13_tenths_163
              · replace h := ite_t c40 h
                refine lv_iload hx hb dX13_tenths_140 (lv_at hl 1 rfl) ?_
                refine lv_goto (tgt := 163) hx hb dX13_tenths_142 rfl ?_
                exact r_iret hx hb hr hlocks hP hK hD hT hG hS (Option.some.inj h) rfl dX13_tenths_163
            · replace h := ite_f c39 h
              refine lv_iconst (v := 2) hx hb dX13_tenths_103 rfl ?_
              refine lv_goto (tgt := 108) hx hb dX13_tenths_104 rfl ?_
              refine lv_istore (lv' := [(5, .int 2), (4, .int 3), (0, .ref (ad a0)), (1, .int x1), (2, .int x2), (3, .int x3)]) hx hb dX13_tenths_108 hl (by decide) rfl (fun ls hl => ?_)
              refine lv_goto (tgt := 136) hx hb dX13_tenths_110 rfl ?_
              refine lv_iload_n hx hb dX13_tenths_136 rfl (lv_at hl 5 rfl) ?_
              refine lv_if_ne (tgt := 145) hx hb dX13_tenths_137 rfl (fun c42 => ?_) (fun c42 => ?_)
              · replace h := ite_f c42 h
                refine lv_iload_n hx hb dX13_tenths_145 rfl (lv_at hl 5 rfl) ?_
                refine lv_iconst (v := 1) hx hb dX13_tenths_146 rfl ?_
                refine lv_icmp_ne (tgt := 155) hx hb dX13_tenths_147 rfl (fun c43 => ?_) (fun c43 => ?_)
                · replace h := ite_f c43 h
                  refine lv_bipush (v := 10) hx hb dX13_tenths_155 rfl ?_
                  refine lv_iload hx hb dX13_tenths_157 (lv_at hl 1 rfl) ?_
                  refine lv_isub hx hb dX13_tenths_159 ?_
                  refine lv_iload hx hb dX13_tenths_160 (lv_at hl 0 rfl) ?_
                  refine lv_isub hx hb dX13_tenths_162 ?_
                  exact r_iret hx hb hr hlocks hP hK hD hT hG hS (Option.some.inj h) rfl dX13_tenths_163
                · replace h := ite_t c43 h
                  refine lv_iload hx hb dX13_tenths_150 (lv_at hl 0 rfl) ?_
                  refine lv_goto (tgt := 163) hx hb dX13_tenths_152 rfl ?_
                  exact r_iret hx hb hr hlocks hP hK hD hT hG hS (Option.some.inj h) rfl dX13_tenths_163
              · replace h := ite_t c42 h
                refine lv_iload hx hb dX13_tenths_140 (lv_at hl 1 rfl) ?_
                refine lv_goto (tgt := 163) hx hb dX13_tenths_142 rfl ?_
                exact r_iret hx hb hr hlocks hP hK hD hT hG hS (Option.some.inj h) rfl dX13_tenths_163
        · replace h := ite_f c4_2 h
          refine lv_tableOut (tgt := 113) hx hb dX13_tenths_9 (by
              have e0 := lv_neT (a := 0) c4_0 rfl
              have e1 := lv_neT (a := 1) c4_1 rfl
              have e2 := lv_neT (a := 2) c4_2 rfl
              omega) rfl ?_
          refine lv_iload_n hx hb dX13_tenths_113 rfl (lv_at hl 2 rfl) ?_
          refine lv_if_ge (tgt := 122) hx hb dX13_tenths_114 rfl (fun c44 => ?_) (fun c44 => ?_)
          · replace h := ite_t c44 h
            refine lv_iconst (v := 5) hx hb dX13_tenths_122 rfl ?_
            refine lv_istore (lv' := [(4, .int 5), (0, .ref (ad a0)), (1, .int x1), (2, .int x2), (3, .int x3)]) hx hb dX13_tenths_123 hl (by decide) rfl (fun ls hl => ?_)
            refine lv_iload_n hx hb dX13_tenths_125 rfl (lv_at hl 3 rfl) ?_
            refine lv_if_ge (tgt := 133) hx hb dX13_tenths_126 rfl (fun c45 => ?_) (fun c45 => ?_)
            · replace h := ite_t c45 h
              refine lv_iconst (v := 4) hx hb dX13_tenths_133 rfl ?_
              refine lv_istore (lv' := [(5, .int 4), (4, .int 5), (0, .ref (ad a0)), (1, .int x1), (2, .int x2), (3, .int x3)]) hx hb dX13_tenths_134 hl (by decide) rfl (fun ls hl => ?_)
              refine lv_iload_n hx hb dX13_tenths_136 rfl (lv_at hl 5 rfl) ?_
              refine lv_if_ne (tgt := 145) hx hb dX13_tenths_137 rfl (fun c46 => ?_) (fun c46 => ?_)
              · replace h := ite_f c46 h
                refine lv_iload_n hx hb dX13_tenths_145 rfl (lv_at hl 5 rfl) ?_
                refine lv_iconst (v := 1) hx hb dX13_tenths_146 rfl ?_
                refine lv_icmp_ne (tgt := 155) hx hb dX13_tenths_147 rfl (fun c47 => ?_) (fun c47 => ?_)
                · replace h := ite_f c47 h
                  refine lv_bipush (v := 10) hx hb dX13_tenths_155 rfl ?_
                  refine lv_iload hx hb dX13_tenths_157 (lv_at hl 1 rfl) ?_
                  refine lv_isub hx hb dX13_tenths_159 ?_
                  refine lv_iload hx hb dX13_tenths_160 (lv_at hl 0 rfl) ?_
                  refine lv_isub hx hb dX13_tenths_162 ?_
                  exact r_iret hx hb hr hlocks hP hK hD hT hG hS (Option.some.inj h) rfl dX13_tenths_163
                · replace h := ite_t c47 h
                  refine lv_iload hx hb dX13_tenths_150 (lv_at hl 0 rfl) ?_
                  refine lv_goto (tgt := 163) hx hb dX13_tenths_152 rfl ?_
                  exact r_iret hx hb hr hlocks hP hK hD hT hG hS (Option.some.inj h) rfl dX13_tenths_163
              · replace h := ite_t c46 h
                refine lv_iload hx hb dX13_tenths_140 (lv_at hl 1 rfl) ?_
                refine lv_goto (tgt := 163) hx hb dX13_tenths_142 rfl ?_
                exact r_iret hx hb hr hlocks hP hK hD hT hG hS (Option.some.inj h) rfl dX13_tenths_163
            · replace h := ite_f c45 h
              refine lv_iconst (v := 3) hx hb dX13_tenths_129 rfl ?_
              refine lv_goto (tgt := 134) hx hb dX13_tenths_130 rfl ?_
              refine lv_istore (lv' := [(5, .int 3), (4, .int 5), (0, .ref (ad a0)), (1, .int x1), (2, .int x2), (3, .int x3)]) hx hb dX13_tenths_134 hl (by decide) rfl (fun ls hl => ?_)
              refine lv_iload_n hx hb dX13_tenths_136 rfl (lv_at hl 5 rfl) ?_
              refine lv_if_ne (tgt := 145) hx hb dX13_tenths_137 rfl (fun c48 => ?_) (fun c48 => ?_)
              · replace h := ite_f c48 h
                refine lv_iload_n hx hb dX13_tenths_145 rfl (lv_at hl 5 rfl) ?_
                refine lv_iconst (v := 1) hx hb dX13_tenths_146 rfl ?_
                refine lv_icmp_ne (tgt := 155) hx hb dX13_tenths_147 rfl (fun c49 => ?_) (fun c49 => ?_)
                · replace h := ite_f c49 h
                  refine lv_bipush (v := 10) hx hb dX13_tenths_155 rfl ?_
                  refine lv_iload hx hb dX13_tenths_157 (lv_at hl 1 rfl) ?_
                  refine lv_isub hx hb dX13_tenths_159 ?_
                  refine lv_iload hx hb dX13_tenths_160 (lv_at hl 0 rfl) ?_
                  refine lv_isub hx hb dX13_tenths_162 ?_
                  exact r_iret hx hb hr hlocks hP hK hD hT hG hS (Option.some.inj h) rfl dX13_tenths_163
                · replace h := ite_t c49 h
                  refine lv_iload hx hb dX13_tenths_150 (lv_at hl 0 rfl) ?_
                  refine lv_goto (tgt := 163) hx hb dX13_tenths_152 rfl ?_
                  exact r_iret hx hb hr hlocks hP hK hD hT hG hS (Option.some.inj h) rfl dX13_tenths_163
              · replace h := ite_t c48 h
                refine lv_iload hx hb dX13_tenths_140 (lv_at hl 1 rfl) ?_
                refine lv_goto (tgt := 163) hx hb dX13_tenths_142 rfl ?_
                exact r_iret hx hb hr hlocks hP hK hD hT hG hS (Option.some.inj h) rfl dX13_tenths_163
          · replace h := ite_f c44 h
            refine lv_bipush (v := 6) hx hb dX13_tenths_117 rfl ?_
            refine lv_goto (tgt := 123) hx hb dX13_tenths_119 rfl ?_
            refine lv_istore (lv' := [(4, .int 6), (0, .ref (ad a0)), (1, .int x1), (2, .int x2), (3, .int x3)]) hx hb dX13_tenths_123 hl (by decide) rfl (fun ls hl => ?_)
            refine lv_iload_n hx hb dX13_tenths_125 rfl (lv_at hl 3 rfl) ?_
            refine lv_if_ge (tgt := 133) hx hb dX13_tenths_126 rfl (fun c50 => ?_) (fun c50 => ?_)
            · replace h := ite_t c50 h
              refine lv_iconst (v := 4) hx hb dX13_tenths_133 rfl ?_
              refine lv_istore (lv' := [(5, .int 4), (4, .int 6), (0, .ref (ad a0)), (1, .int x1), (2, .int x2), (3, .int x3)]) hx hb dX13_tenths_134 hl (by decide) rfl (fun ls hl => ?_)
              refine lv_iload_n hx hb dX13_tenths_136 rfl (lv_at hl 5 rfl) ?_
              refine lv_if_ne (tgt := 145) hx hb dX13_tenths_137 rfl (fun c51 => ?_) (fun c51 => ?_)
              · replace h := ite_f c51 h
                refine lv_iload_n hx hb dX13_tenths_145 rfl (lv_at hl 5 rfl) ?_
                refine lv_iconst (v := 1) hx hb dX13_tenths_146 rfl ?_
                refine lv_icmp_ne (tgt := 155) hx hb dX13_tenths_147 rfl (fun c52 => ?_) (fun c52 => ?_)
                · replace h := ite_f c52 h
                  refine lv_bipush (v := 10) hx hb dX13_tenths_155 rfl ?_
                  refine lv_iload hx hb dX13_tenths_157 (lv_at hl 1 rfl) ?_
                  refine lv_isub hx hb dX13_tenths_159 ?_
                  refine lv_iload hx hb dX13_tenths_160 (lv_at hl 0 rfl) ?_
                  refine lv_isub hx hb dX13_tenths_162 ?_
                  exact r_iret hx hb hr hlocks hP hK hD hT hG hS (Option.some.inj h) rfl dX13_tenths_163
                · replace h := ite_t c52 h
                  refine lv_iload hx hb dX13_tenths_150 (lv_at hl 0 rfl) ?_
                  refine lv_goto (tgt := 163) hx hb dX13_tenths_152 rfl ?_
                  exact r_iret hx hb hr hlocks hP hK hD hT hG hS (Option.some.inj h) rfl dX13_tenths_163
              · replace h := ite_t c51 h
                refine lv_iload hx hb dX13_tenths_140 (lv_at hl 1 rfl) ?_
                refine lv_goto (tgt := 163) hx hb dX13_tenths_142 rfl ?_
                exact r_iret hx hb hr hlocks hP hK hD hT hG hS (Option.some.inj h) rfl dX13_tenths_163
            · replace h := ite_f c50 h
              refine lv_iconst (v := 3) hx hb dX13_tenths_129 rfl ?_
              refine lv_goto (tgt := 134) hx hb dX13_tenths_130 rfl ?_
              refine lv_istore (lv' := [(5, .int 3), (4, .int 6), (0, .ref (ad a0)), (1, .int x1), (2, .int x2), (3, .int x3)]) hx hb dX13_tenths_134 hl (by decide) rfl (fun ls hl => ?_)
              refine lv_iload_n hx hb dX13_tenths_136 rfl (lv_at hl 5 rfl) ?_
              refine lv_if_ne (tgt := 145) hx hb dX13_tenths_137 rfl (fun c53 => ?_) (fun c53 => ?_)
              · replace h := ite_f c53 h
                refine lv_iload_n hx hb dX13_tenths_145 rfl (lv_at hl 5 rfl) ?_
                refine lv_iconst (v := 1) hx hb dX13_tenths_146 rfl ?_
                refine lv_icmp_ne (tgt := 155) hx hb dX13_tenths_147 rfl (fun c54 => ?_) (fun c54 => ?_)
                · replace h := ite_f c54 h
                  refine lv_bipush (v := 10) hx hb dX13_tenths_155 rfl ?_
                  refine lv_iload hx hb dX13_tenths_157 (lv_at hl 1 rfl) ?_
                  refine lv_isub hx hb dX13_tenths_159 ?_
                  refine lv_iload hx hb dX13_tenths_160 (lv_at hl 0 rfl) ?_
                  refine lv_isub hx hb dX13_tenths_162 ?_
                  exact r_iret hx hb hr hlocks hP hK hD hT hG hS (Option.some.inj h) rfl dX13_tenths_163
                · replace h := ite_t c54 h
                  refine lv_iload hx hb dX13_tenths_150 (lv_at hl 0 rfl) ?_
                  refine lv_goto (tgt := 163) hx hb dX13_tenths_152 rfl ?_
                  exact r_iret hx hb hr hlocks hP hK hD hT hG hS (Option.some.inj h) rfl dX13_tenths_163
              · replace h := ite_t c53 h
                refine lv_iload hx hb dX13_tenths_140 (lv_at hl 1 rfl) ?_
                refine lv_goto (tgt := 163) hx hb dX13_tenths_142 rfl ?_
                exact r_iret hx hb hr hlocks hP hK hD hT hG hS (Option.some.inj h) rfl dX13_tenths_163
