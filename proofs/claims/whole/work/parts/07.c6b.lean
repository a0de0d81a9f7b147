set_option maxHeartbeats 4000000 in
set_option maxRecDepth 100000 in
theorem c_X13_toldOf {l : Launch} {D : va_G} {ad : Nat → Nat} {cy : Nat → ClassId} {A : Nat → Prop} {g : CG} {q : SE} (M : MM) (a0 : Nat) (x1 : Int32) (x2 : Int32) (k0 : ok g a0 13 0) {Z : Int32} (h : f_X13_toldOf M a0 x1 x2 = some Z) : Met l yX13_toldOf wsX13_toldOf ({ frames := 0, cells := 0, slots := 0, locals := 0 }) (va_Pc [.ref (ad a0), .int x1, .int x2] (Wd D ad cy A g q M)) (va_Qi (fun r u => r = Z ∧ u = M) (Wd D ad cy A g q) A) 0 0 A := by
  refine Met.ofW (cc := cX13_toldOf) (maxL := 3) (ret := (some .int)) (by decide) rfl ?_
  intro p e s m args below meth c s₁ B hml hv
  obtain ⟨rfl, hP, hK, hD, hT, hG⟩ := hv
  have hx := B.exec
  have hb := B.bytes
  have hr := B.returns
  have hts := atoms_spec (ws := wsX13_toldOf) B.pre
  have hown : s.vm.findClass RX13 = some m.cls := findClass_of_methodNamed B.named
  have hlocks := B.notSynchronized
  have in12 : ∀ w ∈ u_ws RX12 TX12 48, w ∈ wsX13_toldOf := fun w h => List.mem_cons_of_mem _ (List.mem_append_right _ h)
  have in13 : ∀ w ∈ u_ws RX13 TX13 29, w ∈ wsX13_toldOf := fun w h => List.mem_cons_of_mem _ (List.mem_append_left _ (List.mem_append_right _ h))
  have hS : va_S A s.heap s.heap [] := va_S.rf
  have hl := lv_entry ([.ref (ad a0), .int x1, .int x2]) (n := 3) (Nat.le_of_ble_eq_true rfl)
  rw [lg_entry_eq]
  generalize (lg_sl ([.ref (ad a0), .int x1, .int x2]) ++ List.replicate (3 - (lg_sl ([.ref (ad a0), .int x1, .int x2])).length) Slot.unset).toArray = ls at hl ⊢
  have hl : lv_has ls 3 [(0, .ref (ad a0)), (1, .int x1), (2, .int x2)] := hl
  unfold f_X13_toldOf at h
  refine lv_aload_n hx hb dX13_toldOf_0 rfl (lv_at hl 0 rfl) ?_
  rcases hN1 : gR M a0 3 with _ | b1
  · replace h := oc_n hN1 h
    refine r_get (T := TX13) (v := .null) hx hb hts in13 hown hK hP k0 (by decide) rfl 3 (by decide) (hts (.fieldLink RX13 431 "StoneWalkModel" "island" "LStoneWalkModel$Island;") (List.mem_of_getElem? (i := 1) (by decide +kernel))) rfl (t := 2) rfl (by show va_rf _ = _; rw [hN1]; rfl) dX13_toldOf_1 ?_
    exact absurd h (by simp)
  · replace h := oc_s hN1 h
    have kb1 := hT.f k0 (k := 3) (t := 12) (n := 0) rfl hN1
    refine r_get (T := TX13) (v := .ref (ad b1)) hx hb hts in13 hown hK hP k0 (by decide) rfl 3 (by decide) (hts (.fieldLink RX13 431 "StoneWalkModel" "island" "LStoneWalkModel$Island;") (List.mem_of_getElem? (i := 1) (by decide +kernel))) rfl (t := 2) rfl (by show va_rf _ = _; rw [hN1]; rfl) dX13_toldOf_1 ?_
    rcases hN2 : gR M b1 44 with _ | b2
    · exact absurd (oc_n hN2 h) (by simp)
    replace h := oc_s hN2 h
    have kb2 := hT.f kb1 (k := 44) (t := 17) (n := 3) rfl hN2
    refine r_getN (T := TX12) (v := .ref (ad b2)) hx hb hts in12 hown hK hP kb1 (by decide) rfl 44 (by decide) (hG.2.2.1 ("StoneWalkModel", 405, "StoneWalkModel$Island", "isStranger", "[Z", "StoneWalkModel") (List.mem_of_getElem? (i := 43) rfl)) rfl (t := 2) rfl (by show va_rf _ = _; rw [hN2]; rfl) dX13_toldOf_4 ?_
    refine lv_iload_n hx hb dX13_toldOf_7 rfl (lv_at hl 2 rfl) ?_
    obtain ⟨hn3, h⟩ := chk_some h
    refine r_zald hx hb hK hP kb2 hn3 dX13_toldOf_8 ?_
    refine lv_if_eq (tgt := 16) hx hb dX13_toldOf_9 rfl (fun c4 => ?_) (fun c4 => ?_)
    · replace h := ite_t c4 h
      refine lv_aload_n hx hb dX13_toldOf_16 rfl (lv_at hl 0 rfl) ?_
      rcases hN5 : gR M a0 3 with _ | b5
      · replace h := oc_n hN5 h
        refine r_get (T := TX13) (v := .null) hx hb hts in13 hown hK hP k0 (by decide) rfl 3 (by decide) (hts (.fieldLink RX13 431 "StoneWalkModel" "island" "LStoneWalkModel$Island;") (List.mem_of_getElem? (i := 1) (by decide +kernel))) rfl (t := 2) rfl (by show va_rf _ = _; rw [hN5]; rfl) dX13_toldOf_17 ?_
        exact absurd h (by simp)
      · replace h := oc_s hN5 h
        have kb5 := hT.f k0 (k := 3) (t := 12) (n := 0) rfl hN5
        refine r_get (T := TX13) (v := .ref (ad b5)) hx hb hts in13 hown hK hP k0 (by decide) rfl 3 (by decide) (hts (.fieldLink RX13 431 "StoneWalkModel" "island" "LStoneWalkModel$Island;") (List.mem_of_getElem? (i := 1) (by decide +kernel))) rfl (t := 2) rfl (by show va_rf _ = _; rw [hN5]; rfl) dX13_toldOf_17 ?_
        rcases hN6 : gR M b5 39 with _ | b6
        · exact absurd (oc_n hN6 h) (by simp)
        replace h := oc_s hN6 h
        have kb6 := hT.f kb5 (k := 39) (t := 15) (n := 3) rfl hN6
        refine r_getN (T := TX12) (v := .ref (ad b6)) hx hb hts in12 hown hK hP kb5 (by decide) rfl 39 (by decide) (hG.2.2.1 ("StoneWalkModel", 403, "StoneWalkModel$Island", "means", "[I", "StoneWalkModel") (List.mem_of_getElem? (i := 42) rfl)) rfl (t := 2) rfl (by show va_rf _ = _; rw [hN6]; rfl) dX13_toldOf_20 ?_
        refine lv_iload_n hx hb dX13_toldOf_23 rfl (lv_at hl 2 rfl) ?_
        obtain ⟨hn7, h⟩ := chk_some h
        refine r_iald hx hb hK hP kb6 hn7 dX13_toldOf_24 ?_
        refine lv_iload_n hx hb dX13_toldOf_25 rfl (lv_at hl 1 rfl) ?_
        refine lv_ishr hx hb dX13_toldOf_26 ?_
        refine lv_iconst (v := 1) hx hb dX13_toldOf_27 rfl ?_
        refine lv_iand hx hb dX13_toldOf_28 ?_
        refine lv_iconst (v := 1) hx hb dX13_toldOf_29 rfl ?_
        refine lv_icmp_ne (tgt := 38) hx hb dX13_toldOf_30 rfl (fun c8 => ?_) (fun c8 => ?_)
        · replace h := ite_f c8 h
          refine lv_iconst (v := 4) hx hb dX13_toldOf_38 rfl ?_
          exact r_iret hx hb hr hlocks hP hK hD hT hG hS (Option.some.inj h) rfl dX13_toldOf_39
        · replace h := ite_t c8 h
          refine lv_bipush (v := 6) hx hb dX13_toldOf_33 rfl ?_
          refine lv_goto (tgt := 39) hx hb dX13_toldOf_35 rfl ?_
          exact r_iret hx hb hr hlocks hP hK hD hT hG hS (Option.some.inj h) rfl dX13_toldOf_39
    · replace h := ite_f c4 h
      refine lv_iconst (v := 5) hx hb dX13_toldOf_12 rfl ?_
      refine lv_goto (tgt := 39) hx hb dX13_toldOf_13 rfl ?_
      exact r_iret hx hb hr hlocks hP hK hD hT hG hS (Option.some.inj h) rfl dX13_toldOf_39
set_option maxHeartbeats 4000000 in
set_option maxRecDepth 100000 in
theorem c_X13_liesBy {l : Launch} {D : va_G} {ad : Nat → Nat} {cy : Nat → ClassId} {A : Nat → Prop} {g : CG} {q : SE} (M : MM) (a0 : Nat) (x1 : Int32) (x2 : Int32) (k0 : ok g a0 13 0) {Z : Int32} (h : f_X13_liesBy M a0 x1 x2 = some Z) : Met l yX13_liesBy wsX13_liesBy ({ frames := 1, cells := 0, slots := 0, locals := 25 }) (va_Pc [.ref (ad a0), .int x1, .int x2] (Wd D ad cy A g q M)) (va_Qi (fun r u => r = Z ∧ u = M) (Wd D ad cy A g q) A) 0 0 A := by
  refine Met.ofW (cc := cX13_liesBy) (maxL := 3) (ret := (some .int)) (by decide) rfl ?_
  intro p e s m args below meth c s₁ B hml hv
  obtain ⟨rfl, hP, hK, hD, hT, hG⟩ := hv
  have hx := B.exec
  have hb := B.bytes
  have hr := B.returns
  have hts := atoms_spec (ws := wsX13_liesBy) B.pre
  have hown : s.vm.findClass RX13 = some m.cls := findClass_of_methodNamed B.named
  have hlocks := B.notSynchronized
  have in12 : ∀ w ∈ u_ws RX12 TX12 48, w ∈ wsX13_liesBy := fun w h => List.mem_cons_of_mem _ (List.mem_append_right _ h)
  have in13 : ∀ w ∈ u_ws RX13 TX13 29, w ∈ wsX13_liesBy := fun w h => List.mem_cons_of_mem _ (List.mem_append_left _ (List.mem_append_right _ h))
  have hS : va_S A s.heap s.heap [] := va_S.rf
  have hl := lv_entry ([.ref (ad a0), .int x1, .int x2]) (n := 3) (Nat.le_of_ble_eq_true rfl)
  rw [lg_entry_eq]
  generalize (lg_sl ([.ref (ad a0), .int x1, .int x2]) ++ List.replicate (3 - (lg_sl ([.ref (ad a0), .int x1, .int x2])).length) Slot.unset).toArray = ls at hl ⊢
  have hl : lv_has ls 3 [(0, .ref (ad a0)), (1, .int x1), (2, .int x2)] := hl
  unfold f_X13_liesBy at h
  refine lv_aload_n hx hb dX13_liesBy_0 rfl (lv_at hl 0 rfl) ?_
  refine lv_iload_n hx hb dX13_liesBy_1 rfl (lv_at hl 1 rfl) ?_
  refine lv_aload_n hx hb dX13_liesBy_2 rfl (lv_at hl 0 rfl) ?_
  rcases hN1 : gR M a0 3 with _ | b1
  · replace h := oc_n hN1 h
    refine r_get (T := TX13) (v := .null) hx hb hts in13 hown hK hP k0 (by decide) rfl 3 (by decide) (hts (.fieldLink RX13 431 "StoneWalkModel" "island" "LStoneWalkModel$Island;") (List.mem_of_getElem? (i := 1) (by decide +kernel))) rfl (t := 2) rfl (by show va_rf _ = _; rw [hN1]; rfl) dX13_liesBy_3 ?_
    refine lv_aload_n hx hb dX13_liesBy_6 rfl (lv_at hl 0 rfl) ?_
    rcases hN2 : gR M a0 3 with _ | b2
    · replace h := oc_n hN2 h
      refine r_get (T := TX13) (v := .null) hx hb hts in13 hown hK hP k0 (by decide) rfl 3 (by decide) (hts (.fieldLink RX13 431 "StoneWalkModel" "island" "LStoneWalkModel$Island;") (List.mem_of_getElem? (i := 1) (by decide +kernel))) rfl (t := 2) rfl (by show va_rf _ = _; rw [hN2]; rfl) dX13_liesBy_7 ?_
      exact absurd h (by simp)
    · replace h := oc_s hN2 h
      have kb2 := hT.f k0 (k := 3) (t := 12) (n := 0) rfl hN2
      refine r_get (T := TX13) (v := .ref (ad b2)) hx hb hts in13 hown hK hP k0 (by decide) rfl 3 (by decide) (hts (.fieldLink RX13 431 "StoneWalkModel" "island" "LStoneWalkModel$Island;") (List.mem_of_getElem? (i := 1) (by decide +kernel))) rfl (t := 2) rfl (by show va_rf _ = _; rw [hN2]; rfl) dX13_liesBy_7 ?_
      rcases hN3 : gR M b2 20 with _ | b3
      · exact absurd (oc_n hN3 h) (by simp)
      replace h := oc_s hN3 h
      have kb3 := hT.f kb2 (k := 20) (t := 15) (n := 10) rfl hN3
      refine r_getN (T := TX12) (v := .ref (ad b3)) hx hb hts in12 hown hK hP kb2 (by decide) rfl 20 (by decide) (hG.2.2.1 ("StoneWalkModel", 312, "StoneWalkModel$Island", "on", "[I", "StoneWalkModel") (List.mem_of_getElem? (i := 20) rfl)) rfl (t := 2) rfl (by show va_rf _ = _; rw [hN3]; rfl) dX13_liesBy_10 ?_
      refine lv_iload_n hx hb dX13_liesBy_13 rfl (lv_at hl 2 rfl) ?_
      obtain ⟨hn4, h⟩ := chk_some h
      refine r_iald hx hb hK hP kb3 hn4 dX13_liesBy_14 ?_
      refine lv_aload_n hx hb dX13_liesBy_15 rfl (lv_at hl 0 rfl) ?_
      rcases hN5 : gR M a0 3 with _ | b5
      · replace h := oc_n hN5 h
        refine r_get (T := TX13) (v := .null) hx hb hts in13 hown hK hP k0 (by decide) rfl 3 (by decide) (hts (.fieldLink RX13 431 "StoneWalkModel" "island" "LStoneWalkModel$Island;") (List.mem_of_getElem? (i := 1) (by decide +kernel))) rfl (t := 2) rfl (by show va_rf _ = _; rw [hN5]; rfl) dX13_liesBy_16 ?_
        exact absurd h (by simp)
      · replace h := oc_s hN5 h
        have kb5 := hT.f k0 (k := 3) (t := 12) (n := 0) rfl hN5
        refine r_get (T := TX13) (v := .ref (ad b5)) hx hb hts in13 hown hK hP k0 (by decide) rfl 3 (by decide) (hts (.fieldLink RX13 431 "StoneWalkModel" "island" "LStoneWalkModel$Island;") (List.mem_of_getElem? (i := 1) (by decide +kernel))) rfl (t := 2) rfl (by show va_rf _ = _; rw [hN5]; rfl) dX13_liesBy_16 ?_
        rcases hN6 : gR M b5 21 with _ | b6
        · exact absurd (oc_n hN6 h) (by simp)
        replace h := oc_s hN6 h
        have kb6 := hT.f kb5 (k := 21) (t := 15) (n := 10) rfl hN6
        refine r_getN (T := TX12) (v := .ref (ad b6)) hx hb hts in12 hown hK hP kb5 (by decide) rfl 21 (by decide) (hG.2.2.1 ("StoneWalkModel", 314, "StoneWalkModel$Island", "there", "[I", "StoneWalkModel") (List.mem_of_getElem? (i := 21) rfl)) rfl (t := 2) rfl (by show va_rf _ = _; rw [hN6]; rfl) dX13_liesBy_19 ?_
        refine lv_iload_n hx hb dX13_liesBy_22 rfl (lv_at hl 2 rfl) ?_
        obtain ⟨hn7, h⟩ := chk_some h
        refine r_iald hx hb hK hP kb6 hn7 dX13_liesBy_23 ?_
        exact absurd h (by simp)
  · replace h := oc_s hN1 h
    have kb1 := hT.f k0 (k := 3) (t := 12) (n := 0) rfl hN1
    refine r_get (T := TX13) (v := .ref (ad b1)) hx hb hts in13 hown hK hP k0 (by decide) rfl 3 (by decide) (hts (.fieldLink RX13 431 "StoneWalkModel" "island" "LStoneWalkModel$Island;") (List.mem_of_getElem? (i := 1) (by decide +kernel))) rfl (t := 2) rfl (by show va_rf _ = _; rw [hN1]; rfl) dX13_liesBy_3 ?_
    refine lv_aload_n hx hb dX13_liesBy_6 rfl (lv_at hl 0 rfl) ?_
    rcases hN8 : gR M a0 3 with _ | b8
    · replace h := oc_n hN8 h
      refine r_get (T := TX13) (v := .null) hx hb hts in13 hown hK hP k0 (by decide) rfl 3 (by decide) (hts (.fieldLink RX13 431 "StoneWalkModel" "island" "LStoneWalkModel$Island;") (List.mem_of_getElem? (i := 1) (by decide +kernel))) rfl (t := 2) rfl (by show va_rf _ = _; rw [hN8]; rfl) dX13_liesBy_7 ?_
      exact absurd h (by simp)
    · replace h := oc_s hN8 h
      have kb8 := hT.f k0 (k := 3) (t := 12) (n := 0) rfl hN8
      refine r_get (T := TX13) (v := .ref (ad b8)) hx hb hts in13 hown hK hP k0 (by decide) rfl 3 (by decide) (hts (.fieldLink RX13 431 "StoneWalkModel" "island" "LStoneWalkModel$Island;") (List.mem_of_getElem? (i := 1) (by decide +kernel))) rfl (t := 2) rfl (by show va_rf _ = _; rw [hN8]; rfl) dX13_liesBy_7 ?_
      rcases hN9 : gR M b8 20 with _ | b9
      · exact absurd (oc_n hN9 h) (by simp)
      replace h := oc_s hN9 h
      have kb9 := hT.f kb8 (k := 20) (t := 15) (n := 10) rfl hN9
      refine r_getN (T := TX12) (v := .ref (ad b9)) hx hb hts in12 hown hK hP kb8 (by decide) rfl 20 (by decide) (hG.2.2.1 ("StoneWalkModel", 312, "StoneWalkModel$Island", "on", "[I", "StoneWalkModel") (List.mem_of_getElem? (i := 20) rfl)) rfl (t := 2) rfl (by show va_rf _ = _; rw [hN9]; rfl) dX13_liesBy_10 ?_
      refine lv_iload_n hx hb dX13_liesBy_13 rfl (lv_at hl 2 rfl) ?_
      obtain ⟨hn10, h⟩ := chk_some h
      refine r_iald hx hb hK hP kb9 hn10 dX13_liesBy_14 ?_
      refine lv_aload_n hx hb dX13_liesBy_15 rfl (lv_at hl 0 rfl) ?_
      rcases hN11 : gR M a0 3 with _ | b11
      · replace h := oc_n hN11 h
        refine r_get (T := TX13) (v := .null) hx hb hts in13 hown hK hP k0 (by decide) rfl 3 (by decide) (hts (.fieldLink RX13 431 "StoneWalkModel" "island" "LStoneWalkModel$Island;") (List.mem_of_getElem? (i := 1) (by decide +kernel))) rfl (t := 2) rfl (by show va_rf _ = _; rw [hN11]; rfl) dX13_liesBy_16 ?_
        exact absurd h (by simp)
      · replace h := oc_s hN11 h
        have kb11 := hT.f k0 (k := 3) (t := 12) (n := 0) rfl hN11
        refine r_get (T := TX13) (v := .ref (ad b11)) hx hb hts in13 hown hK hP k0 (by decide) rfl 3 (by decide) (hts (.fieldLink RX13 431 "StoneWalkModel" "island" "LStoneWalkModel$Island;") (List.mem_of_getElem? (i := 1) (by decide +kernel))) rfl (t := 2) rfl (by show va_rf _ = _; rw [hN11]; rfl) dX13_liesBy_16 ?_
        rcases hN12 : gR M b11 21 with _ | b12
        · exact absurd (oc_n hN12 h) (by simp)
        replace h := oc_s hN12 h
        have kb12 := hT.f kb11 (k := 21) (t := 15) (n := 10) rfl hN12
        refine r_getN (T := TX12) (v := .ref (ad b12)) hx hb hts in12 hown hK hP kb11 (by decide) rfl 21 (by decide) (hG.2.2.1 ("StoneWalkModel", 314, "StoneWalkModel$Island", "there", "[I", "StoneWalkModel") (List.mem_of_getElem? (i := 21) rfl)) rfl (t := 2) rfl (by show va_rf _ = _; rw [hN12]; rfl) dX13_liesBy_19 ?_
        refine lv_iload_n hx hb dX13_liesBy_22 rfl (lv_at hl 2 rfl) ?_
        obtain ⟨hn13, h⟩ := chk_some h
        refine r_iald hx hb hK hP kb12 hn13 dX13_liesBy_23 ?_
        obtain ⟨z14, h14, h⟩ := ob_some h
        refine k_i (va_runV (As := [.int (gI M b9 (ix x2)), .int (gI M b12 (ix x2))]) (rest := [.int x1, .ref (ad a0)]) ⟨hx, hb, hml, hown, hts⟩ (c_X12_slopeAt (l := l) M b1 (gI M b9 (ix x2)) (gI M b12 (ix x2)) kb1 h14) (cwV 2 hts gX13_liesBy_X12_slopeAt rfl rfl rfl hdV_X12_slopeAt ⟨Nat.le_of_ble_eq_true rfl, Nat.le_of_ble_eq_true rfl⟩) (pV (T := TX12) hP hK hD hT hG hS kb1 (by decide) rfl) rfl rfl hl.1 rfl (lv_room (Nat.le_of_ble_eq_true rfl)) dX13_liesBy_24 ⟨Nat.zero_le _, Nat.zero_le _⟩) hS (fun H locs hP hD hT hS => ?_)
        refine lv_aload_n hx hb dX13_liesBy_27 rfl (lv_at hl 0 rfl) ?_
        rcases hN15 : gR M a0 3 with _ | b15
        · replace h := oc_n hN15 h
          refine r_get (T := TX13) (v := .null) hx hb hts in13 hown hK hP k0 (by decide) rfl 3 (by decide) (hts (.fieldLink RX13 431 "StoneWalkModel" "island" "LStoneWalkModel$Island;") (List.mem_of_getElem? (i := 1) (by decide +kernel))) rfl (t := 2) rfl (by show va_rf _ = _; rw [hN15]; rfl) dX13_liesBy_28 ?_
          exact absurd h (by simp)
        · replace h := oc_s hN15 h
          have kb15 := hT.f k0 (k := 3) (t := 12) (n := 0) rfl hN15
          refine r_get (T := TX13) (v := .ref (ad b15)) hx hb hts in13 hown hK hP k0 (by decide) rfl 3 (by decide) (hts (.fieldLink RX13 431 "StoneWalkModel" "island" "LStoneWalkModel$Island;") (List.mem_of_getElem? (i := 1) (by decide +kernel))) rfl (t := 2) rfl (by show va_rf _ = _; rw [hN15]; rfl) dX13_liesBy_28 ?_
          rcases hN16 : gR M b15 19 with _ | b16
          · exact absurd (oc_n hN16 h) (by simp)
          replace h := oc_s hN16 h
          have kb16 := hT.f kb15 (k := 19) (t := 15) (n := 10) rfl hN16
          refine r_getN (T := TX12) (v := .ref (ad b16)) hx hb hts in12 hown hK hP kb15 (by decide) rfl 19 (by decide) (hG.2.2.1 ("StoneWalkModel", 309, "StoneWalkModel$Island", "lie", "[I", "StoneWalkModel") (List.mem_of_getElem? (i := 19) rfl)) rfl (t := 2) rfl (by show va_rf _ = _; rw [hN16]; rfl) dX13_liesBy_31 ?_
          refine lv_iload_n hx hb dX13_liesBy_34 rfl (lv_at hl 2 rfl) ?_
          obtain ⟨hn17, h⟩ := chk_some h
          refine r_iald hx hb hK hP kb16 hn17 dX13_liesBy_35 ?_
          obtain ⟨z18, h18, h⟩ := ob_some h
          refine k_i (va_runV (As := [.int x1, .int z14, .int (gI M b16 (ix x2))]) (rest := []) ⟨hx, hb, hml, hown, hts⟩ (c_X13_tenths (l := l) M a0 x1 z14 (gI M b16 (ix x2)) k0 h18) (cwV 3 hts gX13_liesBy_X13_tenths rfl rfl rfl hdV_X13_tenths ⟨Nat.le_of_ble_eq_true rfl, Nat.le_of_ble_eq_true rfl⟩) (pV (T := TX13) hP hK hD hT hG hS k0 (by decide) rfl) rfl rfl hl.1 rfl (lv_room (Nat.le_of_ble_eq_true rfl)) dX13_liesBy_36 ⟨Nat.zero_le _, Nat.zero_le _⟩) hS (fun H locs hP hD hT hS => ?_)
          exact r_iret hx hb hr hlocks hP hK hD hT hG hS (Option.some.inj h) rfl dX13_liesBy_39
set_option maxHeartbeats 4000000 in
set_option maxRecDepth 100000 in
theorem c_X13_oddsOf {l : Launch} {D : va_G} {ad : Nat → Nat} {cy : Nat → ClassId} {A : Nat → Prop} {g : CG} {q : SE} (M : MM) (a0 : Nat) (x1 : Int32) (x2 : Int32) (k0 : ok g a0 13 0) {Z : Int64} (h : f_X13_oddsOf M a0 x1 x2 = some Z) : Met l yX13_oddsOf wsX13_oddsOf ({ frames := 2, cells := 0, slots := 0, locals := 50 }) (va_Pc [.ref (ad a0), .int x1, .int x2] (Wd D ad cy A g q M)) (va_Ql (fun r u => r = Z ∧ u = M) (Wd D ad cy A g q) A) 0 0 A := by
  refine Met.ofW (cc := cX13_oddsOf) (maxL := 6) (ret := (some .long)) (by decide) rfl ?_
  intro p e s m args below meth c s₁ B hml hv
  obtain ⟨rfl, hP, hK, hD, hT, hG⟩ := hv
  have hx := B.exec
  have hb := B.bytes
  have hr := B.returns
  have hts := atoms_spec (ws := wsX13_oddsOf) B.pre
  have hown : s.vm.findClass RX13 = some m.cls := findClass_of_methodNamed B.named
  have hlocks := B.notSynchronized
  have in12 : ∀ w ∈ u_ws RX12 TX12 48, w ∈ wsX13_oddsOf := fun w h => List.mem_cons_of_mem _ (List.mem_append_right _ h)
  have in13 : ∀ w ∈ u_ws RX13 TX13 29, w ∈ wsX13_oddsOf := fun w h => List.mem_cons_of_mem _ (List.mem_append_left _ (List.mem_append_right _ h))
  have hS : va_S A s.heap s.heap [] := va_S.rf
  have hl := lv_entry ([.ref (ad a0), .int x1, .int x2]) (n := 6) (Nat.le_of_ble_eq_true rfl)
  rw [lg_entry_eq]
  generalize (lg_sl ([.ref (ad a0), .int x1, .int x2]) ++ List.replicate (6 - (lg_sl ([.ref (ad a0), .int x1, .int x2])).length) Slot.unset).toArray = ls at hl ⊢
  have hl : lv_has ls 6 [(0, .ref (ad a0)), (1, .int x1), (2, .int x2)] := hl
  unfold f_X13_oddsOf at h
  refine lv_aload_n hx hb dX13_oddsOf_0 rfl (lv_at hl 0 rfl) ?_
  rcases hN1 : gR M a0 3 with _ | b1
  · replace h := oc_n hN1 h
    refine r_get (T := TX13) (v := .null) hx hb hts in13 hown hK hP k0 (by decide) rfl 3 (by decide) (hts (.fieldLink RX13 431 "StoneWalkModel" "island" "LStoneWalkModel$Island;") (List.mem_of_getElem? (i := 1) (by decide +kernel))) rfl (t := 2) rfl (by show va_rf _ = _; rw [hN1]; rfl) dX13_oddsOf_1 ?_
    exact absurd h (by simp)
  · replace h := oc_s hN1 h
    have kb1 := hT.f k0 (k := 3) (t := 12) (n := 0) rfl hN1
    refine r_get (T := TX13) (v := .ref (ad b1)) hx hb hts in13 hown hK hP k0 (by decide) rfl 3 (by decide) (hts (.fieldLink RX13 431 "StoneWalkModel" "island" "LStoneWalkModel$Island;") (List.mem_of_getElem? (i := 1) (by decide +kernel))) rfl (t := 2) rfl (by show va_rf _ = _; rw [hN1]; rfl) dX13_oddsOf_1 ?_
    rcases hN2 : gR M b1 10 with _ | b2
    · exact absurd (oc_n hN2 h) (by simp)
    replace h := oc_s hN2 h
    have kb2 := hT.f kb1 (k := 10) (t := 15) (n := 4) rfl hN2
    refine r_getN (T := TX12) (v := .ref (ad b2)) hx hb hts in12 hown hK hP kb1 (by decide) rfl 10 (by decide) (hG.2.2.1 ("StoneWalkModel", 250, "StoneWalkModel$Island", "weighs", "[I", "StoneWalkModel") (List.mem_of_getElem? (i := 9) rfl)) rfl (t := 2) rfl (by show va_rf _ = _; rw [hN2]; rfl) dX13_oddsOf_4 ?_
    refine lv_iload_n hx hb dX13_oddsOf_7 rfl (lv_at hl 1 rfl) ?_
    obtain ⟨hn3, h⟩ := chk_some h
    refine r_iald hx hb hK hP kb2 hn3 dX13_oddsOf_8 ?_
    refine lv_i2l hx hb dX13_oddsOf_9 rfl ?_
    refine lv_lstore_n (lv' := [(3, .long ((gI M b2 (ix x1)).toInt64)), (0, .ref (ad a0)), (1, .int x1), (2, .int x2)]) hx hb dX13_oddsOf_10 rfl hl (by decide) rfl (fun ls hl => ?_)
    refine lv_iconst (v := 0) hx hb dX13_oddsOf_11 rfl ?_
    refine lv_istore (lv' := [(5, .int 0), (3, .long ((gI M b2 (ix x1)).toInt64)), (0, .ref (ad a0)), (1, .int x1), (2, .int x2)]) hx hb dX13_oddsOf_12 hl (by decide) rfl (fun ls hl => ?_)
    have L4 : ∀ n4 : Nat, ∀ (y4_0 : Nat) (y4_1 : Int32) (y4_2 : Int32) (y4_3 : Int64) (y4_5 : Int32) (ky4_0 : ok g y4_0 13 0) (H : Heap) (locs : List Loc), f_X13_oddsOf_L14 n4 M y4_0 y4_1 y4_2 y4_3 y4_5 = some Z → va_P D vwCl (wd ad cy g M) H → va_D A (wd ad cy g M) → WT g M → va_S A s.heap H locs → ∀ (ls : Array Slot), lv_has ls 6 [(0, .ref (ad y4_0)), (1, .int y4_1), (2, .int y4_2), (3, .long y4_3), (5, .int y4_5)] → W p l e ((headSpec wsX13_oddsOf ({ frames := 2, cells := 0, slots := 0, locals := 50 })).room) s m (([.ref (ad a0), .int x1, .int x2] : List Value).toArray) below meth c H locs 0 0 (MQ below (va_Ql (fun r u => r = Z ∧ u = M) (Wd D ad cy A g q) A) ([.ref (ad a0), .int x1, .int x2]).toArray s 0 0 A) (F0 m 14 ls []) := by
      intro n4
      induction n4 with
      | zero => intro y4_0 y4_1 y4_2 y4_3 y4_5 ky4_0 H locs h; exact absurd h (by simp [f_X13_oddsOf_L14])
      | succ n4 ih4 =>
        intro y4_0 y4_1 y4_2 y4_3 y4_5 ky4_0 H locs h hP hD hT hS ls hl
        rw [f_X13_oddsOf_L14] at h
        refine lv_iload hx hb dX13_oddsOf_14 (lv_at hl 4 rfl) ?_
        refine lv_aload_n hx hb dX13_oddsOf_16 rfl (lv_at hl 0 rfl) ?_
        rcases hN5 : gR M y4_0 3 with _ | b5
        · replace h := oc_n hN5 h
          refine r_get (T := TX13) (v := .null) hx hb hts in13 hown hK hP ky4_0 (by decide) rfl 3 (by decide) (hts (.fieldLink RX13 431 "StoneWalkModel" "island" "LStoneWalkModel$Island;") (List.mem_of_getElem? (i := 1) (by decide +kernel))) rfl (t := 2) rfl (by show va_rf _ = _; rw [hN5]; rfl) dX13_oddsOf_17 ?_
          exact absurd h (by simp)
        · replace h := oc_s hN5 h
          have kb5 := hT.f ky4_0 (k := 3) (t := 12) (n := 0) rfl hN5
          refine r_get (T := TX13) (v := .ref (ad b5)) hx hb hts in13 hown hK hP ky4_0 (by decide) rfl 3 (by decide) (hts (.fieldLink RX13 431 "StoneWalkModel" "island" "LStoneWalkModel$Island;") (List.mem_of_getElem? (i := 1) (by decide +kernel))) rfl (t := 2) rfl (by show va_rf _ = _; rw [hN5]; rfl) dX13_oddsOf_17 ?_
          refine r_getN (T := TX12) (v := .int (gI M b5 2)) hx hb hts in12 hown hK hP kb5 (by decide) rfl 2 (by decide) (hG.2.2.1 ("StoneWalkModel", 191, "StoneWalkModel$Island", "statues", "I", "StoneWalkModel") (List.mem_of_getElem? (i := 7) rfl)) rfl (t := 0) rfl rfl dX13_oddsOf_20 ?_
          refine lv_icmp_ge (tgt := 63) hx hb dX13_oddsOf_23 rfl (fun c6 => ?_) (fun c6 => ?_)
          · replace h := ite_t c6 h
            refine lv_iconst (v := 0) hx hb dX13_oddsOf_63 rfl ?_
            refine lv_istore (lv' := [(5, .int 0), (0, .ref (ad y4_0)), (1, .int y4_1), (2, .int y4_2), (3, .long y4_3)]) hx hb dX13_oddsOf_64 hl (by decide) rfl (fun ls hl => ?_)
            have L7 : ∀ n7 : Nat, ∀ (y7_0 : Nat) (y7_1 : Int32) (y7_2 : Int32) (y7_3 : Int64) (y7_5 : Int32) (ky7_0 : ok g y7_0 13 0) (H : Heap) (locs : List Loc), f_X13_oddsOf_L66 (fun M y4_0 y4_1 y4_2 y4_3 y4_5 => f_X13_oddsOf_L14 n4 M y4_0 y4_1 y4_2 y4_3 y4_5) n7 M y7_0 y7_1 y7_2 y7_3 y7_5 = some Z → va_P D vwCl (wd ad cy g M) H → va_D A (wd ad cy g M) → WT g M → va_S A s.heap H locs → ∀ (ls : Array Slot), lv_has ls 6 [(0, .ref (ad y7_0)), (1, .int y7_1), (2, .int y7_2), (3, .long y7_3), (5, .int y7_5)] → W p l e ((headSpec wsX13_oddsOf ({ frames := 2, cells := 0, slots := 0, locals := 50 })).room) s m (([.ref (ad a0), .int x1, .int x2] : List Value).toArray) below meth c H locs 0 0 (MQ below (va_Ql (fun r u => r = Z ∧ u = M) (Wd D ad cy A g q) A) ([.ref (ad a0), .int x1, .int x2]).toArray s 0 0 A) (F0 m 66 ls []) := by
              intro n7
              induction n7 with
              | zero => intro y7_0 y7_1 y7_2 y7_3 y7_5 ky7_0 H locs h; exact absurd h (by simp [f_X13_oddsOf_L66])
              | succ n7 ih7 =>
                intro y7_0 y7_1 y7_2 y7_3 y7_5 ky7_0 H locs h hP hD hT hS ls hl
                rw [f_X13_oddsOf_L66] at h
                refine lv_iload hx hb dX13_oddsOf_66 (lv_at hl 4 rfl) ?_
                refine lv_aload_n hx hb dX13_oddsOf_68 rfl (lv_at hl 0 rfl) ?_
                rcases hN8 : gR M y7_0 3 with _ | b8
                · replace h := oc_n hN8 h
                  refine r_get (T := TX13) (v := .null) hx hb hts in13 hown hK hP ky7_0 (by decide) rfl 3 (by decide) (hts (.fieldLink RX13 431 "StoneWalkModel" "island" "LStoneWalkModel$Island;") (List.mem_of_getElem? (i := 1) (by decide +kernel))) rfl (t := 2) rfl (by show va_rf _ = _; rw [hN8]; rfl) dX13_oddsOf_69 ?_
                  exact absurd h (by simp)
                · replace h := oc_s hN8 h
                  have kb8 := hT.f ky7_0 (k := 3) (t := 12) (n := 0) rfl hN8
                  refine r_get (T := TX13) (v := .ref (ad b8)) hx hb hts in13 hown hK hP ky7_0 (by decide) rfl 3 (by decide) (hts (.fieldLink RX13 431 "StoneWalkModel" "island" "LStoneWalkModel$Island;") (List.mem_of_getElem? (i := 1) (by decide +kernel))) rfl (t := 2) rfl (by show va_rf _ = _; rw [hN8]; rfl) dX13_oddsOf_69 ?_
                  refine r_getN (T := TX12) (v := .int (gI M b8 1)) hx hb hts in12 hown hK hP kb8 (by decide) rfl 1 (by decide) (hG.2.2.1 ("StoneWalkModel", 188, "StoneWalkModel$Island", "roads", "I", "StoneWalkModel") (List.mem_of_getElem? (i := 6) rfl)) rfl (t := 0) rfl rfl dX13_oddsOf_72 ?_
                  refine lv_icmp_ge (tgt := 95) hx hb dX13_oddsOf_75 rfl (fun c9 => ?_) (fun c9 => ?_)
                  · replace h := ite_t c9 h
                    refine lv_lload_n hx hb dX13_oddsOf_95 rfl (lv_at hl 3 rfl) ?_
                    refine lv_aload_n hx hb dX13_oddsOf_96 rfl (lv_at hl 0 rfl) ?_
                    refine lv_iload_n hx hb dX13_oddsOf_97 rfl (lv_at hl 1 rfl) ?_
                    refine lv_iload_n hx hb dX13_oddsOf_98 rfl (lv_at hl 2 rfl) ?_
                    obtain ⟨z10, h10, h⟩ := ob_some h
                    refine k_i (va_runV (As := [.int y7_1, .int y7_2]) (rest := [.long y7_3]) ⟨hx, hb, hml, hown, hts⟩ (c_X13_shapeOf (l := l) M y7_0 y7_1 y7_2 ky7_0 h10) (cwV 2 hts gX13_oddsOf_X13_shapeOf rfl rfl rfl hdV_X13_shapeOf ⟨Nat.le_of_ble_eq_true rfl, Nat.le_of_ble_eq_true rfl⟩) (pV (T := TX13) hP hK hD hT hG hS ky7_0 (by decide) rfl) rfl rfl hl.1 rfl (lv_room (Nat.le_of_ble_eq_true rfl)) dX13_oddsOf_99 ⟨Nat.zero_le _, Nat.zero_le _⟩) hS (fun H locs hP hD hT hS => ?_)
                    refine lv_i2l hx hb dX13_oddsOf_102 rfl ?_
                    refine lv_lmul hx hb dX13_oddsOf_103 ?_
                    refine lv_lstore_n (lv' := [(3, .long (y7_3 * z10.toInt64)), (0, .ref (ad y7_0)), (1, .int y7_1), (2, .int y7_2), (5, .int y7_5)]) hx hb dX13_oddsOf_104 rfl hl (by decide) rfl (fun ls hl => ?_)
                    refine lv_iconst (v := 0) hx hb dX13_oddsOf_105 rfl ?_
                    refine lv_istore (lv' := [(5, .int 0), (3, .long (y7_3 * z10.toInt64)), (0, .ref (ad y7_0)), (1, .int y7_1), (2, .int y7_2)]) hx hb dX13_oddsOf_106 hl (by decide) rfl (fun ls hl => ?_)
                    have L11 : ∀ n11 : Nat, ∀ (y11_0 : Nat) (y11_1 : Int32) (y11_3 : Int64) (y11_5 : Int32) (ky11_0 : ok g y11_0 13 0) (H : Heap) (locs : List Loc), f_X13_oddsOf_L108 (fun M y4_0 y4_1 y4_2 y4_3 y4_5 => f_X13_oddsOf_L14 n4 M y4_0 y4_1 y4_2 y4_3 y4_5) (fun M y7_0 y7_1 y7_2 y7_3 y7_5 => f_X13_oddsOf_L66 (fun M y4_0 y4_1 y4_2 y4_3 y4_5 => f_X13_oddsOf_L14 n4 M y4_0 y4_1 y4_2 y4_3 y4_5) n7 M y7_0 y7_1 y7_2 y7_3 y7_5) n11 M y11_0 y11_1 y11_3 y11_5 = some Z → va_P D vwCl (wd ad cy g M) H → va_D A (wd ad cy g M) → WT g M → va_S A s.heap H locs → ∀ (ls : Array Slot), lv_has ls 6 [(0, .ref (ad y11_0)), (1, .int y11_1), (3, .long y11_3), (5, .int y11_5)] → W p l e ((headSpec wsX13_oddsOf ({ frames := 2, cells := 0, slots := 0, locals := 50 })).room) s m (([.ref (ad a0), .int x1, .int x2] : List Value).toArray) below meth c H locs 0 0 (MQ below (va_Ql (fun r u => r = Z ∧ u = M) (Wd D ad cy A g q) A) ([.ref (ad a0), .int x1, .int x2]).toArray s 0 0 A) (F0 m 108 ls []) := by
                      intro n11
                      induction n11 with
                      | zero => intro y11_0 y11_1 y11_3 y11_5 ky11_0 H locs h; exact absurd h (by simp [f_X13_oddsOf_L108])
                      | succ n11 ih11 =>
                        intro y11_0 y11_1 y11_3 y11_5 ky11_0 H locs h hP hD hT hS ls hl
                        rw [f_X13_oddsOf_L108] at h
                        refine lv_iload hx hb dX13_oddsOf_108 (lv_at hl 3 rfl) ?_
                        refine lv_aload_n hx hb dX13_oddsOf_110 rfl (lv_at hl 0 rfl) ?_
                        rcases hN12 : gR M y11_0 3 with _ | b12
                        · replace h := oc_n hN12 h
                          refine r_get (T := TX13) (v := .null) hx hb hts in13 hown hK hP ky11_0 (by decide) rfl 3 (by decide) (hts (.fieldLink RX13 431 "StoneWalkModel" "island" "LStoneWalkModel$Island;") (List.mem_of_getElem? (i := 1) (by decide +kernel))) rfl (t := 2) rfl (by show va_rf _ = _; rw [hN12]; rfl) dX13_oddsOf_111 ?_
                          exact absurd h (by simp)
                        · replace h := oc_s hN12 h
                          have kb12 := hT.f ky11_0 (k := 3) (t := 12) (n := 0) rfl hN12
                          refine r_get (T := TX13) (v := .ref (ad b12)) hx hb hts in13 hown hK hP ky11_0 (by decide) rfl 3 (by decide) (hts (.fieldLink RX13 431 "StoneWalkModel" "island" "LStoneWalkModel$Island;") (List.mem_of_getElem? (i := 1) (by decide +kernel))) rfl (t := 2) rfl (by show va_rf _ = _; rw [hN12]; rfl) dX13_oddsOf_111 ?_
                          refine r_getN (T := TX12) (v := .int (gI M b12 6)) hx hb hts in12 hown hK hP kb12 (by decide) rfl 6 (by decide) (hG.2.2.1 ("StoneWalkModel", 393, "StoneWalkModel$Island", "tellers", "I", "StoneWalkModel") (List.mem_of_getElem? (i := 41) rfl)) rfl (t := 0) rfl rfl dX13_oddsOf_114 ?_
                          refine lv_icmp_ge (tgt := 137) hx hb dX13_oddsOf_117 rfl (fun c13 => ?_) (fun c13 => ?_)
                          · replace h := ite_t c13 h
                            refine lv_lload_n hx hb dX13_oddsOf_137 rfl (lv_at hl 2 rfl) ?_
                            exact r_lret hx hb hr hlocks hP hK hD hT hG hS (Option.some.inj h) rfl dX13_oddsOf_138
                          · replace h := ite_f c13 h
                            refine lv_lload_n hx hb dX13_oddsOf_120 rfl (lv_at hl 2 rfl) ?_
                            refine lv_aload_n hx hb dX13_oddsOf_121 rfl (lv_at hl 0 rfl) ?_
                            refine lv_iload_n hx hb dX13_oddsOf_122 rfl (lv_at hl 1 rfl) ?_
                            refine lv_iload hx hb dX13_oddsOf_123 (lv_at hl 3 rfl) ?_
                            obtain ⟨z14, h14, h⟩ := ob_some h
                            refine k_i (va_runV (As := [.int y11_1, .int y11_5]) (rest := [.long y11_3]) ⟨hx, hb, hml, hown, hts⟩ (c_X13_toldOf (l := l) M y11_0 y11_1 y11_5 ky11_0 h14) (cwV 2 hts gX13_oddsOf_X13_toldOf rfl rfl rfl hdV_X13_toldOf ⟨Nat.le_of_ble_eq_true rfl, Nat.le_of_ble_eq_true rfl⟩) (pV (T := TX13) hP hK hD hT hG hS ky11_0 (by decide) rfl) rfl rfl hl.1 rfl (lv_room (Nat.le_of_ble_eq_true rfl)) dX13_oddsOf_125 ⟨Nat.zero_le _, Nat.zero_le _⟩) hS (fun H locs hP hD hT hS => ?_)
                            refine lv_i2l hx hb dX13_oddsOf_128 rfl ?_
                            refine lv_lmul hx hb dX13_oddsOf_129 ?_
                            refine lv_lstore_n (lv' := [(3, .long (y11_3 * z14.toInt64)), (0, .ref (ad y11_0)), (1, .int y11_1), (5, .int y11_5)]) hx hb dX13_oddsOf_130 rfl hl (by decide) rfl (fun ls hl => ?_)
                            refine lv_iinc (v := y11_5 + 1) (lv' := [(5, .int (y11_5 + 1)), (3, .long (y11_3 * z14.toInt64)), (0, .ref (ad y11_0)), (1, .int y11_1)]) hx hb dX13_oddsOf_131 hl (k := 3) rfl rfl (by decide) rfl (fun ls hl => ?_)
                            refine lv_goto (tgt := 108) hx hb dX13_oddsOf_134 rfl ?_
                            exact ih11 y11_0 y11_1 (y11_3 * z14.toInt64) (y11_5 + 1) ky11_0 _ _ h hP hD hT hS ls (lv_sub hl [2, 3, 1, 0] rfl)
                    exact L11 FU y7_0 y7_1 (y7_3 * z10.toInt64) 0 ky7_0 _ _ h hP hD hT hS ls (lv_sub hl [2, 3, 1, 0] rfl)
                  · replace h := ite_f c9 h
                    refine lv_lload_n hx hb dX13_oddsOf_78 rfl (lv_at hl 3 rfl) ?_
                    refine lv_aload_n hx hb dX13_oddsOf_79 rfl (lv_at hl 0 rfl) ?_
                    refine lv_iload_n hx hb dX13_oddsOf_80 rfl (lv_at hl 1 rfl) ?_
                    refine lv_iload hx hb dX13_oddsOf_81 (lv_at hl 4 rfl) ?_
                    obtain ⟨z15, h15, h⟩ := ob_some h
                    refine k_i (va_runV (As := [.int y7_1, .int y7_5]) (rest := [.long y7_3]) ⟨hx, hb, hml, hown, hts⟩ (c_X13_hollowOf (l := l) M y7_0 y7_1 y7_5 ky7_0 h15) (cwV 2 hts gX13_oddsOf_X13_hollowOf rfl rfl rfl hdV_X13_hollowOf ⟨Nat.le_of_ble_eq_true rfl, Nat.le_of_ble_eq_true rfl⟩) (pV (T := TX13) hP hK hD hT hG hS ky7_0 (by decide) rfl) rfl rfl hl.1 rfl (lv_room (Nat.le_of_ble_eq_true rfl)) dX13_oddsOf_83 ⟨Nat.zero_le _, Nat.zero_le _⟩) hS (fun H locs hP hD hT hS => ?_)
                    refine lv_i2l hx hb dX13_oddsOf_86 rfl ?_
                    refine lv_lmul hx hb dX13_oddsOf_87 ?_
                    refine lv_lstore_n (lv' := [(3, .long (y7_3 * z15.toInt64)), (0, .ref (ad y7_0)), (1, .int y7_1), (2, .int y7_2), (5, .int y7_5)]) hx hb dX13_oddsOf_88 rfl hl (by decide) rfl (fun ls hl => ?_)
                    refine lv_iinc (v := y7_5 + 1) (lv' := [(5, .int (y7_5 + 1)), (3, .long (y7_3 * z15.toInt64)), (0, .ref (ad y7_0)), (1, .int y7_1), (2, .int y7_2)]) hx hb dX13_oddsOf_89 hl (k := 4) rfl rfl (by decide) rfl (fun ls hl => ?_)
                    refine lv_goto (tgt := 66) hx hb dX13_oddsOf_92 rfl ?_
                    exact ih7 y7_0 y7_1 y7_2 (y7_3 * z15.toInt64) (y7_5 + 1) ky7_0 _ _ h hP hD hT hS ls (lv_sub hl [2, 3, 4, 1, 0] rfl)
            exact L7 FU y4_0 y4_1 y4_2 y4_3 0 ky4_0 _ _ h hP hD hT hS ls (lv_sub hl [1, 2, 3, 4, 0] rfl)
          · replace h := ite_f c6 h
            refine lv_aload_n hx hb dX13_oddsOf_26 rfl (lv_at hl 0 rfl) ?_
            rcases hN16 : gR M y4_0 3 with _ | b16
            · replace h := oc_n hN16 h
              refine r_get (T := TX13) (v := .null) hx hb hts in13 hown hK hP ky4_0 (by decide) rfl 3 (by decide) (hts (.fieldLink RX13 431 "StoneWalkModel" "island" "LStoneWalkModel$Island;") (List.mem_of_getElem? (i := 1) (by decide +kernel))) rfl (t := 2) rfl (by show va_rf _ = _; rw [hN16]; rfl) dX13_oddsOf_27 ?_
              exact absurd h (by simp)
            · replace h := oc_s hN16 h
              have kb16 := hT.f ky4_0 (k := 3) (t := 12) (n := 0) rfl hN16
              refine r_get (T := TX13) (v := .ref (ad b16)) hx hb hts in13 hown hK hP ky4_0 (by decide) rfl 3 (by decide) (hts (.fieldLink RX13 431 "StoneWalkModel" "island" "LStoneWalkModel$Island;") (List.mem_of_getElem? (i := 1) (by decide +kernel))) rfl (t := 2) rfl (by show va_rf _ = _; rw [hN16]; rfl) dX13_oddsOf_27 ?_
              rcases hN17 : gR M b16 18 with _ | b17
              · exact absurd (oc_n hN17 h) (by simp)
              replace h := oc_s hN17 h
              have kb17 := hT.f kb16 (k := 18) (t := 15) (n := 10) rfl hN17
              refine r_getN (T := TX12) (v := .ref (ad b17)) hx hb hts in12 hown hK hP kb16 (by decide) rfl 18 (by decide) (hG.2.2.1 ("StoneWalkModel", 307, "StoneWalkModel$Island", "sort", "[I", "StoneWalkModel") (List.mem_of_getElem? (i := 18) rfl)) rfl (t := 2) rfl (by show va_rf _ = _; rw [hN17]; rfl) dX13_oddsOf_30 ?_
              refine lv_iload hx hb dX13_oddsOf_33 (lv_at hl 4 rfl) ?_
              obtain ⟨hn18, h⟩ := chk_some h
              refine r_iald hx hb hK hP kb17 hn18 dX13_oddsOf_35 ?_
              refine lv_iconst (v := 5) hx hb dX13_oddsOf_36 rfl ?_
              refine lv_icmp_ne (tgt := 57) hx hb dX13_oddsOf_37 rfl (fun c19 => ?_) (fun c19 => ?_)
              · replace h := ite_f c19 h
                refine lv_iinc (v := y4_5 + 1) (lv' := [(5, .int (y4_5 + 1)), (0, .ref (ad y4_0)), (1, .int y4_1), (2, .int y4_2), (3, .long y4_3)]) hx hb dX13_oddsOf_57 hl (k := 4) rfl rfl (by decide) rfl (fun ls hl => ?_)
                refine lv_goto (tgt := 14) hx hb dX13_oddsOf_60 rfl ?_
                exact ih4 y4_0 y4_1 y4_2 y4_3 (y4_5 + 1) ky4_0 _ _ h hP hD hT hS ls (lv_sub hl [1, 2, 3, 4, 0] rfl)
              · replace h := ite_t c19 h
                refine lv_iload hx hb dX13_oddsOf_40 (lv_at hl 4 rfl) ?_
                refine lv_iload_n hx hb dX13_oddsOf_42 rfl (lv_at hl 2 rfl) ?_
                refine lv_icmp_eq (tgt := 57) hx hb dX13_oddsOf_43 rfl (fun c20 => ?_) (fun c20 => ?_)
                · replace h := ite_t c20 h
                  refine lv_iinc (v := y4_5 + 1) (lv' := [(5, .int (y4_5 + 1)), (0, .ref (ad y4_0)), (1, .int y4_1), (2, .int y4_2), (3, .long y4_3)]) hx hb dX13_oddsOf_57 hl (k := 4) rfl rfl (by decide) rfl (fun ls hl => ?_)
                  refine lv_goto (tgt := 14) hx hb dX13_oddsOf_60 rfl ?_
                  exact ih4 y4_0 y4_1 y4_2 y4_3 (y4_5 + 1) ky4_0 _ _ h hP hD hT hS ls (lv_sub hl [1, 2, 3, 4, 0] rfl)
                · replace h := ite_f c20 h
                  refine lv_lload_n hx hb dX13_oddsOf_46 rfl (lv_at hl 3 rfl) ?_
                  refine lv_aload_n hx hb dX13_oddsOf_47 rfl (lv_at hl 0 rfl) ?_
                  refine lv_iload_n hx hb dX13_oddsOf_48 rfl (lv_at hl 1 rfl) ?_
                  refine lv_iload hx hb dX13_oddsOf_49 (lv_at hl 4 rfl) ?_
                  obtain ⟨z21, h21, h⟩ := ob_some h
                  refine k_i (va_runV (As := [.int y4_1, .int y4_5]) (rest := [.long y4_3]) ⟨hx, hb, hml, hown, hts⟩ (c_X13_liesBy (l := l) M y4_0 y4_1 y4_5 ky4_0 h21) (cwV 2 hts gX13_oddsOf_X13_liesBy rfl rfl rfl hdV_X13_liesBy ⟨Nat.le_of_ble_eq_true rfl, Nat.le_of_ble_eq_true rfl⟩) (pV (T := TX13) hP hK hD hT hG hS ky4_0 (by decide) rfl) rfl rfl hl.1 rfl (lv_room (Nat.le_of_ble_eq_true rfl)) dX13_oddsOf_51 ⟨Nat.zero_le _, Nat.zero_le _⟩) hS (fun H locs hP hD hT hS => ?_)
                  refine lv_i2l hx hb dX13_oddsOf_54 rfl ?_
                  refine lv_lmul hx hb dX13_oddsOf_55 ?_
                  refine lv_lstore_n (lv' := [(3, .long (y4_3 * z21.toInt64)), (0, .ref (ad y4_0)), (1, .int y4_1), (2, .int y4_2), (5, .int y4_5)]) hx hb dX13_oddsOf_56 rfl hl (by decide) rfl (fun ls hl => ?_)
                  refine lv_iinc (v := y4_5 + 1) (lv' := [(5, .int (y4_5 + 1)), (3, .long (y4_3 * z21.toInt64)), (0, .ref (ad y4_0)), (1, .int y4_1), (2, .int y4_2)]) hx hb dX13_oddsOf_57 hl (k := 4) rfl rfl (by decide) rfl (fun ls hl => ?_)
                  refine lv_goto (tgt := 14) hx hb dX13_oddsOf_60 rfl ?_
                  exact ih4 y4_0 y4_1 y4_2 (y4_3 * z21.toInt64) (y4_5 + 1) ky4_0 _ _ h hP hD hT hS ls (lv_sub hl [2, 3, 4, 1, 0] rfl)
    exact L4 FU a0 x1 x2 ((gI M b2 (ix x1)).toInt64) 0 k0 _ _ h hP hD hT hS ls (lv_sub hl [2, 3, 4, 1, 0] rfl)
set_option maxHeartbeats 4000000 in
set_option maxRecDepth 100000 in
theorem c_X13_odds {l : Launch} {D : va_G} {ad : Nat → Nat} {cy : Nat → ClassId} {A : Nat → Prop} {g : CG} {q : SE} (M : MM) (a0 : Nat) (x1 : Int32) (k0 : ok g a0 13 0) {Z : (Int64 × MM)} (h : f_X13_odds M a0 x1 = some Z) : Met l yX13_odds wsX13_odds ({ frames := 3, cells := 0, slots := 0, locals := 75 }) (va_Pc [.ref (ad a0), .int x1] (Wd D ad cy A g q M)) (va_Ql (fun r u => r = Z.1 ∧ u = Z.2) (Wd D ad cy A g q) A) 0 0 A := by
  refine Met.ofW (cc := cX13_odds) (maxL := 5) (ret := (some .long)) (by decide) rfl ?_
  intro p e s m args below meth c s₁ B hml hv
  obtain ⟨rfl, hP, hK, hD, hT, hG⟩ := hv
  have hx := B.exec
  have hb := B.bytes
  have hr := B.returns
  have hts := atoms_spec (ws := wsX13_odds) B.pre
  have hown : s.vm.findClass RX13 = some m.cls := findClass_of_methodNamed B.named
  have hlocks := B.notSynchronized
  have in12 : ∀ w ∈ u_ws RX12 TX12 48, w ∈ wsX13_odds := fun w h => List.mem_cons_of_mem _ (List.mem_append_right _ h)
  have in13 : ∀ w ∈ u_ws RX13 TX13 29, w ∈ wsX13_odds := fun w h => List.mem_cons_of_mem _ (List.mem_append_left _ (List.mem_append_right _ h))
  have hS : va_S A s.heap s.heap [] := va_S.rf
  have hl := lv_entry ([.ref (ad a0), .int x1]) (n := 5) (Nat.le_of_ble_eq_true rfl)
  rw [lg_entry_eq]
  generalize (lg_sl ([.ref (ad a0), .int x1]) ++ List.replicate (5 - (lg_sl ([.ref (ad a0), .int x1])).length) Slot.unset).toArray = ls at hl ⊢
  have hl : lv_has ls 5 [(0, .ref (ad a0)), (1, .int x1)] := hl
  unfold f_X13_odds at h
  refine lv_aload_n hx hb dX13_odds_0 rfl (lv_at hl 0 rfl) ?_
  refine lv_iconst (v := 0) hx hb dX13_odds_1 rfl ?_
  refine r_putI (T := TX13) (ty := .int) (v := 0) hx hb hts in13 tyX13 tyX13_ok nmX13 hown hK hP hD hT hS k0 (by decide) rfl 0 (by decide) (hts (.fieldLink RX13 30 "StoneWalkModel" "thrown" "I") (List.mem_of_getElem? (i := 1) (by decide +kernel))) rfl rfl (tyX13_ok 0 (by decide)) rfl rfl rfl dX13_odds_2 (fun H locs hP hD hT hS => ?_)
  generalize pI M a0 0 0 = Mg1 at h hP hD hT ⊢
  refine lv_aload_n hx hb dX13_odds_5 rfl (lv_at hl 0 rfl) ?_
  rcases hN1 : gR Mg1 a0 3 with _ | b1
  · replace h := oc_n hN1 h
    refine r_get (T := TX13) (v := .null) hx hb hts in13 hown hK hP k0 (by decide) rfl 3 (by decide) (hts (.fieldLink RX13 431 "StoneWalkModel" "island" "LStoneWalkModel$Island;") (List.mem_of_getElem? (i := 2) (by decide +kernel))) rfl (t := 2) rfl (by show va_rf _ = _; rw [hN1]; rfl) dX13_odds_6 ?_
    refine lv_ifnullN (tgt := 25) hx hb dX13_odds_9 rfl ?_
    refine lv_aload_n hx hb dX13_odds_25 rfl (lv_at hl 0 rfl) ?_
    refine lv_iconst (v := 1) hx hb dX13_odds_26 rfl ?_
    obtain ⟨z2, h2, h⟩ := ob_some h
    refine k_i (va_runV (As := [.int 1]) (rest := []) ⟨hx, hb, hml, hown, hts⟩ (c_X13_refused (l := l) Mg1 a0 1 k0 h2) (cwV 1 hts gX13_odds_X13_refused rfl rfl rfl hdV_X13_refused ⟨Nat.le_of_ble_eq_true rfl, Nat.le_of_ble_eq_true rfl⟩) (pV (T := TX13) hP hK hD hT hG hS k0 (by decide) rfl) rfl rfl hl.1 rfl (lv_room (Nat.le_of_ble_eq_true rfl)) dX13_odds_27 ⟨Nat.zero_le _, Nat.zero_le _⟩) hS (fun H locs hP hD hT hS => ?_)
    refine lv_i2l hx hb dX13_odds_30 rfl ?_
    have hZ := Option.some.inj h
    have hZ1 := congrArg Prod.fst hZ
    have hZ2 := congrArg Prod.snd hZ
    exact r_lret hx hb hr hlocks hP hK hD hT hG hS hZ1 hZ2 dX13_odds_31
  · replace h := oc_s hN1 h
    have kb1 := hT.f k0 (k := 3) (t := 12) (n := 0) rfl hN1
    refine r_get (T := TX13) (v := .ref (ad b1)) hx hb hts in13 hown hK hP k0 (by decide) rfl 3 (by decide) (hts (.fieldLink RX13 431 "StoneWalkModel" "island" "LStoneWalkModel$Island;") (List.mem_of_getElem? (i := 2) (by decide +kernel))) rfl (t := 2) rfl (by show va_rf _ = _; rw [hN1]; rfl) dX13_odds_6 ?_
    refine lv_ifnull hx hb dX13_odds_9 ?_
    refine lv_iload_n hx hb dX13_odds_12 rfl (lv_at hl 1 rfl) ?_
    refine lv_iconst (v := (-1)) hx hb dX13_odds_13 rfl ?_
    refine lv_icmp_eq (tgt := 32) hx hb dX13_odds_14 rfl (fun c3 => ?_) (fun c3 => ?_)
    · replace h := ite_t c3 h
      refine lv_aload_n hx hb dX13_odds_32 rfl (lv_at hl 0 rfl) ?_
      refine lv_iconst (v := 0) hx hb dX13_odds_33 rfl ?_
      obtain ⟨z4, h4, h⟩ := ob_some h
      refine k_i (va_runV (As := [.int 0]) (rest := []) ⟨hx, hb, hml, hown, hts⟩ (c_X13_done (l := l) Mg1 a0 0 k0 h4) (cwV 1 hts gX13_odds_X13_done rfl rfl rfl hdV_X13_done ⟨Nat.le_of_ble_eq_true rfl, Nat.le_of_ble_eq_true rfl⟩) (pV (T := TX13) hP hK hD hT hG hS k0 (by decide) rfl) rfl rfl hl.1 rfl (lv_room (Nat.le_of_ble_eq_true rfl)) dX13_odds_34 ⟨Nat.zero_le _, Nat.zero_le _⟩) hS (fun H locs hP hD hT hS => ?_)
      refine lv_pop hx hb dX13_odds_37 rfl ?_
      refine lv_iload_n hx hb dX13_odds_38 rfl (lv_at hl 1 rfl) ?_
      refine lv_iconst (v := (-1)) hx hb dX13_odds_39 rfl ?_
      refine lv_icmp_eq (tgt := 50) hx hb dX13_odds_40 rfl (fun c5 => ?_) (fun c5 => ?_)
      · replace h := ite_t c5 h
        refine lv_lconst (v := 0) hx hb dX13_odds_50 rfl ?_
        refine lv_lstore_n (lv' := [(2, .long 0), (0, .ref (ad a0)), (1, .int x1)]) hx hb dX13_odds_51 rfl hl (by decide) rfl (fun ls hl => ?_)
        refine lv_iconst (v := 0) hx hb dX13_odds_52 rfl ?_
        refine lv_istore (lv' := [(4, .int 0), (2, .long 0), (0, .ref (ad a0)), (1, .int x1)]) hx hb dX13_odds_53 hl (by decide) rfl (fun ls hl => ?_)
        have L6 : ∀ n6 : Nat, ∀ (M6 : MM) (y6_0 : Nat) (y6_2 : Int64) (y6_4 : Int32) (ky6_0 : ok g y6_0 13 0) (H : Heap) (locs : List Loc), f_X13_odds_L55 n6 M6 y6_0 y6_2 y6_4 = some Z → va_P D vwCl (wd ad cy g M6) H → va_D A (wd ad cy g M6) → WT g M6 → va_S A s.heap H locs → ∀ (ls : Array Slot), lv_has ls 5 [(0, .ref (ad y6_0)), (2, .long y6_2), (4, .int y6_4)] → W p l e ((headSpec wsX13_odds ({ frames := 3, cells := 0, slots := 0, locals := 75 })).room) s m (([.ref (ad a0), .int x1] : List Value).toArray) below meth c H locs 0 0 (MQ below (va_Ql (fun r u => r = Z.1 ∧ u = Z.2) (Wd D ad cy A g q) A) ([.ref (ad a0), .int x1]).toArray s 0 0 A) (F0 m 55 ls []) := by
          intro n6
          induction n6 with
          | zero => intro M6 y6_0 y6_2 y6_4 ky6_0 H locs h; exact absurd h (by simp [f_X13_odds_L55])
          | succ n6 ih6 =>
            intro M6 y6_0 y6_2 y6_4 ky6_0 H locs h hP hD hT hS ls hl
            rw [f_X13_odds_L55] at h
            refine lv_iload hx hb dX13_odds_55 (lv_at hl 2 rfl) ?_
            refine lv_aload_n hx hb dX13_odds_57 rfl (lv_at hl 0 rfl) ?_
            rcases hN7 : gR M6 y6_0 3 with _ | b7
            · replace h := oc_n hN7 h
              refine r_get (T := TX13) (v := .null) hx hb hts in13 hown hK hP ky6_0 (by decide) rfl 3 (by decide) (hts (.fieldLink RX13 431 "StoneWalkModel" "island" "LStoneWalkModel$Island;") (List.mem_of_getElem? (i := 2) (by decide +kernel))) rfl (t := 2) rfl (by show va_rf _ = _; rw [hN7]; rfl) dX13_odds_58 ?_
              exact absurd h (by simp)
            · replace h := oc_s hN7 h
              have kb7 := hT.f ky6_0 (k := 3) (t := 12) (n := 0) rfl hN7
              refine r_get (T := TX13) (v := .ref (ad b7)) hx hb hts in13 hown hK hP ky6_0 (by decide) rfl 3 (by decide) (hts (.fieldLink RX13 431 "StoneWalkModel" "island" "LStoneWalkModel$Island;") (List.mem_of_getElem? (i := 2) (by decide +kernel))) rfl (t := 2) rfl (by show va_rf _ = _; rw [hN7]; rfl) dX13_odds_58 ?_
              refine r_getN (T := TX12) (v := .int (gI M6 b7 0)) hx hb hts in12 hown hK hP kb7 (by decide) rfl 0 (by decide) (hG.2.2.1 ("StoneWalkModel", 185, "StoneWalkModel$Island", "ways", "I", "StoneWalkModel") (List.mem_of_getElem? (i := 5) rfl)) rfl (t := 0) rfl rfl dX13_odds_61 ?_
              refine lv_icmp_ge (tgt := 83) hx hb dX13_odds_64 rfl (fun c8 => ?_) (fun c8 => ?_)
              · replace h := ite_t c8 h
                refine lv_lload_n hx hb dX13_odds_83 rfl (lv_at hl 1 rfl) ?_
                have hZ := Option.some.inj h
                have hZ1 := congrArg Prod.fst hZ
                have hZ2 := congrArg Prod.snd hZ
                exact r_lret hx hb hr hlocks hP hK hD hT hG hS hZ1 hZ2 dX13_odds_84
              · replace h := ite_f c8 h
                refine lv_lload_n hx hb dX13_odds_67 rfl (lv_at hl 1 rfl) ?_
                refine lv_aload_n hx hb dX13_odds_68 rfl (lv_at hl 0 rfl) ?_
                refine lv_iload hx hb dX13_odds_69 (lv_at hl 2 rfl) ?_
                refine lv_iconst (v := (-1)) hx hb dX13_odds_71 rfl ?_
                obtain ⟨z9, h9, h⟩ := ob_some h
                refine k_l (va_runV (As := [.int y6_4, .int (-1)]) (rest := [.long y6_2]) ⟨hx, hb, hml, hown, hts⟩ (c_X13_oddsOf (l := l) M6 y6_0 y6_4 (-1) ky6_0 h9) (cwV 2 hts gX13_odds_X13_oddsOf rfl rfl rfl hdV_X13_oddsOf ⟨Nat.le_of_ble_eq_true rfl, Nat.le_of_ble_eq_true rfl⟩) (pV (T := TX13) hP hK hD hT hG hS ky6_0 (by decide) rfl) rfl rfl hl.1 rfl (lv_room (Nat.le_of_ble_eq_true rfl)) dX13_odds_72 ⟨Nat.zero_le _, Nat.zero_le _⟩) hS (fun H locs hP hD hT hS => ?_)
                refine lv_ladd hx hb dX13_odds_75 ?_
                refine lv_lstore_n (lv' := [(2, .long (y6_2 + z9)), (0, .ref (ad y6_0)), (4, .int y6_4)]) hx hb dX13_odds_76 rfl hl (by decide) rfl (fun ls hl => ?_)
                refine lv_iinc (v := y6_4 + 1) (lv' := [(4, .int (y6_4 + 1)), (2, .long (y6_2 + z9)), (0, .ref (ad y6_0))]) hx hb dX13_odds_77 hl (k := 2) rfl rfl (by decide) rfl (fun ls hl => ?_)
                refine lv_goto (tgt := 55) hx hb dX13_odds_80 rfl ?_
                exact ih6 M6 y6_0 (y6_2 + z9) (y6_4 + 1) ky6_0 _ _ h hP hD hT hS ls (lv_sub hl [2, 1, 0] rfl)
        exact L6 FU z4.2 a0 0 0 k0 _ _ h hP hD hT hS ls (lv_sub hl [2, 1, 0] rfl)
      · replace h := ite_f c5 h
        refine lv_aload_n hx hb dX13_odds_43 rfl (lv_at hl 0 rfl) ?_
        refine lv_iload_n hx hb dX13_odds_44 rfl (lv_at hl 1 rfl) ?_
        refine lv_iconst (v := (-1)) hx hb dX13_odds_45 rfl ?_
        obtain ⟨z10, h10, h⟩ := ob_some h
        refine k_l (va_runV (As := [.int x1, .int (-1)]) (rest := []) ⟨hx, hb, hml, hown, hts⟩ (c_X13_oddsOf (l := l) z4.2 a0 x1 (-1) k0 h10) (cwV 2 hts gX13_odds_X13_oddsOf rfl rfl rfl hdV_X13_oddsOf ⟨Nat.le_of_ble_eq_true rfl, Nat.le_of_ble_eq_true rfl⟩) (pV (T := TX13) hP hK hD hT hG hS k0 (by decide) rfl) rfl rfl hl.1 rfl (lv_room (Nat.le_of_ble_eq_true rfl)) dX13_odds_46 ⟨Nat.zero_le _, Nat.zero_le _⟩) hS (fun H locs hP hD hT hS => ?_)
        have hZ := Option.some.inj h
        have hZ1 := congrArg Prod.fst hZ
        have hZ2 := congrArg Prod.snd hZ
        exact r_lret hx hb hr hlocks hP hK hD hT hG hS hZ1 hZ2 dX13_odds_49
    · replace h := ite_f c3 h
      refine lv_aload_n hx hb dX13_odds_17 rfl (lv_at hl 0 rfl) ?_
      refine lv_iload_n hx hb dX13_odds_18 rfl (lv_at hl 1 rfl) ?_
      obtain ⟨z11, h11, h⟩ := ob_some h
      refine k_z (va_runV (As := [.int x1]) (rest := []) ⟨hx, hb, hml, hown, hts⟩ (c_X13_isWay (l := l) Mg1 a0 x1 k0 h11) (cwV 1 hts gX13_odds_X13_isWay rfl rfl rfl hdV_X13_isWay ⟨Nat.le_of_ble_eq_true rfl, Nat.le_of_ble_eq_true rfl⟩) (pV (T := TX13) hP hK hD hT hG hS k0 (by decide) rfl) rfl rfl hl.1 rfl (lv_room (Nat.le_of_ble_eq_true rfl)) dX13_odds_19 ⟨Nat.zero_le _, Nat.zero_le _⟩) hS (fun H locs hz11 hP hD hT hS => ?_)
      refine lv_if_ne (tgt := 32) hx hb dX13_odds_22 rfl (fun c12 => ?_) (fun c12 => ?_)
      · replace h := ite_f c12 h
        refine lv_aload_n hx hb dX13_odds_32 rfl (lv_at hl 0 rfl) ?_
        refine lv_iconst (v := 0) hx hb dX13_odds_33 rfl ?_
        obtain ⟨z13, h13, h⟩ := ob_some h
        refine k_i (va_runV (As := [.int 0]) (rest := []) ⟨hx, hb, hml, hown, hts⟩ (c_X13_done (l := l) Mg1 a0 0 k0 h13) (cwV 1 hts gX13_odds_X13_done rfl rfl rfl hdV_X13_done ⟨Nat.le_of_ble_eq_true rfl, Nat.le_of_ble_eq_true rfl⟩) (pV (T := TX13) hP hK hD hT hG hS k0 (by decide) rfl) rfl rfl hl.1 rfl (lv_room (Nat.le_of_ble_eq_true rfl)) dX13_odds_34 ⟨Nat.zero_le _, Nat.zero_le _⟩) hS (fun H locs hP hD hT hS => ?_)
        refine lv_pop hx hb dX13_odds_37 rfl ?_
        refine lv_iload_n hx hb dX13_odds_38 rfl (lv_at hl 1 rfl) ?_
        refine lv_iconst (v := (-1)) hx hb dX13_odds_39 rfl ?_
        refine lv_icmp_eq (tgt := 50) hx hb dX13_odds_40 rfl (fun c14 => ?_) (fun c14 => ?_)
        · replace h := ite_t c14 h
          refine lv_lconst (v := 0) hx hb dX13_odds_50 rfl ?_
          refine lv_lstore_n (lv' := [(2, .long 0), (0, .ref (ad a0)), (1, .int x1)]) hx hb dX13_odds_51 rfl hl (by decide) rfl (fun ls hl => ?_)
          refine lv_iconst (v := 0) hx hb dX13_odds_52 rfl ?_
          refine lv_istore (lv' := [(4, .int 0), (2, .long 0), (0, .ref (ad a0)), (1, .int x1)]) hx hb dX13_odds_53 hl (by decide) rfl (fun ls hl => ?_)
          have L15 : ∀ n15 : Nat, ∀ (M15 : MM) (y15_0 : Nat) (y15_2 : Int64) (y15_4 : Int32) (ky15_0 : ok g y15_0 13 0) (H : Heap) (locs : List Loc), f_X13_odds_L55_1 n15 M15 y15_0 y15_2 y15_4 = some Z → va_P D vwCl (wd ad cy g M15) H → va_D A (wd ad cy g M15) → WT g M15 → va_S A s.heap H locs → ∀ (ls : Array Slot), lv_has ls 5 [(0, .ref (ad y15_0)), (2, .long y15_2), (4, .int y15_4)] → W p l e ((headSpec wsX13_odds ({ frames := 3, cells := 0, slots := 0, locals := 75 })).room) s m (([.ref (ad a0), .int x1] : List Value).toArray) below meth c H locs 0 0 (MQ below (va_Ql (fun r u => r = Z.1 ∧ u = Z.2) (Wd D ad cy A g q) A) ([.ref (ad a0), .int x1]).toArray s 0 0 A) (F0 m 55 ls []) := by
            intro n15
            induction n15 with
            | zero => intro M15 y15_0 y15_2 y15_4 ky15_0 H locs h; exact absurd h (by simp [f_X13_odds_L55_1])
            | succ n15 ih15 =>
              intro M15 y15_0 y15_2 y15_4 ky15_0 H locs h hP hD hT hS ls hl
              rw [f_X13_odds_L55_1] at h
              refine lv_iload hx hb dX13_odds_55 (lv_at hl 2 rfl) ?_
              refine lv_aload_n hx hb dX13_odds_57 rfl (lv_at hl 0 rfl) ?_
              rcases hN16 : gR M15 y15_0 3 with _ | b16
              · replace h := oc_n hN16 h
                refine r_get (T := TX13) (v := .null) hx hb hts in13 hown hK hP ky15_0 (by decide) rfl 3 (by decide) (hts (.fieldLink RX13 431 "StoneWalkModel" "island" "LStoneWalkModel$Island;") (List.mem_of_getElem? (i := 2) (by decide +kernel))) rfl (t := 2) rfl (by show va_rf _ = _; rw [hN16]; rfl) dX13_odds_58 ?_
                exact absurd h (by simp)
              · replace h := oc_s hN16 h
                have kb16 := hT.f ky15_0 (k := 3) (t := 12) (n := 0) rfl hN16
                refine r_get (T := TX13) (v := .ref (ad b16)) hx hb hts in13 hown hK hP ky15_0 (by decide) rfl 3 (by decide) (hts (.fieldLink RX13 431 "StoneWalkModel" "island" "LStoneWalkModel$Island;") (List.mem_of_getElem? (i := 2) (by decide +kernel))) rfl (t := 2) rfl (by show va_rf _ = _; rw [hN16]; rfl) dX13_odds_58 ?_
                refine r_getN (T := TX12) (v := .int (gI M15 b16 0)) hx hb hts in12 hown hK hP kb16 (by decide) rfl 0 (by decide) (hG.2.2.1 ("StoneWalkModel", 185, "StoneWalkModel$Island", "ways", "I", "StoneWalkModel") (List.mem_of_getElem? (i := 5) rfl)) rfl (t := 0) rfl rfl dX13_odds_61 ?_
                refine lv_icmp_ge (tgt := 83) hx hb dX13_odds_64 rfl (fun c17 => ?_) (fun c17 => ?_)
                · replace h := ite_t c17 h
                  refine lv_lload_n hx hb dX13_odds_83 rfl (lv_at hl 1 rfl) ?_
                  have hZ := Option.some.inj h
                  have hZ1 := congrArg Prod.fst hZ
                  have hZ2 := congrArg Prod.snd hZ
                  exact r_lret hx hb hr hlocks hP hK hD hT hG hS hZ1 hZ2 dX13_odds_84
                · replace h := ite_f c17 h
                  refine lv_lload_n hx hb dX13_odds_67 rfl (lv_at hl 1 rfl) ?_
                  refine lv_aload_n hx hb dX13_odds_68 rfl (lv_at hl 0 rfl) ?_
                  refine lv_iload hx hb dX13_odds_69 (lv_at hl 2 rfl) ?_
                  refine lv_iconst (v := (-1)) hx hb dX13_odds_71 rfl ?_
                  obtain ⟨z18, h18, h⟩ := ob_some h
                  refine k_l (va_runV (As := [.int y15_4, .int (-1)]) (rest := [.long y15_2]) ⟨hx, hb, hml, hown, hts⟩ (c_X13_oddsOf (l := l) M15 y15_0 y15_4 (-1) ky15_0 h18) (cwV 2 hts gX13_odds_X13_oddsOf rfl rfl rfl hdV_X13_oddsOf ⟨Nat.le_of_ble_eq_true rfl, Nat.le_of_ble_eq_true rfl⟩) (pV (T := TX13) hP hK hD hT hG hS ky15_0 (by decide) rfl) rfl rfl hl.1 rfl (lv_room (Nat.le_of_ble_eq_true rfl)) dX13_odds_72 ⟨Nat.zero_le _, Nat.zero_le _⟩) hS (fun H locs hP hD hT hS => ?_)
                  refine lv_ladd hx hb dX13_odds_75 ?_
                  refine lv_lstore_n (lv' := [(2, .long (y15_2 + z18)), (0, .ref (ad y15_0)), (4, .int y15_4)]) hx hb dX13_odds_76 rfl hl (by decide) rfl (fun ls hl => ?_)
                  refine lv_iinc (v := y15_4 + 1) (lv' := [(4, .int (y15_4 + 1)), (2, .long (y15_2 + z18)), (0, .ref (ad y15_0))]) hx hb dX13_odds_77 hl (k := 2) rfl rfl (by decide) rfl (fun ls hl => ?_)
                  refine lv_goto (tgt := 55) hx hb dX13_odds_80 rfl ?_
                  exact ih15 M15 y15_0 (y15_2 + z18) (y15_4 + 1) ky15_0 _ _ h hP hD hT hS ls (lv_sub hl [2, 1, 0] rfl)
          exact L15 FU z13.2 a0 0 0 k0 _ _ h hP hD hT hS ls (lv_sub hl [2, 1, 0] rfl)
        · replace h := ite_f c14 h
          refine lv_aload_n hx hb dX13_odds_43 rfl (lv_at hl 0 rfl) ?_
          refine lv_iload_n hx hb dX13_odds_44 rfl (lv_at hl 1 rfl) ?_
          refine lv_iconst (v := (-1)) hx hb dX13_odds_45 rfl ?_
          obtain ⟨z19, h19, h⟩ := ob_some h
          refine k_l (va_runV (As := [.int x1, .int (-1)]) (rest := []) ⟨hx, hb, hml, hown, hts⟩ (c_X13_oddsOf (l := l) z13.2 a0 x1 (-1) k0 h19) (cwV 2 hts gX13_odds_X13_oddsOf rfl rfl rfl hdV_X13_oddsOf ⟨Nat.le_of_ble_eq_true rfl, Nat.le_of_ble_eq_true rfl⟩) (pV (T := TX13) hP hK hD hT hG hS k0 (by decide) rfl) rfl rfl hl.1 rfl (lv_room (Nat.le_of_ble_eq_true rfl)) dX13_odds_46 ⟨Nat.zero_le _, Nat.zero_le _⟩) hS (fun H locs hP hD hT hS => ?_)
          have hZ := Option.some.inj h
          have hZ1 := congrArg Prod.fst hZ
          have hZ2 := congrArg Prod.snd hZ
          exact r_lret hx hb hr hlocks hP hK hD hT hG hS hZ1 hZ2 dX13_odds_49
      · replace h := ite_t c12 h
        refine lv_aload_n hx hb dX13_odds_25 rfl (lv_at hl 0 rfl) ?_
        refine lv_iconst (v := 1) hx hb dX13_odds_26 rfl ?_
        obtain ⟨z20, h20, h⟩ := ob_some h
        refine k_i (va_runV (As := [.int 1]) (rest := []) ⟨hx, hb, hml, hown, hts⟩ (c_X13_refused (l := l) Mg1 a0 1 k0 h20) (cwV 1 hts gX13_odds_X13_refused rfl rfl rfl hdV_X13_refused ⟨Nat.le_of_ble_eq_true rfl, Nat.le_of_ble_eq_true rfl⟩) (pV (T := TX13) hP hK hD hT hG hS k0 (by decide) rfl) rfl rfl hl.1 rfl (lv_room (Nat.le_of_ble_eq_true rfl)) dX13_odds_27 ⟨Nat.zero_le _, Nat.zero_le _⟩) hS (fun H locs hP hD hT hS => ?_)
        refine lv_i2l hx hb dX13_odds_30 rfl ?_
        have hZ := Option.some.inj h
        have hZ1 := congrArg Prod.fst hZ
        have hZ2 := congrArg Prod.snd hZ
        exact r_lret hx hb hr hlocks hP hK hD hT hG hS hZ1 hZ2 dX13_odds_31
set_option maxHeartbeats 4000000 in
set_option maxRecDepth 100000 in
theorem c_X13_likeliestOf {l : Launch} {D : va_G} {ad : Nat → Nat} {cy : Nat → ClassId} {A : Nat → Prop} {g : CG} {q : SE} (M : MM) (a0 : Nat) (x1 : Int32) (k0 : ok g a0 13 0) {Z : Int32} (h : f_X13_likeliestOf M a0 x1 = some Z) : Met l yX13_likeliestOf wsX13_likeliestOf ({ frames := 3, cells := 0, slots := 0, locals := 75 }) (va_Pc [.ref (ad a0), .int x1] (Wd D ad cy A g q M)) (va_Qi (fun r u => r = Z ∧ u = M) (Wd D ad cy A g q) A) 0 0 A := by
  refine Met.ofW (cc := cX13_likeliestOf) (maxL := 4) (ret := (some .int)) (by decide) rfl ?_
  intro p e s m args below meth c s₁ B hml hv
  obtain ⟨rfl, hP, hK, hD, hT, hG⟩ := hv
  have hx := B.exec
  have hb := B.bytes
  have hr := B.returns
  have hts := atoms_spec (ws := wsX13_likeliestOf) B.pre
  have hown : s.vm.findClass RX13 = some m.cls := findClass_of_methodNamed B.named
  have hlocks := B.notSynchronized
  have in12 : ∀ w ∈ u_ws RX12 TX12 48, w ∈ wsX13_likeliestOf := fun w h => List.mem_cons_of_mem _ (List.mem_append_right _ h)
  have in13 : ∀ w ∈ u_ws RX13 TX13 29, w ∈ wsX13_likeliestOf := fun w h => List.mem_cons_of_mem _ (List.mem_append_left _ (List.mem_append_right _ h))
  have hS : va_S A s.heap s.heap [] := va_S.rf
  have hl := lv_entry ([.ref (ad a0), .int x1]) (n := 4) (Nat.le_of_ble_eq_true rfl)
  rw [lg_entry_eq]
  generalize (lg_sl ([.ref (ad a0), .int x1]) ++ List.replicate (4 - (lg_sl ([.ref (ad a0), .int x1])).length) Slot.unset).toArray = ls at hl ⊢
  have hl : lv_has ls 4 [(0, .ref (ad a0)), (1, .int x1)] := hl
  unfold f_X13_likeliestOf at h
  refine lv_iconst (v := 0) hx hb dX13_likeliestOf_0 rfl ?_
  refine lv_istore_n (lv' := [(2, .int 0), (0, .ref (ad a0)), (1, .int x1)]) hx hb dX13_likeliestOf_1 rfl hl (by decide) rfl (fun ls hl => ?_)
  refine lv_iconst (v := 1) hx hb dX13_likeliestOf_2 rfl ?_
  refine lv_istore_n (lv' := [(3, .int 1), (2, .int 0), (0, .ref (ad a0)), (1, .int x1)]) hx hb dX13_likeliestOf_3 rfl hl (by decide) rfl (fun ls hl => ?_)
  have L1 : ∀ n1 : Nat, ∀ (y1_0 : Nat) (y1_1 : Int32) (y1_2 : Int32) (y1_3 : Int32) (ky1_0 : ok g y1_0 13 0) (H : Heap) (locs : List Loc), f_X13_likeliestOf_L4 n1 M y1_0 y1_1 y1_2 y1_3 = some Z → va_P D vwCl (wd ad cy g M) H → va_D A (wd ad cy g M) → WT g M → va_S A s.heap H locs → ∀ (ls : Array Slot), lv_has ls 4 [(0, .ref (ad y1_0)), (1, .int y1_1), (2, .int y1_2), (3, .int y1_3)] → W p l e ((headSpec wsX13_likeliestOf ({ frames := 3, cells := 0, slots := 0, locals := 75 })).room) s m (([.ref (ad a0), .int x1] : List Value).toArray) below meth c H locs 0 0 (MQ below (va_Qi (fun r u => r = Z ∧ u = M) (Wd D ad cy A g q) A) ([.ref (ad a0), .int x1]).toArray s 0 0 A) (F0 m 4 ls []) := by
    intro n1
    induction n1 with
    | zero => intro y1_0 y1_1 y1_2 y1_3 ky1_0 H locs h; exact absurd h (by simp [f_X13_likeliestOf_L4])
    | succ n1 ih1 =>
      intro y1_0 y1_1 y1_2 y1_3 ky1_0 H locs h hP hD hT hS ls hl
      rw [f_X13_likeliestOf_L4] at h
      refine lv_iload_n hx hb dX13_likeliestOf_4 rfl (lv_at hl 3 rfl) ?_
      refine lv_aload_n hx hb dX13_likeliestOf_5 rfl (lv_at hl 0 rfl) ?_
      rcases hN2 : gR M y1_0 3 with _ | b2
      · replace h := oc_n hN2 h
        refine r_get (T := TX13) (v := .null) hx hb hts in13 hown hK hP ky1_0 (by decide) rfl 3 (by decide) (hts (.fieldLink RX13 431 "StoneWalkModel" "island" "LStoneWalkModel$Island;") (List.mem_of_getElem? (i := 1) (by decide +kernel))) rfl (t := 2) rfl (by show va_rf _ = _; rw [hN2]; rfl) dX13_likeliestOf_6 ?_
        exact absurd h (by simp)
      · replace h := oc_s hN2 h
        have kb2 := hT.f ky1_0 (k := 3) (t := 12) (n := 0) rfl hN2
        refine r_get (T := TX13) (v := .ref (ad b2)) hx hb hts in13 hown hK hP ky1_0 (by decide) rfl 3 (by decide) (hts (.fieldLink RX13 431 "StoneWalkModel" "island" "LStoneWalkModel$Island;") (List.mem_of_getElem? (i := 1) (by decide +kernel))) rfl (t := 2) rfl (by show va_rf _ = _; rw [hN2]; rfl) dX13_likeliestOf_6 ?_
        refine r_getN (T := TX12) (v := .int (gI M b2 0)) hx hb hts in12 hown hK hP kb2 (by decide) rfl 0 (by decide) (hG.2.2.1 ("StoneWalkModel", 185, "StoneWalkModel$Island", "ways", "I", "StoneWalkModel") (List.mem_of_getElem? (i := 5) rfl)) rfl (t := 0) rfl rfl dX13_likeliestOf_9 ?_
        refine lv_icmp_ge (tgt := 39) hx hb dX13_likeliestOf_12 rfl (fun c3 => ?_) (fun c3 => ?_)
        · replace h := ite_t c3 h
          refine lv_iload_n hx hb dX13_likeliestOf_39 rfl (lv_at hl 2 rfl) ?_
          exact r_iret hx hb hr hlocks hP hK hD hT hG hS (Option.some.inj h) rfl dX13_likeliestOf_40
        · replace h := ite_f c3 h
          refine lv_aload_n hx hb dX13_likeliestOf_15 rfl (lv_at hl 0 rfl) ?_
          refine lv_iload_n hx hb dX13_likeliestOf_16 rfl (lv_at hl 3 rfl) ?_
          refine lv_iload_n hx hb dX13_likeliestOf_17 rfl (lv_at hl 1 rfl) ?_
          obtain ⟨z4, h4, h⟩ := ob_some h
          refine k_l (va_runV (As := [.int y1_3, .int y1_1]) (rest := []) ⟨hx, hb, hml, hown, hts⟩ (c_X13_oddsOf (l := l) M y1_0 y1_3 y1_1 ky1_0 h4) (cwV 2 hts gX13_likeliestOf_X13_oddsOf rfl rfl rfl hdV_X13_oddsOf ⟨Nat.le_of_ble_eq_true rfl, Nat.le_of_ble_eq_true rfl⟩) (pV (T := TX13) hP hK hD hT hG hS ky1_0 (by decide) rfl) rfl rfl hl.1 rfl (lv_room (Nat.le_of_ble_eq_true rfl)) dX13_likeliestOf_18 ⟨Nat.zero_le _, Nat.zero_le _⟩) hS (fun H locs hP hD hT hS => ?_)
          refine lv_aload_n hx hb dX13_likeliestOf_21 rfl (lv_at hl 0 rfl) ?_
          refine lv_iload_n hx hb dX13_likeliestOf_22 rfl (lv_at hl 2 rfl) ?_
          refine lv_iload_n hx hb dX13_likeliestOf_23 rfl (lv_at hl 1 rfl) ?_
          obtain ⟨z5, h5, h⟩ := ob_some h
          refine k_l (va_runV (As := [.int y1_2, .int y1_1]) (rest := [.long z4]) ⟨hx, hb, hml, hown, hts⟩ (c_X13_oddsOf (l := l) M y1_0 y1_2 y1_1 ky1_0 h5) (cwV 2 hts gX13_likeliestOf_X13_oddsOf rfl rfl rfl hdV_X13_oddsOf ⟨Nat.le_of_ble_eq_true rfl, Nat.le_of_ble_eq_true rfl⟩) (pV (T := TX13) hP hK hD hT hG hS ky1_0 (by decide) rfl) rfl rfl hl.1 rfl (lv_room (Nat.le_of_ble_eq_true rfl)) dX13_likeliestOf_24 ⟨Nat.zero_le _, Nat.zero_le _⟩) hS (fun H locs hP hD hT hS => ?_)
          refine W.lcmp hx hb dX13_likeliestOf_27 ?_
          refine lv_if_le (tgt := 33) hx hb dX13_likeliestOf_28 rfl (fun c6 => ?_) (fun c6 => ?_)
          · replace h := ite_t c6 h
            refine lv_iinc (v := y1_3 + 1) (lv' := [(3, .int (y1_3 + 1)), (0, .ref (ad y1_0)), (1, .int y1_1), (2, .int y1_2)]) hx hb dX13_likeliestOf_33 hl (k := 3) rfl rfl (by decide) rfl (fun ls hl => ?_)
            refine lv_goto (tgt := 4) hx hb dX13_likeliestOf_36 rfl ?_
            exact ih1 y1_0 y1_1 y1_2 (y1_3 + 1) ky1_0 _ _ h hP hD hT hS ls (lv_sub hl [1, 2, 3, 0] rfl)
          · replace h := ite_f c6 h
            refine lv_iload_n hx hb dX13_likeliestOf_31 rfl (lv_at hl 3 rfl) ?_
            refine lv_istore_n (lv' := [(2, .int y1_3), (0, .ref (ad y1_0)), (1, .int y1_1), (3, .int y1_3)]) hx hb dX13_likeliestOf_32 rfl hl (by decide) rfl (fun ls hl => ?_)
            refine lv_iinc (v := y1_3 + 1) (lv' := [(3, .int (y1_3 + 1)), (2, .int y1_3), (0, .ref (ad y1_0)), (1, .int y1_1)]) hx hb dX13_likeliestOf_33 hl (k := 3) rfl rfl (by decide) rfl (fun ls hl => ?_)
            refine lv_goto (tgt := 4) hx hb dX13_likeliestOf_36 rfl ?_
            exact ih1 y1_0 y1_1 y1_3 (y1_3 + 1) ky1_0 _ _ h hP hD hT hS ls (lv_sub hl [2, 3, 1, 0] rfl)
  exact L1 FU a0 x1 0 1 k0 _ _ h hP hD hT hS ls (lv_sub hl [2, 3, 1, 0] rfl)
set_option maxHeartbeats 4000000 in
set_option maxRecDepth 100000 in
theorem c_X13_likeliest {l : Launch} {D : va_G} {ad : Nat → Nat} {cy : Nat → ClassId} {A : Nat → Prop} {g : CG} {q : SE} (M : MM) (a0 : Nat) (k0 : ok g a0 13 0) {Z : (Int32 × MM)} (h : f_X13_likeliest M a0 = some Z) : Met l yX13_likeliest wsX13_likeliest ({ frames := 4, cells := 0, slots := 0, locals := 98 }) (va_Pc [.ref (ad a0)] (Wd D ad cy A g q M)) (va_Qi (fun r u => r = Z.1 ∧ u = Z.2) (Wd D ad cy A g q) A) 0 0 A := by
  refine Met.ofW (cc := cX13_likeliest) (maxL := 1) (ret := (some .int)) (by decide) rfl ?_
  intro p e s m args below meth c s₁ B hml hv
  obtain ⟨rfl, hP, hK, hD, hT, hG⟩ := hv
  have hx := B.exec
  have hb := B.bytes
  have hr := B.returns
  have hts := atoms_spec (ws := wsX13_likeliest) B.pre
  have hown : s.vm.findClass RX13 = some m.cls := findClass_of_methodNamed B.named
  have hlocks := B.notSynchronized
  have in13 : ∀ w ∈ u_ws RX13 TX13 29, w ∈ wsX13_likeliest := fun w h => List.mem_cons_of_mem _ (List.mem_append_left _ (List.mem_append_right _ h))
  have hS : va_S A s.heap s.heap [] := va_S.rf
  have hl := lv_entry ([.ref (ad a0)]) (n := 1) (Nat.le_of_ble_eq_true rfl)
  rw [lg_entry_eq]
  generalize (lg_sl ([.ref (ad a0)]) ++ List.replicate (1 - (lg_sl ([.ref (ad a0)])).length) Slot.unset).toArray = ls at hl ⊢
  have hl : lv_has ls 1 [(0, .ref (ad a0))] := hl
  unfold f_X13_likeliest at h
  refine lv_aload_n hx hb dX13_likeliest_0 rfl (lv_at hl 0 rfl) ?_
  refine lv_iconst (v := 0) hx hb dX13_likeliest_1 rfl ?_
  refine r_putI (T := TX13) (ty := .int) (v := 0) hx hb hts in13 tyX13 tyX13_ok nmX13 hown hK hP hD hT hS k0 (by decide) rfl 0 (by decide) (hts (.fieldLink RX13 30 "StoneWalkModel" "thrown" "I") (List.mem_of_getElem? (i := 1) (by decide +kernel))) rfl rfl (tyX13_ok 0 (by decide)) rfl rfl rfl dX13_likeliest_2 (fun H locs hP hD hT hS => ?_)
  generalize pI M a0 0 0 = Mg1 at h hP hD hT ⊢
  refine lv_aload_n hx hb dX13_likeliest_5 rfl (lv_at hl 0 rfl) ?_
  rcases hN1 : gR Mg1 a0 3 with _ | b1
  · replace h := oc_n hN1 h
    refine r_get (T := TX13) (v := .null) hx hb hts in13 hown hK hP k0 (by decide) rfl 3 (by decide) (hts (.fieldLink RX13 431 "StoneWalkModel" "island" "LStoneWalkModel$Island;") (List.mem_of_getElem? (i := 2) (by decide +kernel))) rfl (t := 2) rfl (by show va_rf _ = _; rw [hN1]; rfl) dX13_likeliest_6 ?_
    refine lv_ifnonnullN hx hb dX13_likeliest_9 ?_
    refine lv_aload_n hx hb dX13_likeliest_12 rfl (lv_at hl 0 rfl) ?_
    refine lv_iconst (v := 1) hx hb dX13_likeliest_13 rfl ?_
    obtain ⟨z2, h2, h⟩ := ob_some h
    refine k_i (va_runV (As := [.int 1]) (rest := []) ⟨hx, hb, hml, hown, hts⟩ (c_X13_refused (l := l) Mg1 a0 1 k0 h2) (cwV 1 hts gX13_likeliest_X13_refused rfl rfl rfl hdV_X13_refused ⟨Nat.le_of_ble_eq_true rfl, Nat.le_of_ble_eq_true rfl⟩) (pV (T := TX13) hP hK hD hT hG hS k0 (by decide) rfl) rfl rfl hl.1 rfl (lv_room (Nat.le_of_ble_eq_true rfl)) dX13_likeliest_14 ⟨Nat.zero_le _, Nat.zero_le _⟩) hS (fun H locs hP hD hT hS => ?_)
    refine lv_goto (tgt := 29) hx hb dX13_likeliest_17 rfl ?_
    have hZ := Option.some.inj h
    have hZ1 := congrArg Prod.fst hZ
    have hZ2 := congrArg Prod.snd hZ
    exact r_iret hx hb hr hlocks hP hK hD hT hG hS hZ1 hZ2 dX13_likeliest_29
  · replace h := oc_s hN1 h
    have kb1 := hT.f k0 (k := 3) (t := 12) (n := 0) rfl hN1
    refine r_get (T := TX13) (v := .ref (ad b1)) hx hb hts in13 hown hK hP k0 (by decide) rfl 3 (by decide) (hts (.fieldLink RX13 431 "StoneWalkModel" "island" "LStoneWalkModel$Island;") (List.mem_of_getElem? (i := 2) (by decide +kernel))) rfl (t := 2) rfl (by show va_rf _ = _; rw [hN1]; rfl) dX13_likeliest_6 ?_
    refine lv_ifnonnull (tgt := 20) hx hb dX13_likeliest_9 rfl ?_
    refine lv_aload_n hx hb dX13_likeliest_20 rfl (lv_at hl 0 rfl) ?_
    refine lv_aload_n hx hb dX13_likeliest_21 rfl (lv_at hl 0 rfl) ?_
    refine lv_iconst (v := (-1)) hx hb dX13_likeliest_22 rfl ?_
    obtain ⟨z3, h3, h⟩ := ob_some h
    refine k_i (va_runV (As := [.int (-1)]) (rest := [.ref (ad a0)]) ⟨hx, hb, hml, hown, hts⟩ (c_X13_likeliestOf (l := l) Mg1 a0 (-1) k0 h3) (cwV 1 hts gX13_likeliest_X13_likeliestOf rfl rfl rfl hdV_X13_likeliestOf ⟨Nat.le_of_ble_eq_true rfl, Nat.le_of_ble_eq_true rfl⟩) (pV (T := TX13) hP hK hD hT hG hS k0 (by decide) rfl) rfl rfl hl.1 rfl (lv_room (Nat.le_of_ble_eq_true rfl)) dX13_likeliest_23 ⟨Nat.zero_le _, Nat.zero_le _⟩) hS (fun H locs hP hD hT hS => ?_)
    obtain ⟨z4, h4, h⟩ := ob_some h
    refine k_i (va_runV (As := [.int z3]) (rest := []) ⟨hx, hb, hml, hown, hts⟩ (c_X13_done (l := l) Mg1 a0 z3 k0 h4) (cwV 1 hts gX13_likeliest_X13_done rfl rfl rfl hdV_X13_done ⟨Nat.le_of_ble_eq_true rfl, Nat.le_of_ble_eq_true rfl⟩) (pV (T := TX13) hP hK hD hT hG hS k0 (by decide) rfl) rfl rfl hl.1 rfl (lv_room (Nat.le_of_ble_eq_true rfl)) dX13_likeliest_26 ⟨Nat.zero_le _, Nat.zero_le _⟩) hS (fun H locs hP hD hT hS => ?_)
    have hZ := Option.some.inj h
    have hZ1 := congrArg Prod.fst hZ
    have hZ2 := congrArg Prod.snd hZ
    exact r_iret hx hb hr hlocks hP hK hD hT hG hS hZ1 hZ2 dX13_likeliest_29
set_option maxHeartbeats 4000000 in
set_option maxRecDepth 100000 in
theorem c_X13_lies {l : Launch} {D : va_G} {ad : Nat → Nat} {cy : Nat → ClassId} {A : Nat → Prop} {g : CG} {q : SE} (M : MM) (a0 : Nat) (x1 : Int32) (x2 : Int32) (k0 : ok g a0 13 0) {Z : (Int32 × MM)} (h : f_X13_lies M a0 x1 x2 = some Z) : Met l yX13_lies wsX13_lies ({ frames := 2, cells := 0, slots := 0, locals := 47 }) (va_Pc [.ref (ad a0), .int x1, .int x2] (Wd D ad cy A g q M)) (va_Qi (fun r u => r = Z.1 ∧ u = Z.2) (Wd D ad cy A g q) A) 0 0 A := by
  refine Met.ofW (cc := cX13_lies) (maxL := 3) (ret := (some .int)) (by decide) rfl ?_
  intro p e s m args below meth c s₁ B hml hv
  obtain ⟨rfl, hP, hK, hD, hT, hG⟩ := hv
  have hx := B.exec
  have hb := B.bytes
  have hr := B.returns
  have hts := atoms_spec (ws := wsX13_lies) B.pre
  have hown : s.vm.findClass RX13 = some m.cls := findClass_of_methodNamed B.named
  have hlocks := B.notSynchronized
  have in12 : ∀ w ∈ u_ws RX12 TX12 48, w ∈ wsX13_lies := fun w h => List.mem_cons_of_mem _ (List.mem_append_right _ h)
  have in13 : ∀ w ∈ u_ws RX13 TX13 29, w ∈ wsX13_lies := fun w h => List.mem_cons_of_mem _ (List.mem_append_left _ (List.mem_append_right _ h))
  have hS : va_S A s.heap s.heap [] := va_S.rf
  have hl := lv_entry ([.ref (ad a0), .int x1, .int x2]) (n := 3) (Nat.le_of_ble_eq_true rfl)
  rw [lg_entry_eq]
  generalize (lg_sl ([.ref (ad a0), .int x1, .int x2]) ++ List.replicate (3 - (lg_sl ([.ref (ad a0), .int x1, .int x2])).length) Slot.unset).toArray = ls at hl ⊢
  have hl : lv_has ls 3 [(0, .ref (ad a0)), (1, .int x1), (2, .int x2)] := hl
  unfold f_X13_lies at h
  refine lv_aload_n hx hb dX13_lies_0 rfl (lv_at hl 0 rfl) ?_
  refine lv_iconst (v := 0) hx hb dX13_lies_1 rfl ?_
  refine r_putI (T := TX13) (ty := .int) (v := 0) hx hb hts in13 tyX13 tyX13_ok nmX13 hown hK hP hD hT hS k0 (by decide) rfl 0 (by decide) (hts (.fieldLink RX13 30 "StoneWalkModel" "thrown" "I") (List.mem_of_getElem? (i := 1) (by decide +kernel))) rfl rfl (tyX13_ok 0 (by decide)) rfl rfl rfl dX13_lies_2 (fun H locs hP hD hT hS => ?_)
  generalize pI M a0 0 0 = Mg1 at h hP hD hT ⊢
  refine lv_aload_n hx hb dX13_lies_5 rfl (lv_at hl 0 rfl) ?_
  refine lv_iload_n hx hb dX13_lies_6 rfl (lv_at hl 1 rfl) ?_
  obtain ⟨z1, h1, h⟩ := ob_some h
  refine k_z (va_runV (As := [.int x1]) (rest := []) ⟨hx, hb, hml, hown, hts⟩ (c_X13_isWay (l := l) Mg1 a0 x1 k0 h1) (cwV 1 hts gX13_lies_X13_isWay rfl rfl rfl hdV_X13_isWay ⟨Nat.le_of_ble_eq_true rfl, Nat.le_of_ble_eq_true rfl⟩) (pV (T := TX13) hP hK hD hT hG hS k0 (by decide) rfl) rfl rfl hl.1 rfl (lv_room (Nat.le_of_ble_eq_true rfl)) dX13_lies_7 ⟨Nat.zero_le _, Nat.zero_le _⟩) hS (fun H locs hz1 hP hD hT hS => ?_)
  refine lv_if_eq (tgt := 47) hx hb dX13_lies_10 rfl (fun c2 => ?_) (fun c2 => ?_)
  · replace h := ite_t c2 h
    refine lv_aload_n hx hb dX13_lies_47 rfl (lv_at hl 0 rfl) ?_
    refine lv_iconst (v := 1) hx hb dX13_lies_48 rfl ?_
    obtain ⟨z3, h3, h⟩ := ob_some h
    refine k_i (va_runV (As := [.int 1]) (rest := []) ⟨hx, hb, hml, hown, hts⟩ (c_X13_refused (l := l) Mg1 a0 1 k0 h3) (cwV 1 hts gX13_lies_X13_refused rfl rfl rfl hdV_X13_refused ⟨Nat.le_of_ble_eq_true rfl, Nat.le_of_ble_eq_true rfl⟩) (pV (T := TX13) hP hK hD hT hG hS k0 (by decide) rfl) rfl rfl hl.1 rfl (lv_room (Nat.le_of_ble_eq_true rfl)) dX13_lies_49 ⟨Nat.zero_le _, Nat.zero_le _⟩) hS (fun H locs hP hD hT hS => ?_)
    have hZ := Option.some.inj h
    have hZ1 := congrArg Prod.fst hZ
    have hZ2 := congrArg Prod.snd hZ
    exact r_iret hx hb hr hlocks hP hK hD hT hG hS hZ1 hZ2 dX13_lies_52
  · replace h := ite_f c2 h
    refine lv_aload_n hx hb dX13_lies_13 rfl (lv_at hl 0 rfl) ?_
    refine lv_iload_n hx hb dX13_lies_14 rfl (lv_at hl 2 rfl) ?_
    obtain ⟨z4, h4, h⟩ := ob_some h
    refine k_z (va_runV (As := [.int x2]) (rest := []) ⟨hx, hb, hml, hown, hts⟩ (c_X13_isStatue (l := l) Mg1 a0 x2 k0 h4) (cwV 1 hts gX13_lies_X13_isStatue rfl rfl rfl hdV_X13_isStatue ⟨Nat.le_of_ble_eq_true rfl, Nat.le_of_ble_eq_true rfl⟩) (pV (T := TX13) hP hK hD hT hG hS k0 (by decide) rfl) rfl rfl hl.1 rfl (lv_room (Nat.le_of_ble_eq_true rfl)) dX13_lies_15 ⟨Nat.zero_le _, Nat.zero_le _⟩) hS (fun H locs hz4 hP hD hT hS => ?_)
    refine lv_if_eq (tgt := 47) hx hb dX13_lies_18 rfl (fun c5 => ?_) (fun c5 => ?_)
    · replace h := ite_t c5 h
      refine lv_aload_n hx hb dX13_lies_47 rfl (lv_at hl 0 rfl) ?_
      refine lv_iconst (v := 1) hx hb dX13_lies_48 rfl ?_
      obtain ⟨z6, h6, h⟩ := ob_some h
      refine k_i (va_runV (As := [.int 1]) (rest := []) ⟨hx, hb, hml, hown, hts⟩ (c_X13_refused (l := l) Mg1 a0 1 k0 h6) (cwV 1 hts gX13_lies_X13_refused rfl rfl rfl hdV_X13_refused ⟨Nat.le_of_ble_eq_true rfl, Nat.le_of_ble_eq_true rfl⟩) (pV (T := TX13) hP hK hD hT hG hS k0 (by decide) rfl) rfl rfl hl.1 rfl (lv_room (Nat.le_of_ble_eq_true rfl)) dX13_lies_49 ⟨Nat.zero_le _, Nat.zero_le _⟩) hS (fun H locs hP hD hT hS => ?_)
      have hZ := Option.some.inj h
      have hZ1 := congrArg Prod.fst hZ
      have hZ2 := congrArg Prod.snd hZ
      exact r_iret hx hb hr hlocks hP hK hD hT hG hS hZ1 hZ2 dX13_lies_52
    · replace h := ite_f c5 h
      refine lv_aload_n hx hb dX13_lies_21 rfl (lv_at hl 0 rfl) ?_
      rcases hN7 : gR Mg1 a0 3 with _ | b7
      · replace h := oc_n hN7 h
        refine r_get (T := TX13) (v := .null) hx hb hts in13 hown hK hP k0 (by decide) rfl 3 (by decide) (hts (.fieldLink RX13 431 "StoneWalkModel" "island" "LStoneWalkModel$Island;") (List.mem_of_getElem? (i := 2) (by decide +kernel))) rfl (t := 2) rfl (by show va_rf _ = _; rw [hN7]; rfl) dX13_lies_22 ?_
        exact absurd h (by simp)
      · replace h := oc_s hN7 h
        have kb7 := hT.f k0 (k := 3) (t := 12) (n := 0) rfl hN7
        refine r_get (T := TX13) (v := .ref (ad b7)) hx hb hts in13 hown hK hP k0 (by decide) rfl 3 (by decide) (hts (.fieldLink RX13 431 "StoneWalkModel" "island" "LStoneWalkModel$Island;") (List.mem_of_getElem? (i := 2) (by decide +kernel))) rfl (t := 2) rfl (by show va_rf _ = _; rw [hN7]; rfl) dX13_lies_22 ?_
        rcases hN8 : gR Mg1 b7 18 with _ | b8
        · exact absurd (oc_n hN8 h) (by simp)
        replace h := oc_s hN8 h
        have kb8 := hT.f kb7 (k := 18) (t := 15) (n := 10) rfl hN8
        refine r_getN (T := TX12) (v := .ref (ad b8)) hx hb hts in12 hown hK hP kb7 (by decide) rfl 18 (by decide) (hG.2.2.1 ("StoneWalkModel", 307, "StoneWalkModel$Island", "sort", "[I", "StoneWalkModel") (List.mem_of_getElem? (i := 18) rfl)) rfl (t := 2) rfl (by show va_rf _ = _; rw [hN8]; rfl) dX13_lies_25 ?_
        refine lv_iload_n hx hb dX13_lies_28 rfl (lv_at hl 2 rfl) ?_
        obtain ⟨hn9, h⟩ := chk_some h
        refine r_iald hx hb hK hP kb8 hn9 dX13_lies_29 ?_
        refine lv_iconst (v := 5) hx hb dX13_lies_30 rfl ?_
        refine lv_icmp_ne (tgt := 47) hx hb dX13_lies_31 rfl (fun c10 => ?_) (fun c10 => ?_)
        · replace h := ite_f c10 h
          refine lv_aload_n hx hb dX13_lies_47 rfl (lv_at hl 0 rfl) ?_
          refine lv_iconst (v := 1) hx hb dX13_lies_48 rfl ?_
          obtain ⟨z11, h11, h⟩ := ob_some h
          refine k_i (va_runV (As := [.int 1]) (rest := []) ⟨hx, hb, hml, hown, hts⟩ (c_X13_refused (l := l) Mg1 a0 1 k0 h11) (cwV 1 hts gX13_lies_X13_refused rfl rfl rfl hdV_X13_refused ⟨Nat.le_of_ble_eq_true rfl, Nat.le_of_ble_eq_true rfl⟩) (pV (T := TX13) hP hK hD hT hG hS k0 (by decide) rfl) rfl rfl hl.1 rfl (lv_room (Nat.le_of_ble_eq_true rfl)) dX13_lies_49 ⟨Nat.zero_le _, Nat.zero_le _⟩) hS (fun H locs hP hD hT hS => ?_)
          have hZ := Option.some.inj h
          have hZ1 := congrArg Prod.fst hZ
          have hZ2 := congrArg Prod.snd hZ
          exact r_iret hx hb hr hlocks hP hK hD hT hG hS hZ1 hZ2 dX13_lies_52
        · replace h := ite_t c10 h
          refine lv_aload_n hx hb dX13_lies_34 rfl (lv_at hl 0 rfl) ?_
          refine lv_aload_n hx hb dX13_lies_35 rfl (lv_at hl 0 rfl) ?_
          refine lv_iload_n hx hb dX13_lies_36 rfl (lv_at hl 1 rfl) ?_
          refine lv_iload_n hx hb dX13_lies_37 rfl (lv_at hl 2 rfl) ?_
          obtain ⟨z12, h12, h⟩ := ob_some h
          refine k_i (va_runV (As := [.int x1, .int x2]) (rest := [.ref (ad a0)]) ⟨hx, hb, hml, hown, hts⟩ (c_X13_liesBy (l := l) Mg1 a0 x1 x2 k0 h12) (cwV 2 hts gX13_lies_X13_liesBy rfl rfl rfl hdV_X13_liesBy ⟨Nat.le_of_ble_eq_true rfl, Nat.le_of_ble_eq_true rfl⟩) (pV (T := TX13) hP hK hD hT hG hS k0 (by decide) rfl) rfl rfl hl.1 rfl (lv_room (Nat.le_of_ble_eq_true rfl)) dX13_lies_38 ⟨Nat.zero_le _, Nat.zero_le _⟩) hS (fun H locs hP hD hT hS => ?_)
          obtain ⟨z13, h13, h⟩ := ob_some h
          refine k_i (va_runV (As := [.int z12]) (rest := []) ⟨hx, hb, hml, hown, hts⟩ (c_X13_done (l := l) Mg1 a0 z12 k0 h13) (cwV 1 hts gX13_lies_X13_done rfl rfl rfl hdV_X13_done ⟨Nat.le_of_ble_eq_true rfl, Nat.le_of_ble_eq_true rfl⟩) (pV (T := TX13) hP hK hD hT hG hS k0 (by decide) rfl) rfl rfl hl.1 rfl (lv_room (Nat.le_of_ble_eq_true rfl)) dX13_lies_41 ⟨Nat.zero_le _, Nat.zero_le _⟩) hS (fun H locs hP hD hT hS => ?_)
          refine lv_goto (tgt := 52) hx hb dX13_lies_44 rfl ?_
          have hZ := Option.some.inj h
          have hZ1 := congrArg Prod.fst hZ
          have hZ2 := congrArg Prod.snd hZ
          exact r_iret hx hb hr hlocks hP hK hD hT hG hS hZ1 hZ2 dX13_lies_52
set_option maxHeartbeats 4000000 in
set_option maxRecDepth 100000 in
theorem c_X13_hollow {l : Launch} {D : va_G} {ad : Nat → Nat} {cy : Nat → ClassId} {A : Nat → Prop} {g : CG} {q : SE} (M : MM) (a0 : Nat) (x1 : Int32) (x2 : Int32) (k0 : ok g a0 13 0) {Z : (Int32 × MM)} (h : f_X13_hollow M a0 x1 x2 = some Z) : Met l yX13_hollow wsX13_hollow ({ frames := 1, cells := 0, slots := 0, locals := 24 }) (va_Pc [.ref (ad a0), .int x1, .int x2] (Wd D ad cy A g q M)) (va_Qi (fun r u => r = Z.1 ∧ u = Z.2) (Wd D ad cy A g q) A) 0 0 A := by
  refine Met.ofW (cc := cX13_hollow) (maxL := 3) (ret := (some .int)) (by decide) rfl ?_
  intro p e s m args below meth c s₁ B hml hv
  obtain ⟨rfl, hP, hK, hD, hT, hG⟩ := hv
  have hx := B.exec
  have hb := B.bytes
  have hr := B.returns
  have hts := atoms_spec (ws := wsX13_hollow) B.pre
  have hown : s.vm.findClass RX13 = some m.cls := findClass_of_methodNamed B.named
  have hlocks := B.notSynchronized
  have in13 : ∀ w ∈ u_ws RX13 TX13 29, w ∈ wsX13_hollow := fun w h => List.mem_cons_of_mem _ (List.mem_append_left _ (List.mem_append_right _ h))
  have hS : va_S A s.heap s.heap [] := va_S.rf
  have hl := lv_entry ([.ref (ad a0), .int x1, .int x2]) (n := 3) (Nat.le_of_ble_eq_true rfl)
  rw [lg_entry_eq]
  generalize (lg_sl ([.ref (ad a0), .int x1, .int x2]) ++ List.replicate (3 - (lg_sl ([.ref (ad a0), .int x1, .int x2])).length) Slot.unset).toArray = ls at hl ⊢
  have hl : lv_has ls 3 [(0, .ref (ad a0)), (1, .int x1), (2, .int x2)] := hl
  unfold f_X13_hollow at h
  refine lv_aload_n hx hb dX13_hollow_0 rfl (lv_at hl 0 rfl) ?_
  refine lv_iconst (v := 0) hx hb dX13_hollow_1 rfl ?_
  refine r_putI (T := TX13) (ty := .int) (v := 0) hx hb hts in13 tyX13 tyX13_ok nmX13 hown hK hP hD hT hS k0 (by decide) rfl 0 (by decide) (hts (.fieldLink RX13 30 "StoneWalkModel" "thrown" "I") (List.mem_of_getElem? (i := 1) (by decide +kernel))) rfl rfl (tyX13_ok 0 (by decide)) rfl rfl rfl dX13_hollow_2 (fun H locs hP hD hT hS => ?_)
  generalize pI M a0 0 0 = Mg1 at h hP hD hT ⊢
  refine lv_aload_n hx hb dX13_hollow_5 rfl (lv_at hl 0 rfl) ?_
  refine lv_iload_n hx hb dX13_hollow_6 rfl (lv_at hl 1 rfl) ?_
  obtain ⟨z1, h1, h⟩ := ob_some h
  refine k_z (va_runV (As := [.int x1]) (rest := []) ⟨hx, hb, hml, hown, hts⟩ (c_X13_isWay (l := l) Mg1 a0 x1 k0 h1) (cwV 1 hts gX13_hollow_X13_isWay rfl rfl rfl hdV_X13_isWay ⟨Nat.le_of_ble_eq_true rfl, Nat.le_of_ble_eq_true rfl⟩) (pV (T := TX13) hP hK hD hT hG hS k0 (by decide) rfl) rfl rfl hl.1 rfl (lv_room (Nat.le_of_ble_eq_true rfl)) dX13_hollow_7 ⟨Nat.zero_le _, Nat.zero_le _⟩) hS (fun H locs hz1 hP hD hT hS => ?_)
  refine lv_if_eq (tgt := 34) hx hb dX13_hollow_10 rfl (fun c2 => ?_) (fun c2 => ?_)
  · replace h := ite_t c2 h
    refine lv_aload_n hx hb dX13_hollow_34 rfl (lv_at hl 0 rfl) ?_
    refine lv_iconst (v := 1) hx hb dX13_hollow_35 rfl ?_
    obtain ⟨z3, h3, h⟩ := ob_some h
    refine k_i (va_runV (As := [.int 1]) (rest := []) ⟨hx, hb, hml, hown, hts⟩ (c_X13_refused (l := l) Mg1 a0 1 k0 h3) (cwV 1 hts gX13_hollow_X13_refused rfl rfl rfl hdV_X13_refused ⟨Nat.le_of_ble_eq_true rfl, Nat.le_of_ble_eq_true rfl⟩) (pV (T := TX13) hP hK hD hT hG hS k0 (by decide) rfl) rfl rfl hl.1 rfl (lv_room (Nat.le_of_ble_eq_true rfl)) dX13_hollow_36 ⟨Nat.zero_le _, Nat.zero_le _⟩) hS (fun H locs hP hD hT hS => ?_)
    have hZ := Option.some.inj h
    have hZ1 := congrArg Prod.fst hZ
    have hZ2 := congrArg Prod.snd hZ
    exact r_iret hx hb hr hlocks hP hK hD hT hG hS hZ1 hZ2 dX13_hollow_39
  · replace h := ite_f c2 h
    refine lv_aload_n hx hb dX13_hollow_13 rfl (lv_at hl 0 rfl) ?_
    refine lv_iload_n hx hb dX13_hollow_14 rfl (lv_at hl 2 rfl) ?_
    obtain ⟨z4, h4, h⟩ := ob_some h
    refine k_z (va_runV (As := [.int x2]) (rest := []) ⟨hx, hb, hml, hown, hts⟩ (c_X13_isRoad (l := l) Mg1 a0 x2 k0 h4) (cwV 1 hts gX13_hollow_X13_isRoad rfl rfl rfl hdV_X13_isRoad ⟨Nat.le_of_ble_eq_true rfl, Nat.le_of_ble_eq_true rfl⟩) (pV (T := TX13) hP hK hD hT hG hS k0 (by decide) rfl) rfl rfl hl.1 rfl (lv_room (Nat.le_of_ble_eq_true rfl)) dX13_hollow_15 ⟨Nat.zero_le _, Nat.zero_le _⟩) hS (fun H locs hz4 hP hD hT hS => ?_)
    refine lv_if_eq (tgt := 34) hx hb dX13_hollow_18 rfl (fun c5 => ?_) (fun c5 => ?_)
    · replace h := ite_t c5 h
      refine lv_aload_n hx hb dX13_hollow_34 rfl (lv_at hl 0 rfl) ?_
      refine lv_iconst (v := 1) hx hb dX13_hollow_35 rfl ?_
      obtain ⟨z6, h6, h⟩ := ob_some h
      refine k_i (va_runV (As := [.int 1]) (rest := []) ⟨hx, hb, hml, hown, hts⟩ (c_X13_refused (l := l) Mg1 a0 1 k0 h6) (cwV 1 hts gX13_hollow_X13_refused rfl rfl rfl hdV_X13_refused ⟨Nat.le_of_ble_eq_true rfl, Nat.le_of_ble_eq_true rfl⟩) (pV (T := TX13) hP hK hD hT hG hS k0 (by decide) rfl) rfl rfl hl.1 rfl (lv_room (Nat.le_of_ble_eq_true rfl)) dX13_hollow_36 ⟨Nat.zero_le _, Nat.zero_le _⟩) hS (fun H locs hP hD hT hS => ?_)
      have hZ := Option.some.inj h
      have hZ1 := congrArg Prod.fst hZ
      have hZ2 := congrArg Prod.snd hZ
      exact r_iret hx hb hr hlocks hP hK hD hT hG hS hZ1 hZ2 dX13_hollow_39
    · replace h := ite_f c5 h
      refine lv_aload_n hx hb dX13_hollow_21 rfl (lv_at hl 0 rfl) ?_
      refine lv_aload_n hx hb dX13_hollow_22 rfl (lv_at hl 0 rfl) ?_
      refine lv_iload_n hx hb dX13_hollow_23 rfl (lv_at hl 1 rfl) ?_
      refine lv_iload_n hx hb dX13_hollow_24 rfl (lv_at hl 2 rfl) ?_
      obtain ⟨z7, h7, h⟩ := ob_some h
      refine k_i (va_runV (As := [.int x1, .int x2]) (rest := [.ref (ad a0)]) ⟨hx, hb, hml, hown, hts⟩ (c_X13_hollowOf (l := l) Mg1 a0 x1 x2 k0 h7) (cwV 2 hts gX13_hollow_X13_hollowOf rfl rfl rfl hdV_X13_hollowOf ⟨Nat.le_of_ble_eq_true rfl, Nat.le_of_ble_eq_true rfl⟩) (pV (T := TX13) hP hK hD hT hG hS k0 (by decide) rfl) rfl rfl hl.1 rfl (lv_room (Nat.le_of_ble_eq_true rfl)) dX13_hollow_25 ⟨Nat.zero_le _, Nat.zero_le _⟩) hS (fun H locs hP hD hT hS => ?_)
      obtain ⟨z8, h8, h⟩ := ob_some h
      refine k_i (va_runV (As := [.int z7]) (rest := []) ⟨hx, hb, hml, hown, hts⟩ (c_X13_done (l := l) Mg1 a0 z7 k0 h8) (cwV 1 hts gX13_hollow_X13_done rfl rfl rfl hdV_X13_done ⟨Nat.le_of_ble_eq_true rfl, Nat.le_of_ble_eq_true rfl⟩) (pV (T := TX13) hP hK hD hT hG hS k0 (by decide) rfl) rfl rfl hl.1 rfl (lv_room (Nat.le_of_ble_eq_true rfl)) dX13_hollow_28 ⟨Nat.zero_le _, Nat.zero_le _⟩) hS (fun H locs hP hD hT hS => ?_)
      refine lv_goto (tgt := 39) hx hb dX13_hollow_31 rfl ?_
      have hZ := Option.some.inj h
      have hZ1 := congrArg Prod.fst hZ
      have hZ2 := congrArg Prod.snd hZ
      exact r_iret hx hb hr hlocks hP hK hD hT hG hS hZ1 hZ2 dX13_hollow_39
set_option maxHeartbeats 4000000 in
set_option maxRecDepth 100000 in
theorem c_X13_shape {l : Launch} {D : va_G} {ad : Nat → Nat} {cy : Nat → ClassId} {A : Nat → Prop} {g : CG} {q : SE} (M : MM) (a0 : Nat) (x1 : Int32) (k0 : ok g a0 13 0) {Z : (Int32 × MM)} (h : f_X13_shape M a0 x1 = some Z) : Met l yX13_shape wsX13_shape ({ frames := 2, cells := 0, slots := 0, locals := 50 }) (va_Pc [.ref (ad a0), .int x1] (Wd D ad cy A g q M)) (va_Qi (fun r u => r = Z.1 ∧ u = Z.2) (Wd D ad cy A g q) A) 0 0 A := by
  refine Met.ofW (cc := cX13_shape) (maxL := 2) (ret := (some .int)) (by decide) rfl ?_
  intro p e s m args below meth c s₁ B hml hv
  obtain ⟨rfl, hP, hK, hD, hT, hG⟩ := hv
  have hx := B.exec
  have hb := B.bytes
  have hr := B.returns
  have hts := atoms_spec (ws := wsX13_shape) B.pre
  have hown : s.vm.findClass RX13 = some m.cls := findClass_of_methodNamed B.named
  have hlocks := B.notSynchronized
  have in13 : ∀ w ∈ u_ws RX13 TX13 29, w ∈ wsX13_shape := fun w h => List.mem_cons_of_mem _ (List.mem_append_left _ (List.mem_append_right _ h))
  have hS : va_S A s.heap s.heap [] := va_S.rf
  have hl := lv_entry ([.ref (ad a0), .int x1]) (n := 2) (Nat.le_of_ble_eq_true rfl)
  rw [lg_entry_eq]
  generalize (lg_sl ([.ref (ad a0), .int x1]) ++ List.replicate (2 - (lg_sl ([.ref (ad a0), .int x1])).length) Slot.unset).toArray = ls at hl ⊢
  have hl : lv_has ls 2 [(0, .ref (ad a0)), (1, .int x1)] := hl
  unfold f_X13_shape at h
  refine lv_aload_n hx hb dX13_shape_0 rfl (lv_at hl 0 rfl) ?_
  refine lv_iconst (v := 0) hx hb dX13_shape_1 rfl ?_
  refine r_putI (T := TX13) (ty := .int) (v := 0) hx hb hts in13 tyX13 tyX13_ok nmX13 hown hK hP hD hT hS k0 (by decide) rfl 0 (by decide) (hts (.fieldLink RX13 30 "StoneWalkModel" "thrown" "I") (List.mem_of_getElem? (i := 1) (by decide +kernel))) rfl rfl (tyX13_ok 0 (by decide)) rfl rfl rfl dX13_shape_2 (fun H locs hP hD hT hS => ?_)
  generalize pI M a0 0 0 = Mg1 at h hP hD hT ⊢
  refine lv_aload_n hx hb dX13_shape_5 rfl (lv_at hl 0 rfl) ?_
  refine lv_iload_n hx hb dX13_shape_6 rfl (lv_at hl 1 rfl) ?_
  obtain ⟨z1, h1, h⟩ := ob_some h
  refine k_z (va_runV (As := [.int x1]) (rest := []) ⟨hx, hb, hml, hown, hts⟩ (c_X13_isWay (l := l) Mg1 a0 x1 k0 h1) (cwV 1 hts gX13_shape_X13_isWay rfl rfl rfl hdV_X13_isWay ⟨Nat.le_of_ble_eq_true rfl, Nat.le_of_ble_eq_true rfl⟩) (pV (T := TX13) hP hK hD hT hG hS k0 (by decide) rfl) rfl rfl hl.1 rfl (lv_room (Nat.le_of_ble_eq_true rfl)) dX13_shape_7 ⟨Nat.zero_le _, Nat.zero_le _⟩) hS (fun H locs hz1 hP hD hT hS => ?_)
  refine lv_if_eq (tgt := 26) hx hb dX13_shape_10 rfl (fun c2 => ?_) (fun c2 => ?_)
  · replace h := ite_t c2 h
    refine lv_aload_n hx hb dX13_shape_26 rfl (lv_at hl 0 rfl) ?_
    refine lv_iconst (v := 1) hx hb dX13_shape_27 rfl ?_
    obtain ⟨z3, h3, h⟩ := ob_some h
    refine k_i (va_runV (As := [.int 1]) (rest := []) ⟨hx, hb, hml, hown, hts⟩ (c_X13_refused (l := l) Mg1 a0 1 k0 h3) (cwV 1 hts gX13_shape_X13_refused rfl rfl rfl hdV_X13_refused ⟨Nat.le_of_ble_eq_true rfl, Nat.le_of_ble_eq_true rfl⟩) (pV (T := TX13) hP hK hD hT hG hS k0 (by decide) rfl) rfl rfl hl.1 rfl (lv_room (Nat.le_of_ble_eq_true rfl)) dX13_shape_28 ⟨Nat.zero_le _, Nat.zero_le _⟩) hS (fun H locs hP hD hT hS => ?_)
    have hZ := Option.some.inj h
    have hZ1 := congrArg Prod.fst hZ
    have hZ2 := congrArg Prod.snd hZ
    exact r_iret hx hb hr hlocks hP hK hD hT hG hS hZ1 hZ2 dX13_shape_31
  · replace h := ite_f c2 h
    refine lv_aload_n hx hb dX13_shape_13 rfl (lv_at hl 0 rfl) ?_
    refine lv_aload_n hx hb dX13_shape_14 rfl (lv_at hl 0 rfl) ?_
    refine lv_iload_n hx hb dX13_shape_15 rfl (lv_at hl 1 rfl) ?_
    refine lv_iconst (v := (-1)) hx hb dX13_shape_16 rfl ?_
    obtain ⟨z4, h4, h⟩ := ob_some h
    refine k_i (va_runV (As := [.int x1, .int (-1)]) (rest := [.ref (ad a0)]) ⟨hx, hb, hml, hown, hts⟩ (c_X13_shapeOf (l := l) Mg1 a0 x1 (-1) k0 h4) (cwV 2 hts gX13_shape_X13_shapeOf rfl rfl rfl hdV_X13_shapeOf ⟨Nat.le_of_ble_eq_true rfl, Nat.le_of_ble_eq_true rfl⟩) (pV (T := TX13) hP hK hD hT hG hS k0 (by decide) rfl) rfl rfl hl.1 rfl (lv_room (Nat.le_of_ble_eq_true rfl)) dX13_shape_17 ⟨Nat.zero_le _, Nat.zero_le _⟩) hS (fun H locs hP hD hT hS => ?_)
    obtain ⟨z5, h5, h⟩ := ob_some h
    refine k_i (va_runV (As := [.int z4]) (rest := []) ⟨hx, hb, hml, hown, hts⟩ (c_X13_done (l := l) Mg1 a0 z4 k0 h5) (cwV 1 hts gX13_shape_X13_done rfl rfl rfl hdV_X13_done ⟨Nat.le_of_ble_eq_true rfl, Nat.le_of_ble_eq_true rfl⟩) (pV (T := TX13) hP hK hD hT hG hS k0 (by decide) rfl) rfl rfl hl.1 rfl (lv_room (Nat.le_of_ble_eq_true rfl)) dX13_shape_20 ⟨Nat.zero_le _, Nat.zero_le _⟩) hS (fun H locs hP hD hT hS => ?_)
    refine lv_goto (tgt := 31) hx hb dX13_shape_23 rfl ?_
    have hZ := Option.some.inj h
    have hZ1 := congrArg Prod.fst hZ
    have hZ2 := congrArg Prod.snd hZ
    exact r_iret hx hb hr hlocks hP hK hD hT hG hS hZ1 hZ2 dX13_shape_31
set_option maxHeartbeats 4000000 in
set_option maxRecDepth 100000 in
theorem c_X13_changed {l : Launch} {D : va_G} {ad : Nat → Nat} {cy : Nat → ClassId} {A : Nat → Prop} {g : CG} {q : SE} (M : MM) (a0 : Nat) (k0 : ok g a0 13 0) {Z : (Int32 × MM)} (h : f_X13_changed M a0 = some Z) : Met l yX13_changed wsX13_changed ({ frames := 2, cells := 0, slots := 0, locals := 42 }) (va_Pc [.ref (ad a0)] (Wd D ad cy A g q M)) (va_Qi (fun r u => r = Z.1 ∧ u = Z.2) (Wd D ad cy A g q) A) 0 0 A := by
  refine Met.ofW (cc := cX13_changed) (maxL := 3) (ret := (some .int)) (by decide) rfl ?_
  intro p e s m args below meth c s₁ B hml hv
  obtain ⟨rfl, hP, hK, hD, hT, hG⟩ := hv
  have hx := B.exec
  have hb := B.bytes
  have hr := B.returns
  have hts := atoms_spec (ws := wsX13_changed) B.pre
  have hown : s.vm.findClass RX13 = some m.cls := findClass_of_methodNamed B.named
  have hlocks := B.notSynchronized
  have in13 : ∀ w ∈ u_ws RX13 TX13 29, w ∈ wsX13_changed := fun w h => List.mem_cons_of_mem _ (List.mem_append_left _ (List.mem_append_right _ h))
  have hS : va_S A s.heap s.heap [] := va_S.rf
  have hl := lv_entry ([.ref (ad a0)]) (n := 3) (Nat.le_of_ble_eq_true rfl)
  rw [lg_entry_eq]
  generalize (lg_sl ([.ref (ad a0)]) ++ List.replicate (3 - (lg_sl ([.ref (ad a0)])).length) Slot.unset).toArray = ls at hl ⊢
  have hl : lv_has ls 3 [(0, .ref (ad a0))] := hl
  unfold f_X13_changed at h
  refine lv_aload_n hx hb dX13_changed_0 rfl (lv_at hl 0 rfl) ?_
  refine lv_iconst (v := 0) hx hb dX13_changed_1 rfl ?_
  refine r_putI (T := TX13) (ty := .int) (v := 0) hx hb hts in13 tyX13 tyX13_ok nmX13 hown hK hP hD hT hS k0 (by decide) rfl 0 (by decide) (hts (.fieldLink RX13 30 "StoneWalkModel" "thrown" "I") (List.mem_of_getElem? (i := 1) (by decide +kernel))) rfl rfl (tyX13_ok 0 (by decide)) rfl rfl rfl dX13_changed_2 (fun H locs hP hD hT hS => ?_)
  generalize pI M a0 0 0 = Mg1 at h hP hD hT ⊢
  refine lv_aload_n hx hb dX13_changed_5 rfl (lv_at hl 0 rfl) ?_
  rcases hN1 : gR Mg1 a0 3 with _ | b1
  · replace h := oc_n hN1 h
    refine r_get (T := TX13) (v := .null) hx hb hts in13 hown hK hP k0 (by decide) rfl 3 (by decide) (hts (.fieldLink RX13 431 "StoneWalkModel" "island" "LStoneWalkModel$Island;") (List.mem_of_getElem? (i := 2) (by decide +kernel))) rfl (t := 2) rfl (by show va_rf _ = _; rw [hN1]; rfl) dX13_changed_6 ?_
    refine lv_ifnonnullN hx hb dX13_changed_9 ?_
    refine lv_aload_n hx hb dX13_changed_12 rfl (lv_at hl 0 rfl) ?_
    refine lv_iconst (v := 1) hx hb dX13_changed_13 rfl ?_
    obtain ⟨z2, h2, h⟩ := ob_some h
    refine k_i (va_runV (As := [.int 1]) (rest := []) ⟨hx, hb, hml, hown, hts⟩ (c_X13_lost (l := l) Mg1 a0 1 k0 h2) (cwV 1 hts gX13_changed_X13_lost rfl rfl rfl hdV_X13_lost ⟨Nat.le_of_ble_eq_true rfl, Nat.le_of_ble_eq_true rfl⟩) (pV (T := TX13) hP hK hD hT hG hS k0 (by decide) rfl) rfl rfl hl.1 rfl (lv_room (Nat.le_of_ble_eq_true rfl)) dX13_changed_14 ⟨Nat.zero_le _, Nat.zero_le _⟩) hS (fun H locs hP hD hT hS => ?_)
    have hZ := Option.some.inj h
    have hZ1 := congrArg Prod.fst hZ
    have hZ2 := congrArg Prod.snd hZ
    exact r_iret hx hb hr hlocks hP hK hD hT hG hS hZ1 hZ2 dX13_changed_17
  · replace h := oc_s hN1 h
    have kb1 := hT.f k0 (k := 3) (t := 12) (n := 0) rfl hN1
    refine r_get (T := TX13) (v := .ref (ad b1)) hx hb hts in13 hown hK hP k0 (by decide) rfl 3 (by decide) (hts (.fieldLink RX13 431 "StoneWalkModel" "island" "LStoneWalkModel$Island;") (List.mem_of_getElem? (i := 2) (by decide +kernel))) rfl (t := 2) rfl (by show va_rf _ = _; rw [hN1]; rfl) dX13_changed_6 ?_
    refine lv_ifnonnull (tgt := 18) hx hb dX13_changed_9 rfl ?_
    refine lv_aload_n hx hb dX13_changed_18 rfl (lv_at hl 0 rfl) ?_
    refine lv_iconst (v := 5) hx hb dX13_changed_19 rfl ?_
    refine lv_iconst (v := (-1)) hx hb dX13_changed_20 rfl ?_
    obtain ⟨z3, h3, h⟩ := ob_some h
    refine k_i (va_runV (As := [.int 5, .int (-1)]) (rest := []) ⟨hx, hb, hml, hown, hts⟩ (c_X13_meanLean (l := l) Mg1 a0 5 (-1) k0 h3) (cwV 2 hts gX13_changed_X13_meanLean rfl rfl rfl hdV_X13_meanLean ⟨Nat.le_of_ble_eq_true rfl, Nat.le_of_ble_eq_true rfl⟩) (pV (T := TX13) hP hK hD hT hG hS k0 (by decide) rfl) rfl rfl hl.1 rfl (lv_room (Nat.le_of_ble_eq_true rfl)) dX13_changed_21 ⟨Nat.zero_le _, Nat.zero_le _⟩) hS (fun H locs hP hD hT hS => ?_)
    refine lv_istore_n (lv' := [(1, .int z3), (0, .ref (ad a0))]) hx hb dX13_changed_24 rfl hl (by decide) rfl (fun ls hl => ?_)
    refine lv_aload_n hx hb dX13_changed_25 rfl (lv_at hl 1 rfl) ?_
    refine lv_iconst (v := 3) hx hb dX13_changed_26 rfl ?_
    refine lv_iconst (v := (-1)) hx hb dX13_changed_27 rfl ?_
    obtain ⟨z4, h4, h⟩ := ob_some h
    refine k_i (va_runV (As := [.int 3, .int (-1)]) (rest := []) ⟨hx, hb, hml, hown, hts⟩ (c_X13_meanLean (l := l) Mg1 a0 3 (-1) k0 h4) (cwV 2 hts gX13_changed_X13_meanLean rfl rfl rfl hdV_X13_meanLean ⟨Nat.le_of_ble_eq_true rfl, Nat.le_of_ble_eq_true rfl⟩) (pV (T := TX13) hP hK hD hT hG hS k0 (by decide) rfl) rfl rfl hl.1 rfl (lv_room (Nat.le_of_ble_eq_true rfl)) dX13_changed_28 ⟨Nat.zero_le _, Nat.zero_le _⟩) hS (fun H locs hP hD hT hS => ?_)
    refine lv_istore_n (lv' := [(2, .int z4), (1, .int z3), (0, .ref (ad a0))]) hx hb dX13_changed_31 rfl hl (by decide) rfl (fun ls hl => ?_)
    refine lv_iload_n hx hb dX13_changed_32 rfl (lv_at hl 1 rfl) ?_
    refine lv_if_lt (tgt := 40) hx hb dX13_changed_33 rfl (fun c5 => ?_) (fun c5 => ?_)
    · replace h := ite_t c5 h
      refine lv_aload_n hx hb dX13_changed_40 rfl (lv_at hl 2 rfl) ?_
      refine lv_bipush (v := 6) hx hb dX13_changed_41 rfl ?_
      obtain ⟨z6, h6, h⟩ := ob_some h
      refine k_i (va_runV (As := [.int 6]) (rest := []) ⟨hx, hb, hml, hown, hts⟩ (c_X13_lost (l := l) Mg1 a0 6 k0 h6) (cwV 1 hts gX13_changed_X13_lost rfl rfl rfl hdV_X13_lost ⟨Nat.le_of_ble_eq_true rfl, Nat.le_of_ble_eq_true rfl⟩) (pV (T := TX13) hP hK hD hT hG hS k0 (by decide) rfl) rfl rfl hl.1 rfl (lv_room (Nat.le_of_ble_eq_true rfl)) dX13_changed_43 ⟨Nat.zero_le _, Nat.zero_le _⟩) hS (fun H locs hP hD hT hS => ?_)
      refine lv_goto (tgt := 56) hx hb dX13_changed_46 rfl ?_
      have hZ := Option.some.inj h
      have hZ1 := congrArg Prod.fst hZ
      have hZ2 := congrArg Prod.snd hZ
      exact r_iret hx hb hr hlocks hP hK hD hT hG hS hZ1 hZ2 dX13_changed_56
    · replace h := ite_f c5 h
      refine lv_iload_n hx hb dX13_changed_36 rfl (lv_at hl 0 rfl) ?_
      refine lv_if_ge (tgt := 49) hx hb dX13_changed_37 rfl (fun c7 => ?_) (fun c7 => ?_)
      · replace h := ite_t c7 h
        refine lv_aload_n hx hb dX13_changed_49 rfl (lv_at hl 2 rfl) ?_
        refine lv_iload_n hx hb dX13_changed_50 rfl (lv_at hl 1 rfl) ?_
        refine lv_iload_n hx hb dX13_changed_51 rfl (lv_at hl 0 rfl) ?_
        refine lv_isub hx hb dX13_changed_52 ?_
        obtain ⟨z8, h8, h⟩ := ob_some h
        refine k_i (va_runV (As := [.int (z3 - z4)]) (rest := []) ⟨hx, hb, hml, hown, hts⟩ (c_X13_done (l := l) Mg1 a0 (z3 - z4) k0 h8) (cwV 1 hts gX13_changed_X13_done rfl rfl rfl hdV_X13_done ⟨Nat.le_of_ble_eq_true rfl, Nat.le_of_ble_eq_true rfl⟩) (pV (T := TX13) hP hK hD hT hG hS k0 (by decide) rfl) rfl rfl hl.1 rfl (lv_room (Nat.le_of_ble_eq_true rfl)) dX13_changed_53 ⟨Nat.zero_le _, Nat.zero_le _⟩) hS (fun H locs hP hD hT hS => ?_)
        have hZ := Option.some.inj h
        have hZ1 := congrArg Prod.fst hZ
        have hZ2 := congrArg Prod.snd hZ
        exact r_iret hx hb hr hlocks hP hK hD hT hG hS hZ1 hZ2 dX13_changed_56
      · replace h := ite_f c7 h
        refine lv_aload_n hx hb dX13_changed_40 rfl (lv_at hl 2 rfl) ?_
        refine lv_bipush (v := 6) hx hb dX13_changed_41 rfl ?_
        obtain ⟨z9, h9, h⟩ := ob_some h
        refine k_i (va_runV (As := [.int 6]) (rest := []) ⟨hx, hb, hml, hown, hts⟩ (c_X13_lost (l := l) Mg1 a0 6 k0 h9) (cwV 1 hts gX13_changed_X13_lost rfl rfl rfl hdV_X13_lost ⟨Nat.le_of_ble_eq_true rfl, Nat.le_of_ble_eq_true rfl⟩) (pV (T := TX13) hP hK hD hT hG hS k0 (by decide) rfl) rfl rfl hl.1 rfl (lv_room (Nat.le_of_ble_eq_true rfl)) dX13_changed_43 ⟨Nat.zero_le _, Nat.zero_le _⟩) hS (fun H locs hP hD hT hS => ?_)
        refine lv_goto (tgt := 56) hx hb dX13_changed_46 rfl ?_
        have hZ := Option.some.inj h
        have hZ1 := congrArg Prod.fst hZ
        have hZ2 := congrArg Prod.snd hZ
        exact r_iret hx hb hr hlocks hP hK hD hT hG hS hZ1 hZ2 dX13_changed_56
set_option maxHeartbeats 4000000 in
set_option maxRecDepth 100000 in
theorem c_X13_told {l : Launch} {D : va_G} {ad : Nat → Nat} {cy : Nat → ClassId} {A : Nat → Prop} {g : CG} {q : SE} (M : MM) (a0 : Nat) (x1 : Int32) (x2 : Int32) (k0 : ok g a0 13 0) {Z : (Int32 × MM)} (h : f_X13_told M a0 x1 x2 = some Z) : Met l yX13_told wsX13_told ({ frames := 1, cells := 0, slots := 0, locals := 22 }) (va_Pc [.ref (ad a0), .int x1, .int x2] (Wd D ad cy A g q M)) (va_Qi (fun r u => r = Z.1 ∧ u = Z.2) (Wd D ad cy A g q) A) 0 0 A := by
  refine Met.ofW (cc := cX13_told) (maxL := 3) (ret := (some .int)) (by decide) rfl ?_
  intro p e s m args below meth c s₁ B hml hv
  obtain ⟨rfl, hP, hK, hD, hT, hG⟩ := hv
  have hx := B.exec
  have hb := B.bytes
  have hr := B.returns
  have hts := atoms_spec (ws := wsX13_told) B.pre
  have hown : s.vm.findClass RX13 = some m.cls := findClass_of_methodNamed B.named
  have hlocks := B.notSynchronized
  have in12 : ∀ w ∈ u_ws RX12 TX12 48, w ∈ wsX13_told := fun w h => List.mem_cons_of_mem _ (List.mem_append_right _ h)
  have in13 : ∀ w ∈ u_ws RX13 TX13 29, w ∈ wsX13_told := fun w h => List.mem_cons_of_mem _ (List.mem_append_left _ (List.mem_append_right _ h))
  have hS : va_S A s.heap s.heap [] := va_S.rf
  have hl := lv_entry ([.ref (ad a0), .int x1, .int x2]) (n := 3) (Nat.le_of_ble_eq_true rfl)
  rw [lg_entry_eq]
  generalize (lg_sl ([.ref (ad a0), .int x1, .int x2]) ++ List.replicate (3 - (lg_sl ([.ref (ad a0), .int x1, .int x2])).length) Slot.unset).toArray = ls at hl ⊢
  have hl : lv_has ls 3 [(0, .ref (ad a0)), (1, .int x1), (2, .int x2)] := hl
  unfold f_X13_told at h
  refine lv_aload_n hx hb dX13_told_0 rfl (lv_at hl 0 rfl) ?_
  refine lv_iconst (v := 0) hx hb dX13_told_1 rfl ?_
  refine r_putI (T := TX13) (ty := .int) (v := 0) hx hb hts in13 tyX13 tyX13_ok nmX13 hown hK hP hD hT hS k0 (by decide) rfl 0 (by decide) (hts (.fieldLink RX13 30 "StoneWalkModel" "thrown" "I") (List.mem_of_getElem? (i := 1) (by decide +kernel))) rfl rfl (tyX13_ok 0 (by decide)) rfl rfl rfl dX13_told_2 (fun H locs hP hD hT hS => ?_)
  generalize pI M a0 0 0 = Mg1 at h hP hD hT ⊢
  refine lv_aload_n hx hb dX13_told_5 rfl (lv_at hl 0 rfl) ?_
  refine lv_iload_n hx hb dX13_told_6 rfl (lv_at hl 1 rfl) ?_
  obtain ⟨z1, h1, h⟩ := ob_some h
  refine k_z (va_runV (As := [.int x1]) (rest := []) ⟨hx, hb, hml, hown, hts⟩ (c_X13_isWay (l := l) Mg1 a0 x1 k0 h1) (cwV 1 hts gX13_told_X13_isWay rfl rfl rfl hdV_X13_isWay ⟨Nat.le_of_ble_eq_true rfl, Nat.le_of_ble_eq_true rfl⟩) (pV (T := TX13) hP hK hD hT hG hS k0 (by decide) rfl) rfl rfl hl.1 rfl (lv_room (Nat.le_of_ble_eq_true rfl)) dX13_told_7 ⟨Nat.zero_le _, Nat.zero_le _⟩) hS (fun H locs hz1 hP hD hT hS => ?_)
  refine lv_if_eq (tgt := 41) hx hb dX13_told_10 rfl (fun c2 => ?_) (fun c2 => ?_)
  · replace h := ite_t c2 h
    refine lv_aload_n hx hb dX13_told_41 rfl (lv_at hl 0 rfl) ?_
    refine lv_iconst (v := 1) hx hb dX13_told_42 rfl ?_
    obtain ⟨z3, h3, h⟩ := ob_some h
    refine k_i (va_runV (As := [.int 1]) (rest := []) ⟨hx, hb, hml, hown, hts⟩ (c_X13_refused (l := l) Mg1 a0 1 k0 h3) (cwV 1 hts gX13_told_X13_refused rfl rfl rfl hdV_X13_refused ⟨Nat.le_of_ble_eq_true rfl, Nat.le_of_ble_eq_true rfl⟩) (pV (T := TX13) hP hK hD hT hG hS k0 (by decide) rfl) rfl rfl hl.1 rfl (lv_room (Nat.le_of_ble_eq_true rfl)) dX13_told_43 ⟨Nat.zero_le _, Nat.zero_le _⟩) hS (fun H locs hP hD hT hS => ?_)
    have hZ := Option.some.inj h
    have hZ1 := congrArg Prod.fst hZ
    have hZ2 := congrArg Prod.snd hZ
    exact r_iret hx hb hr hlocks hP hK hD hT hG hS hZ1 hZ2 dX13_told_46
  · replace h := ite_f c2 h
    refine lv_iload_n hx hb dX13_told_13 rfl (lv_at hl 2 rfl) ?_
    refine lv_if_lt (tgt := 41) hx hb dX13_told_14 rfl (fun c4 => ?_) (fun c4 => ?_)
    · replace h := ite_t c4 h
      refine lv_aload_n hx hb dX13_told_41 rfl (lv_at hl 0 rfl) ?_
      refine lv_iconst (v := 1) hx hb dX13_told_42 rfl ?_
      obtain ⟨z5, h5, h⟩ := ob_some h
      refine k_i (va_runV (As := [.int 1]) (rest := []) ⟨hx, hb, hml, hown, hts⟩ (c_X13_refused (l := l) Mg1 a0 1 k0 h5) (cwV 1 hts gX13_told_X13_refused rfl rfl rfl hdV_X13_refused ⟨Nat.le_of_ble_eq_true rfl, Nat.le_of_ble_eq_true rfl⟩) (pV (T := TX13) hP hK hD hT hG hS k0 (by decide) rfl) rfl rfl hl.1 rfl (lv_room (Nat.le_of_ble_eq_true rfl)) dX13_told_43 ⟨Nat.zero_le _, Nat.zero_le _⟩) hS (fun H locs hP hD hT hS => ?_)
      have hZ := Option.some.inj h
      have hZ1 := congrArg Prod.fst hZ
      have hZ2 := congrArg Prod.snd hZ
      exact r_iret hx hb hr hlocks hP hK hD hT hG hS hZ1 hZ2 dX13_told_46
    · replace h := ite_f c4 h
      refine lv_iload_n hx hb dX13_told_17 rfl (lv_at hl 2 rfl) ?_
      refine lv_aload_n hx hb dX13_told_18 rfl (lv_at hl 0 rfl) ?_
      rcases hN6 : gR Mg1 a0 3 with _ | b6
      · replace h := oc_n hN6 h
        refine r_get (T := TX13) (v := .null) hx hb hts in13 hown hK hP k0 (by decide) rfl 3 (by decide) (hts (.fieldLink RX13 431 "StoneWalkModel" "island" "LStoneWalkModel$Island;") (List.mem_of_getElem? (i := 2) (by decide +kernel))) rfl (t := 2) rfl (by show va_rf _ = _; rw [hN6]; rfl) dX13_told_19 ?_
        exact absurd h (by simp)
      · replace h := oc_s hN6 h
        have kb6 := hT.f k0 (k := 3) (t := 12) (n := 0) rfl hN6
        refine r_get (T := TX13) (v := .ref (ad b6)) hx hb hts in13 hown hK hP k0 (by decide) rfl 3 (by decide) (hts (.fieldLink RX13 431 "StoneWalkModel" "island" "LStoneWalkModel$Island;") (List.mem_of_getElem? (i := 2) (by decide +kernel))) rfl (t := 2) rfl (by show va_rf _ = _; rw [hN6]; rfl) dX13_told_19 ?_
        refine r_getN (T := TX12) (v := .int (gI Mg1 b6 6)) hx hb hts in12 hown hK hP kb6 (by decide) rfl 6 (by decide) (hG.2.2.1 ("StoneWalkModel", 393, "StoneWalkModel$Island", "tellers", "I", "StoneWalkModel") (List.mem_of_getElem? (i := 41) rfl)) rfl (t := 0) rfl rfl dX13_told_22 ?_
        refine lv_icmp_ge (tgt := 41) hx hb dX13_told_25 rfl (fun c7 => ?_) (fun c7 => ?_)
        · replace h := ite_t c7 h
          refine lv_aload_n hx hb dX13_told_41 rfl (lv_at hl 0 rfl) ?_
          refine lv_iconst (v := 1) hx hb dX13_told_42 rfl ?_
          obtain ⟨z8, h8, h⟩ := ob_some h
          refine k_i (va_runV (As := [.int 1]) (rest := []) ⟨hx, hb, hml, hown, hts⟩ (c_X13_refused (l := l) Mg1 a0 1 k0 h8) (cwV 1 hts gX13_told_X13_refused rfl rfl rfl hdV_X13_refused ⟨Nat.le_of_ble_eq_true rfl, Nat.le_of_ble_eq_true rfl⟩) (pV (T := TX13) hP hK hD hT hG hS k0 (by decide) rfl) rfl rfl hl.1 rfl (lv_room (Nat.le_of_ble_eq_true rfl)) dX13_told_43 ⟨Nat.zero_le _, Nat.zero_le _⟩) hS (fun H locs hP hD hT hS => ?_)
          have hZ := Option.some.inj h
          have hZ1 := congrArg Prod.fst hZ
          have hZ2 := congrArg Prod.snd hZ
          exact r_iret hx hb hr hlocks hP hK hD hT hG hS hZ1 hZ2 dX13_told_46
        · replace h := ite_f c7 h
          refine lv_aload_n hx hb dX13_told_28 rfl (lv_at hl 0 rfl) ?_
          refine lv_aload_n hx hb dX13_told_29 rfl (lv_at hl 0 rfl) ?_
          refine lv_iload_n hx hb dX13_told_30 rfl (lv_at hl 1 rfl) ?_
          refine lv_iload_n hx hb dX13_told_31 rfl (lv_at hl 2 rfl) ?_
          obtain ⟨z9, h9, h⟩ := ob_some h
          refine k_i (va_runV (As := [.int x1, .int x2]) (rest := [.ref (ad a0)]) ⟨hx, hb, hml, hown, hts⟩ (c_X13_toldOf (l := l) Mg1 a0 x1 x2 k0 h9) (cwV 2 hts gX13_told_X13_toldOf rfl rfl rfl hdV_X13_toldOf ⟨Nat.le_of_ble_eq_true rfl, Nat.le_of_ble_eq_true rfl⟩) (pV (T := TX13) hP hK hD hT hG hS k0 (by decide) rfl) rfl rfl hl.1 rfl (lv_room (Nat.le_of_ble_eq_true rfl)) dX13_told_32 ⟨Nat.zero_le _, Nat.zero_le _⟩) hS (fun H locs hP hD hT hS => ?_)
          obtain ⟨z10, h10, h⟩ := ob_some h
          refine k_i (va_runV (As := [.int z9]) (rest := []) ⟨hx, hb, hml, hown, hts⟩ (c_X13_done (l := l) Mg1 a0 z9 k0 h10) (cwV 1 hts gX13_told_X13_done rfl rfl rfl hdV_X13_done ⟨Nat.le_of_ble_eq_true rfl, Nat.le_of_ble_eq_true rfl⟩) (pV (T := TX13) hP hK hD hT hG hS k0 (by decide) rfl) rfl rfl hl.1 rfl (lv_room (Nat.le_of_ble_eq_true rfl)) dX13_told_35 ⟨Nat.zero_le _, Nat.zero_le _⟩) hS (fun H locs hP hD hT hS => ?_)
          refine lv_goto (tgt := 46) hx hb dX13_told_38 rfl ?_
          have hZ := Option.some.inj h
          have hZ1 := congrArg Prod.fst hZ
          have hZ2 := congrArg Prod.snd hZ
          exact r_iret hx hb hr hlocks hP hK hD hT hG hS hZ1 hZ2 dX13_told_46
set_option maxHeartbeats 4000000 in
set_option maxRecDepth 100000 in
theorem c_X13_turn {l : Launch} {D : va_G} {ad : Nat → Nat} {cy : Nat → ClassId} {A : Nat → Prop} {g : CG} {q : SE} (M : MM) (a0 : Nat) (x1 : Int32) (x2 : Int32) (k0 : ok g a0 13 0) {Z : (Int32 × MM)} (h : f_X13_turn M a0 x1 x2 = some Z) : Met l yX13_turn wsX13_turn ({ frames := 2, cells := 0, slots := 0, locals := 42 }) (va_Pc [.ref (ad a0), .int x1, .int x2] (Wd D ad cy A g q M)) (va_Qi (fun r u => r = Z.1 ∧ u = Z.2 ∧ zb r) (Wd D ad cy A g q) A) 0 0 A := by
  refine Met.ofW (cc := cX13_turn) (maxL := 3) (ret := (some .boolean)) (by decide) rfl ?_
  intro p e s m args below meth c s₁ B hml hv
  obtain ⟨rfl, hP, hK, hD, hT, hG⟩ := hv
  have hx := B.exec
  have hb := B.bytes
  have hr := B.returns
  have hts := atoms_spec (ws := wsX13_turn) B.pre
  have hown : s.vm.findClass RX13 = some m.cls := findClass_of_methodNamed B.named
  have hlocks := B.notSynchronized
  have in12 : ∀ w ∈ u_ws RX12 TX12 48, w ∈ wsX13_turn := fun w h => List.mem_cons_of_mem _ (List.mem_append_right _ h)
  have in13 : ∀ w ∈ u_ws RX13 TX13 29, w ∈ wsX13_turn := fun w h => List.mem_cons_of_mem _ (List.mem_append_left _ (List.mem_append_right _ h))
  have hS : va_S A s.heap s.heap [] := va_S.rf
  have hl := lv_entry ([.ref (ad a0), .int x1, .int x2]) (n := 3) (Nat.le_of_ble_eq_true rfl)
  rw [lg_entry_eq]
  generalize (lg_sl ([.ref (ad a0), .int x1, .int x2]) ++ List.replicate (3 - (lg_sl ([.ref (ad a0), .int x1, .int x2])).length) Slot.unset).toArray = ls at hl ⊢
  have hl : lv_has ls 3 [(0, .ref (ad a0)), (1, .int x1), (2, .int x2)] := hl
  unfold f_X13_turn at h
  refine lv_aload_n hx hb dX13_turn_0 rfl (lv_at hl 0 rfl) ?_
  refine lv_iconst (v := 0) hx hb dX13_turn_1 rfl ?_
  refine r_putI (T := TX13) (ty := .int) (v := 0) hx hb hts in13 tyX13 tyX13_ok nmX13 hown hK hP hD hT hS k0 (by decide) rfl 0 (by decide) (hts (.fieldLink RX13 30 "StoneWalkModel" "thrown" "I") (List.mem_of_getElem? (i := 1) (by decide +kernel))) rfl rfl (tyX13_ok 0 (by decide)) rfl rfl rfl dX13_turn_2 (fun H locs hP hD hT hS => ?_)
  generalize pI M a0 0 0 = Mg1 at h hP hD hT ⊢
  refine lv_aload_n hx hb dX13_turn_5 rfl (lv_at hl 0 rfl) ?_
  refine lv_iload_n hx hb dX13_turn_6 rfl (lv_at hl 1 rfl) ?_
  obtain ⟨z1, h1, h⟩ := ob_some h
  refine k_z (va_runV (As := [.int x1]) (rest := []) ⟨hx, hb, hml, hown, hts⟩ (c_X13_isStatue (l := l) Mg1 a0 x1 k0 h1) (cwV 1 hts gX13_turn_X13_isStatue rfl rfl rfl hdV_X13_isStatue ⟨Nat.le_of_ble_eq_true rfl, Nat.le_of_ble_eq_true rfl⟩) (pV (T := TX13) hP hK hD hT hG hS k0 (by decide) rfl) rfl rfl hl.1 rfl (lv_room (Nat.le_of_ble_eq_true rfl)) dX13_turn_7 ⟨Nat.zero_le _, Nat.zero_le _⟩) hS (fun H locs hz1 hP hD hT hS => ?_)
  refine lv_if_eq (tgt := 22) hx hb dX13_turn_10 rfl (fun c2 => ?_) (fun c2 => ?_)
  · replace h := ite_t c2 h
    refine lv_aload_n hx hb dX13_turn_22 rfl (lv_at hl 0 rfl) ?_
    refine lv_iconst (v := 1) hx hb dX13_turn_23 rfl ?_
    obtain ⟨z3, h3, h⟩ := ob_some h
    refine k_z (va_runV (As := [.int 1]) (rest := []) ⟨hx, hb, hml, hown, hts⟩ (c_X13_denied (l := l) Mg1 a0 1 k0 h3) (cwV 1 hts gX13_turn_X13_denied rfl rfl rfl hdV_X13_denied ⟨Nat.le_of_ble_eq_true rfl, Nat.le_of_ble_eq_true rfl⟩) (pV (T := TX13) hP hK hD hT hG hS k0 (by decide) rfl) rfl rfl hl.1 rfl (lv_room (Nat.le_of_ble_eq_true rfl)) dX13_turn_24 ⟨Nat.zero_le _, Nat.zero_le _⟩) hS (fun H locs hz3 hP hD hT hS => ?_)
    have hZ := Option.some.inj h
    have hZ1 := congrArg Prod.fst hZ
    have hZ2 := congrArg Prod.snd hZ
    exact r_zret hx hb hr hlocks hP hK hD hT hG hS hz3 hZ1 hZ2 dX13_turn_27
  · replace h := ite_f c2 h
    refine lv_iload_n hx hb dX13_turn_13 rfl (lv_at hl 2 rfl) ?_
    refine lv_iconst (v := 0) hx hb dX13_turn_14 rfl ?_
    refine lv_iconst (v := 2) hx hb dX13_turn_15 rfl ?_
    obtain ⟨z4, h4, h⟩ := ob_some h
    refine k_z (va_runS (As := [.int x2, .int 0, .int 2]) (rest := []) ⟨hx, hb, hml, hown, hts⟩ (c_X13_in (l := l) Mg1 x2 0 2 h4) (va_cwS 3 hts gX13_turn_X13_in rfl rfl rfl hdS_X13_in ⟨Nat.le_of_ble_eq_true rfl, Nat.le_of_ble_eq_true rfl⟩) (pS hP hK hD hT hG hS) rfl rfl hl.1 rfl (lv_room (Nat.le_of_ble_eq_true rfl)) dX13_turn_16 ⟨Nat.zero_le _, Nat.zero_le _⟩) hS (fun H locs hz4 hP hD hT hS => ?_)
    refine lv_if_ne (tgt := 28) hx hb dX13_turn_19 rfl (fun c5 => ?_) (fun c5 => ?_)
    · replace h := ite_f c5 h
      refine lv_aload_n hx hb dX13_turn_28 rfl (lv_at hl 0 rfl) ?_
      rcases hN6 : gR Mg1 a0 3 with _ | b6
      · replace h := oc_n hN6 h
        refine r_get (T := TX13) (v := .null) hx hb hts in13 hown hK hP k0 (by decide) rfl 3 (by decide) (hts (.fieldLink RX13 431 "StoneWalkModel" "island" "LStoneWalkModel$Island;") (List.mem_of_getElem? (i := 2) (by decide +kernel))) rfl (t := 2) rfl (by show va_rf _ = _; rw [hN6]; rfl) dX13_turn_29 ?_
        exact absurd h (by simp)
      · replace h := oc_s hN6 h
        have kb6 := hT.f k0 (k := 3) (t := 12) (n := 0) rfl hN6
        refine r_get (T := TX13) (v := .ref (ad b6)) hx hb hts in13 hown hK hP k0 (by decide) rfl 3 (by decide) (hts (.fieldLink RX13 431 "StoneWalkModel" "island" "LStoneWalkModel$Island;") (List.mem_of_getElem? (i := 2) (by decide +kernel))) rfl (t := 2) rfl (by show va_rf _ = _; rw [hN6]; rfl) dX13_turn_29 ?_
        rcases hN7 : gR Mg1 b6 18 with _ | b7
        · exact absurd (oc_n hN7 h) (by simp)
        replace h := oc_s hN7 h
        have kb7 := hT.f kb6 (k := 18) (t := 15) (n := 10) rfl hN7
        refine r_getN (T := TX12) (v := .ref (ad b7)) hx hb hts in12 hown hK hP kb6 (by decide) rfl 18 (by decide) (hG.2.2.1 ("StoneWalkModel", 307, "StoneWalkModel$Island", "sort", "[I", "StoneWalkModel") (List.mem_of_getElem? (i := 18) rfl)) rfl (t := 2) rfl (by show va_rf _ = _; rw [hN7]; rfl) dX13_turn_32 ?_
        refine lv_iload_n hx hb dX13_turn_35 rfl (lv_at hl 1 rfl) ?_
        obtain ⟨hn8, h⟩ := chk_some h
        refine r_iald hx hb hK hP kb7 hn8 dX13_turn_36 ?_
        refine lv_iconst (v := 5) hx hb dX13_turn_37 rfl ?_
        refine lv_icmp_eq (tgt := 47) hx hb dX13_turn_38 rfl (fun c9 => ?_) (fun c9 => ?_)
        · replace h := ite_t c9 h
          refine lv_aload_n hx hb dX13_turn_47 rfl (lv_at hl 0 rfl) ?_
          rcases hN10 : gR Mg1 a0 3 with _ | b10
          · replace h := oc_n hN10 h
            refine r_get (T := TX13) (v := .null) hx hb hts in13 hown hK hP k0 (by decide) rfl 3 (by decide) (hts (.fieldLink RX13 431 "StoneWalkModel" "island" "LStoneWalkModel$Island;") (List.mem_of_getElem? (i := 2) (by decide +kernel))) rfl (t := 2) rfl (by show va_rf _ = _; rw [hN10]; rfl) dX13_turn_48 ?_
            exact absurd h (by simp)
          · replace h := oc_s hN10 h
            have kb10 := hT.f k0 (k := 3) (t := 12) (n := 0) rfl hN10
            refine r_get (T := TX13) (v := .ref (ad b10)) hx hb hts in13 hown hK hP k0 (by decide) rfl 3 (by decide) (hts (.fieldLink RX13 431 "StoneWalkModel" "island" "LStoneWalkModel$Island;") (List.mem_of_getElem? (i := 2) (by decide +kernel))) rfl (t := 2) rfl (by show va_rf _ = _; rw [hN10]; rfl) dX13_turn_48 ?_
            rcases hN11 : gR Mg1 b10 19 with _ | b11
            · exact absurd (oc_n hN11 h) (by simp)
            replace h := oc_s hN11 h
            have kb11 := hT.f kb10 (k := 19) (t := 15) (n := 10) rfl hN11
            refine r_getN (T := TX12) (v := .ref (ad b11)) hx hb hts in12 hown hK hP kb10 (by decide) rfl 19 (by decide) (hG.2.2.1 ("StoneWalkModel", 309, "StoneWalkModel$Island", "lie", "[I", "StoneWalkModel") (List.mem_of_getElem? (i := 19) rfl)) rfl (t := 2) rfl (by show va_rf _ = _; rw [hN11]; rfl) dX13_turn_51 ?_
            refine lv_iload_n hx hb dX13_turn_54 rfl (lv_at hl 1 rfl) ?_
            refine lv_iload_n hx hb dX13_turn_55 rfl (lv_at hl 2 rfl) ?_
            obtain ⟨hn12, h⟩ := chk_some h
            refine r_iast hx hb hK hP hD hT hS kb11 hn12 dX13_turn_56 (fun H locs hP hD hT hS => ?_)
            generalize pI Mg1 b11 (ix x1) x2 = Mg2 at h hP hD hT ⊢
            refine lv_aload_n hx hb dX13_turn_57 rfl (lv_at hl 0 rfl) ?_
            obtain ⟨z13, h13, h⟩ := ob_some h
            refine k_z (va_runV (As := []) (rest := []) ⟨hx, hb, hml, hown, hts⟩ (c_X13_granted (l := l) Mg2 a0 k0 h13) (cwV 0 hts gX13_turn_X13_granted rfl rfl rfl hdV_X13_granted ⟨Nat.le_of_ble_eq_true rfl, Nat.le_of_ble_eq_true rfl⟩) (pV (T := TX13) hP hK hD hT hG hS k0 (by decide) rfl) rfl rfl hl.1 rfl (lv_room (Nat.le_of_ble_eq_true rfl)) dX13_turn_58 ⟨Nat.zero_le _, Nat.zero_le _⟩) hS (fun H locs hz13 hP hD hT hS => ?_)
            have hZ := Option.some.inj h
            have hZ1 := congrArg Prod.fst hZ
            have hZ2 := congrArg Prod.snd hZ
            exact r_zret hx hb hr hlocks hP hK hD hT hG hS hz13 hZ1 hZ2 dX13_turn_61
        · replace h := ite_f c9 h
          refine lv_aload_n hx hb dX13_turn_41 rfl (lv_at hl 0 rfl) ?_
          refine lv_iconst (v := 5) hx hb dX13_turn_42 rfl ?_
          obtain ⟨z14, h14, h⟩ := ob_some h
          refine k_z (va_runV (As := [.int 5]) (rest := []) ⟨hx, hb, hml, hown, hts⟩ (c_X13_denied (l := l) Mg1 a0 5 k0 h14) (cwV 1 hts gX13_turn_X13_denied rfl rfl rfl hdV_X13_denied ⟨Nat.le_of_ble_eq_true rfl, Nat.le_of_ble_eq_true rfl⟩) (pV (T := TX13) hP hK hD hT hG hS k0 (by decide) rfl) rfl rfl hl.1 rfl (lv_room (Nat.le_of_ble_eq_true rfl)) dX13_turn_43 ⟨Nat.zero_le _, Nat.zero_le _⟩) hS (fun H locs hz14 hP hD hT hS => ?_)
          have hZ := Option.some.inj h
          have hZ1 := congrArg Prod.fst hZ
          have hZ2 := congrArg Prod.snd hZ
          exact r_zret hx hb hr hlocks hP hK hD hT hG hS hz14 hZ1 hZ2 dX13_turn_46
    · replace h := ite_t c5 h
      refine lv_aload_n hx hb dX13_turn_22 rfl (lv_at hl 0 rfl) ?_
      refine lv_iconst (v := 1) hx hb dX13_turn_23 rfl ?_
      obtain ⟨z15, h15, h⟩ := ob_some h
      refine k_z (va_runV (As := [.int 1]) (rest := []) ⟨hx, hb, hml, hown, hts⟩ (c_X13_denied (l := l) Mg1 a0 1 k0 h15) (cwV 1 hts gX13_turn_X13_denied rfl rfl rfl hdV_X13_denied ⟨Nat.le_of_ble_eq_true rfl, Nat.le_of_ble_eq_true rfl⟩) (pV (T := TX13) hP hK hD hT hG hS k0 (by decide) rfl) rfl rfl hl.1 rfl (lv_room (Nat.le_of_ble_eq_true rfl)) dX13_turn_24 ⟨Nat.zero_le _, Nat.zero_le _⟩) hS (fun H locs hz15 hP hD hT hS => ?_)
      have hZ := Option.some.inj h
      have hZ1 := congrArg Prod.fst hZ
      have hZ2 := congrArg Prod.snd hZ
      exact r_zret hx hb hr hlocks hP hK hD hT hG hS hz15 hZ1 hZ2 dX13_turn_27
