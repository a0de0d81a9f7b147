set_option maxHeartbeats 4000000 in
set_option maxRecDepth 100000 in
theorem c_X13_lying {l : Launch} {D : va_G} {ad : Nat → Nat} {cy : Nat → ClassId} {A : Nat → Prop} {g : CG} {q : SE} (M : MM) (a0 : Nat) (x1 : Int32) (x2 : Int32) (x3 : Int32) (k0 : ok g a0 13 0) {Z : (Int32 × MM)} (h : f_X13_lying M a0 x1 x2 x3 = some Z) : Met l yX13_lying wsX13_lying ({ frames := 1, cells := 0, slots := 0, locals := 25 }) (va_Pc [.ref (ad a0), .int x1, .int x2, .int x3] (Wd D ad cy A g q M)) (va_Qi (fun r u => r = Z.1 ∧ u = Z.2) (Wd D ad cy A g q) A) 0 0 A := by
  refine Met.ofW (cc := cX13_lying) (maxL := 4) (ret := (some .int)) (by decide) rfl ?_
  intro p e s m args below meth c s₁ B hml hv
  obtain ⟨rfl, hP, hK, hD, hT, hG⟩ := hv
  have hx := B.exec
  have hb := B.bytes
  have hr := B.returns
  have hts := atoms_spec (ws := wsX13_lying) B.pre
  have hown : s.vm.findClass RX13 = some m.cls := findClass_of_methodNamed B.named
  have hlocks := B.notSynchronized
  have in13 : ∀ w ∈ u_ws RX13 TX13 29, w ∈ wsX13_lying := fun w h => List.mem_cons_of_mem _ (List.mem_append_left _ (List.mem_append_right _ h))
  have hS : va_S A s.heap s.heap [] := va_S.rf
  have hl := lv_entry ([.ref (ad a0), .int x1, .int x2, .int x3]) (n := 4) (Nat.le_of_ble_eq_true rfl)
  rw [lg_entry_eq]
  generalize (lg_sl ([.ref (ad a0), .int x1, .int x2, .int x3]) ++ List.replicate (4 - (lg_sl ([.ref (ad a0), .int x1, .int x2, .int x3])).length) Slot.unset).toArray = ls at hl ⊢
  have hl : lv_has ls 4 [(0, .ref (ad a0)), (1, .int x1), (2, .int x2), (3, .int x3)] := hl
  unfold f_X13_lying at h
  refine lv_aload_n hx hb dX13_lying_0 rfl (lv_at hl 0 rfl) ?_
  refine lv_iconst (v := 0) hx hb dX13_lying_1 rfl ?_
  refine r_putI (T := TX13) (ty := .int) (v := 0) hx hb hts in13 tyX13 tyX13_ok nmX13 hown hK hP hD hT hS k0 (by decide) rfl 0 (by decide) (hts (.fieldLink RX13 30 "StoneWalkModel" "thrown" "I") (List.mem_of_getElem? (i := 1) (by decide +kernel))) rfl rfl (tyX13_ok 0 (by decide)) rfl rfl rfl dX13_lying_2 (fun H locs hP hD hT hS => ?_)
  generalize pI M a0 0 0 = Mg1 at h hP hD hT ⊢
  refine lv_aload_n hx hb dX13_lying_5 rfl (lv_at hl 0 rfl) ?_
  refine lv_iload_n hx hb dX13_lying_6 rfl (lv_at hl 1 rfl) ?_
  obtain ⟨z1, h1, h⟩ := ob_some h
  refine k_z (va_runV (As := [.int x1]) (rest := []) ⟨hx, hb, hml, hown, hts⟩ (c_X13_isWay (l := l) Mg1 a0 x1 k0 h1) (cwV 1 hts gX13_lying_X13_isWay rfl rfl rfl hdV_X13_isWay ⟨Nat.le_of_ble_eq_true rfl, Nat.le_of_ble_eq_true rfl⟩) (pV (T := TX13) hP hK hD hT hG hS k0 (by decide) rfl) rfl rfl hl.1 rfl (lv_room (Nat.le_of_ble_eq_true rfl)) dX13_lying_7 ⟨Nat.zero_le _, Nat.zero_le _⟩) hS (fun H locs hz1 hP hD hT hS => ?_)
  refine lv_if_eq (tgt := 22) hx hb dX13_lying_10 rfl (fun c2 => ?_) (fun c2 => ?_)
  · replace h := ite_t c2 h
    refine lv_aload_n hx hb dX13_lying_22 rfl (lv_at hl 0 rfl) ?_
    refine lv_iconst (v := 1) hx hb dX13_lying_23 rfl ?_
    obtain ⟨z3, h3, h⟩ := ob_some h
    refine k_i (va_runV (As := [.int 1]) (rest := []) ⟨hx, hb, hml, hown, hts⟩ (c_X13_refused (l := l) Mg1 a0 1 k0 h3) (cwV 1 hts gX13_lying_X13_refused rfl rfl rfl hdV_X13_refused ⟨Nat.le_of_ble_eq_true rfl, Nat.le_of_ble_eq_true rfl⟩) (pV (T := TX13) hP hK hD hT hG hS k0 (by decide) rfl) rfl rfl hl.1 rfl (lv_room (Nat.le_of_ble_eq_true rfl)) dX13_lying_24 ⟨Nat.zero_le _, Nat.zero_le _⟩) hS (fun H locs hP hD hT hS => ?_)
    have hZ := Option.some.inj h
    have hZ1 := congrArg Prod.fst hZ
    have hZ2 := congrArg Prod.snd hZ
    exact r_iret hx hb hr hlocks hP hK hD hT hG hS hZ1 hZ2 dX13_lying_27
  · replace h := ite_f c2 h
    refine lv_iload_n hx hb dX13_lying_13 rfl (lv_at hl 3 rfl) ?_
    refine lv_iconst (v := 0) hx hb dX13_lying_14 rfl ?_
    refine lv_iconst (v := 2) hx hb dX13_lying_15 rfl ?_
    obtain ⟨z4, h4, h⟩ := ob_some h
    refine k_z (va_runS (As := [.int x3, .int 0, .int 2]) (rest := []) ⟨hx, hb, hml, hown, hts⟩ (c_X13_in (l := l) Mg1 x3 0 2 h4) (va_cwS 3 hts gX13_lying_X13_in rfl rfl rfl hdS_X13_in ⟨Nat.le_of_ble_eq_true rfl, Nat.le_of_ble_eq_true rfl⟩) (pS hP hK hD hT hG hS) rfl rfl hl.1 rfl (lv_room (Nat.le_of_ble_eq_true rfl)) dX13_lying_16 ⟨Nat.zero_le _, Nat.zero_le _⟩) hS (fun H locs hz4 hP hD hT hS => ?_)
    refine lv_if_ne (tgt := 28) hx hb dX13_lying_19 rfl (fun c5 => ?_) (fun c5 => ?_)
    · replace h := ite_f c5 h
      refine lv_iload_n hx hb dX13_lying_28 rfl (lv_at hl 2 rfl) ?_
      refine lv_bipush (v := (-20)) hx hb dX13_lying_29 rfl ?_
      refine lv_bipush (v := 20) hx hb dX13_lying_31 rfl ?_
      obtain ⟨z6, h6, h⟩ := ob_some h
      refine k_z (va_runS (As := [.int x2, .int (-20), .int 20]) (rest := []) ⟨hx, hb, hml, hown, hts⟩ (c_X13_in (l := l) Mg1 x2 (-20) 20 h6) (va_cwS 3 hts gX13_lying_X13_in rfl rfl rfl hdS_X13_in ⟨Nat.le_of_ble_eq_true rfl, Nat.le_of_ble_eq_true rfl⟩) (pS hP hK hD hT hG hS) rfl rfl hl.1 rfl (lv_room (Nat.le_of_ble_eq_true rfl)) dX13_lying_33 ⟨Nat.zero_le _, Nat.zero_le _⟩) hS (fun H locs hz6 hP hD hT hS => ?_)
      refine lv_if_eq (tgt := 53) hx hb dX13_lying_36 rfl (fun c7 => ?_) (fun c7 => ?_)
      · replace h := ite_t c7 h
        refine lv_aload_n hx hb dX13_lying_53 rfl (lv_at hl 0 rfl) ?_
        refine lv_iconst (v := 2) hx hb dX13_lying_54 rfl ?_
        obtain ⟨z8, h8, h⟩ := ob_some h
        refine k_i (va_runV (As := [.int 2]) (rest := []) ⟨hx, hb, hml, hown, hts⟩ (c_X13_refused (l := l) Mg1 a0 2 k0 h8) (cwV 1 hts gX13_lying_X13_refused rfl rfl rfl hdV_X13_refused ⟨Nat.le_of_ble_eq_true rfl, Nat.le_of_ble_eq_true rfl⟩) (pV (T := TX13) hP hK hD hT hG hS k0 (by decide) rfl) rfl rfl hl.1 rfl (lv_room (Nat.le_of_ble_eq_true rfl)) dX13_lying_55 ⟨Nat.zero_le _, Nat.zero_le _⟩) hS (fun H locs hP hD hT hS => ?_)
        have hZ := Option.some.inj h
        have hZ1 := congrArg Prod.fst hZ
        have hZ2 := congrArg Prod.snd hZ
        exact r_iret hx hb hr hlocks hP hK hD hT hG hS hZ1 hZ2 dX13_lying_58
      · replace h := ite_f c7 h
        refine lv_aload_n hx hb dX13_lying_39 rfl (lv_at hl 0 rfl) ?_
        refine lv_aload_n hx hb dX13_lying_40 rfl (lv_at hl 0 rfl) ?_
        refine lv_iload_n hx hb dX13_lying_41 rfl (lv_at hl 1 rfl) ?_
        refine lv_iload_n hx hb dX13_lying_42 rfl (lv_at hl 2 rfl) ?_
        refine lv_iload_n hx hb dX13_lying_43 rfl (lv_at hl 3 rfl) ?_
        obtain ⟨z9, h9, h⟩ := ob_some h
        refine k_i (va_runV (As := [.int x1, .int x2, .int x3]) (rest := [.ref (ad a0)]) ⟨hx, hb, hml, hown, hts⟩ (c_X13_tenths (l := l) Mg1 a0 x1 x2 x3 k0 h9) (cwV 3 hts gX13_lying_X13_tenths rfl rfl rfl hdV_X13_tenths ⟨Nat.le_of_ble_eq_true rfl, Nat.le_of_ble_eq_true rfl⟩) (pV (T := TX13) hP hK hD hT hG hS k0 (by decide) rfl) rfl rfl hl.1 rfl (lv_room (Nat.le_of_ble_eq_true rfl)) dX13_lying_44 ⟨Nat.zero_le _, Nat.zero_le _⟩) hS (fun H locs hP hD hT hS => ?_)
        obtain ⟨z10, h10, h⟩ := ob_some h
        refine k_i (va_runV (As := [.int z9]) (rest := []) ⟨hx, hb, hml, hown, hts⟩ (c_X13_done (l := l) Mg1 a0 z9 k0 h10) (cwV 1 hts gX13_lying_X13_done rfl rfl rfl hdV_X13_done ⟨Nat.le_of_ble_eq_true rfl, Nat.le_of_ble_eq_true rfl⟩) (pV (T := TX13) hP hK hD hT hG hS k0 (by decide) rfl) rfl rfl hl.1 rfl (lv_room (Nat.le_of_ble_eq_true rfl)) dX13_lying_47 ⟨Nat.zero_le _, Nat.zero_le _⟩) hS (fun H locs hP hD hT hS => ?_)
        refine lv_goto (tgt := 58) hx hb dX13_lying_50 rfl ?_
        have hZ := Option.some.inj h
        have hZ1 := congrArg Prod.fst hZ
        have hZ2 := congrArg Prod.snd hZ
        exact r_iret hx hb hr hlocks hP hK hD hT hG hS hZ1 hZ2 dX13_lying_58
    · replace h := ite_t c5 h
      refine lv_aload_n hx hb dX13_lying_22 rfl (lv_at hl 0 rfl) ?_
      refine lv_iconst (v := 1) hx hb dX13_lying_23 rfl ?_
      obtain ⟨z11, h11, h⟩ := ob_some h
      refine k_i (va_runV (As := [.int 1]) (rest := []) ⟨hx, hb, hml, hown, hts⟩ (c_X13_refused (l := l) Mg1 a0 1 k0 h11) (cwV 1 hts gX13_lying_X13_refused rfl rfl rfl hdV_X13_refused ⟨Nat.le_of_ble_eq_true rfl, Nat.le_of_ble_eq_true rfl⟩) (pV (T := TX13) hP hK hD hT hG hS k0 (by decide) rfl) rfl rfl hl.1 rfl (lv_room (Nat.le_of_ble_eq_true rfl)) dX13_lying_24 ⟨Nat.zero_le _, Nat.zero_le _⟩) hS (fun H locs hP hD hT hS => ?_)
      have hZ := Option.some.inj h
      have hZ1 := congrArg Prod.fst hZ
      have hZ2 := congrArg Prod.snd hZ
      exact r_iret hx hb hr hlocks hP hK hD hT hG hS hZ1 hZ2 dX13_lying_27
set_option maxHeartbeats 4000000 in
set_option maxRecDepth 100000 in
theorem c_X13_needAlong {l : Launch} {D : va_G} {ad : Nat → Nat} {cy : Nat → ClassId} {A : Nat → Prop} {g : CG} {q : SE} (M : MM) (a0 : Nat) (x1 : Int32) (x2 : Int32) (x3 : Int32) (k0 : ok g a0 13 0) {Z : Int32} (h : f_X13_needAlong M a0 x1 x2 x3 = some Z) : Met l yX13_needAlong wsX13_needAlong ({ frames := 3, cells := 0, slots := 0, locals := 69 }) (va_Pc [.ref (ad a0), .int x1, .int x2, .int x3] (Wd D ad cy A g q M)) (va_Qi (fun r u => r = Z ∧ u = M) (Wd D ad cy A g q) A) 0 0 A := by
  refine Met.ofW (cc := cX13_needAlong) (maxL := 8) (ret := (some .int)) (by decide) rfl ?_
  intro p e s m args below meth c s₁ B hml hv
  obtain ⟨rfl, hP, hK, hD, hT, hG⟩ := hv
  have hx := B.exec
  have hb := B.bytes
  have hr := B.returns
  have hts := atoms_spec (ws := wsX13_needAlong) B.pre
  have hown : s.vm.findClass RX13 = some m.cls := findClass_of_methodNamed B.named
  have hlocks := B.notSynchronized
  have in12 : ∀ w ∈ u_ws RX12 TX12 48, w ∈ wsX13_needAlong := fun w h => List.mem_cons_of_mem _ (List.mem_append_right _ h)
  have in13 : ∀ w ∈ u_ws RX13 TX13 29, w ∈ wsX13_needAlong := fun w h => List.mem_cons_of_mem _ (List.mem_append_left _ (List.mem_append_right _ h))
  have hS : va_S A s.heap s.heap [] := va_S.rf
  have hl := lv_entry ([.ref (ad a0), .int x1, .int x2, .int x3]) (n := 8) (Nat.le_of_ble_eq_true rfl)
  rw [lg_entry_eq]
  generalize (lg_sl ([.ref (ad a0), .int x1, .int x2, .int x3]) ++ List.replicate (8 - (lg_sl ([.ref (ad a0), .int x1, .int x2, .int x3])).length) Slot.unset).toArray = ls at hl ⊢
  have hl : lv_has ls 8 [(0, .ref (ad a0)), (1, .int x1), (2, .int x2), (3, .int x3)] := hl
  unfold f_X13_needAlong at h
  refine lv_iconst (v := 0) hx hb dX13_needAlong_0 rfl ?_
  refine lv_istore (lv' := [(4, .int 0), (0, .ref (ad a0)), (1, .int x1), (2, .int x2), (3, .int x3)]) hx hb dX13_needAlong_1 hl (by decide) rfl (fun ls hl => ?_)
  refine lv_iconst (v := 0) hx hb dX13_needAlong_3 rfl ?_
  refine lv_istore (lv' := [(5, .int 0), (4, .int 0), (0, .ref (ad a0)), (1, .int x1), (2, .int x2), (3, .int x3)]) hx hb dX13_needAlong_4 hl (by decide) rfl (fun ls hl => ?_)
  have L1 : ∀ n1 : Nat, ∀ (y1_0 : Nat) (y1_1 : Int32) (y1_2 : Int32) (y1_3 : Int32) (y1_4 : Int32) (y1_5 : Int32) (ky1_0 : ok g y1_0 13 0) (H : Heap) (locs : List Loc), f_X13_needAlong_L6 n1 M y1_0 y1_1 y1_2 y1_3 y1_4 y1_5 = some Z → va_P D vwCl (wd ad cy g M) H → va_D A (wd ad cy g M) → WT g M → va_S A s.heap H locs → ∀ (ls : Array Slot), lv_has ls 8 [(0, .ref (ad y1_0)), (1, .int y1_1), (2, .int y1_2), (3, .int y1_3), (4, .int y1_4), (5, .int y1_5)] → W p l e ((headSpec wsX13_needAlong ({ frames := 3, cells := 0, slots := 0, locals := 69 })).room) s m (([.ref (ad a0), .int x1, .int x2, .int x3] : List Value).toArray) below meth c H locs 0 0 (MQ below (va_Qi (fun r u => r = Z ∧ u = M) (Wd D ad cy A g q) A) ([.ref (ad a0), .int x1, .int x2, .int x3]).toArray s 0 0 A) (F0 m 6 ls []) := by
    intro n1
    induction n1 with
    | zero => intro y1_0 y1_1 y1_2 y1_3 y1_4 y1_5 ky1_0 H locs h; exact absurd h (by simp [f_X13_needAlong_L6])
    | succ n1 ih1 =>
      intro y1_0 y1_1 y1_2 y1_3 y1_4 y1_5 ky1_0 H locs h hP hD hT hS ls hl
      rw [f_X13_needAlong_L6] at h
      refine lv_iload hx hb dX13_needAlong_6 (lv_at hl 5 rfl) ?_
      refine lv_aload_n hx hb dX13_needAlong_8 rfl (lv_at hl 0 rfl) ?_
      rcases hN2 : gR M y1_0 3 with _ | b2
      · replace h := oc_n hN2 h
        refine r_get (T := TX13) (v := .null) hx hb hts in13 hown hK hP ky1_0 (by decide) rfl 3 (by decide) (hts (.fieldLink RX13 431 "StoneWalkModel" "island" "LStoneWalkModel$Island;") (List.mem_of_getElem? (i := 1) (by decide +kernel))) rfl (t := 2) rfl (by show va_rf _ = _; rw [hN2]; rfl) dX13_needAlong_9 ?_
        exact absurd h (by simp)
      · replace h := oc_s hN2 h
        have kb2 := hT.f ky1_0 (k := 3) (t := 12) (n := 0) rfl hN2
        refine r_get (T := TX13) (v := .ref (ad b2)) hx hb hts in13 hown hK hP ky1_0 (by decide) rfl 3 (by decide) (hts (.fieldLink RX13 431 "StoneWalkModel" "island" "LStoneWalkModel$Island;") (List.mem_of_getElem? (i := 1) (by decide +kernel))) rfl (t := 2) rfl (by show va_rf _ = _; rw [hN2]; rfl) dX13_needAlong_9 ?_
        rcases hN3 : gR M b2 13 with _ | b3
        · exact absurd (oc_n hN3 h) (by simp)
        replace h := oc_s hN3 h
        have kb3 := hT.f kb2 (k := 13) (t := 15) (n := 3) rfl hN3
        refine r_getN (T := TX12) (v := .ref (ad b3)) hx hb hts in12 hown hK hP kb2 (by decide) rfl 13 (by decide) (hG.2.2.1 ("StoneWalkModel", 266, "StoneWalkModel$Island", "slopes", "[I", "StoneWalkModel") (List.mem_of_getElem? (i := 13) rfl)) rfl (t := 2) rfl (by show va_rf _ = _; rw [hN3]; rfl) dX13_needAlong_12 ?_
        refine lv_iload_n hx hb dX13_needAlong_15 rfl (lv_at hl 3 rfl) ?_
        obtain ⟨hn4, h⟩ := chk_some h
        refine r_iald hx hb hK hP kb3 hn4 dX13_needAlong_16 ?_
        refine lv_icmp_ge (tgt := 85) hx hb dX13_needAlong_17 rfl (fun c5 => ?_) (fun c5 => ?_)
        · replace h := ite_t c5 h
          refine lv_iload hx hb dX13_needAlong_85 (lv_at hl 4 rfl) ?_
          exact r_iret hx hb hr hlocks hP hK hD hT hG hS (Option.some.inj h) rfl dX13_needAlong_87
        · replace h := ite_f c5 h
          refine lv_aload_n hx hb dX13_needAlong_20 rfl (lv_at hl 0 rfl) ?_
          rcases hN6 : gR M y1_0 3 with _ | b6
          · replace h := oc_n hN6 h
            refine r_get (T := TX13) (v := .null) hx hb hts in13 hown hK hP ky1_0 (by decide) rfl 3 (by decide) (hts (.fieldLink RX13 431 "StoneWalkModel" "island" "LStoneWalkModel$Island;") (List.mem_of_getElem? (i := 1) (by decide +kernel))) rfl (t := 2) rfl (by show va_rf _ = _; rw [hN6]; rfl) dX13_needAlong_21 ?_
            refine lv_iload_n hx hb dX13_needAlong_24 rfl (lv_at hl 3 rfl) ?_
            refine lv_iload hx hb dX13_needAlong_25 (lv_at hl 5 rfl) ?_
            exact absurd h (by simp)
          · replace h := oc_s hN6 h
            have kb6 := hT.f ky1_0 (k := 3) (t := 12) (n := 0) rfl hN6
            refine r_get (T := TX13) (v := .ref (ad b6)) hx hb hts in13 hown hK hP ky1_0 (by decide) rfl 3 (by decide) (hts (.fieldLink RX13 431 "StoneWalkModel" "island" "LStoneWalkModel$Island;") (List.mem_of_getElem? (i := 1) (by decide +kernel))) rfl (t := 2) rfl (by show va_rf _ = _; rw [hN6]; rfl) dX13_needAlong_21 ?_
            refine lv_iload_n hx hb dX13_needAlong_24 rfl (lv_at hl 3 rfl) ?_
            refine lv_iload hx hb dX13_needAlong_25 (lv_at hl 5 rfl) ?_
            obtain ⟨z7, h7, h⟩ := ob_some h
            refine k_i (va_runV (As := [.int y1_3, .int y1_5]) (rest := []) ⟨hx, hb, hml, hown, hts⟩ (c_X12_slopeAt (l := l) M b6 y1_3 y1_5 kb6 h7) (cwV 2 hts gX13_needAlong_X12_slopeAt rfl rfl rfl hdV_X12_slopeAt ⟨Nat.le_of_ble_eq_true rfl, Nat.le_of_ble_eq_true rfl⟩) (pV (T := TX12) hP hK hD hT hG hS kb6 (by decide) rfl) rfl rfl hl.1 rfl (lv_room (Nat.le_of_ble_eq_true rfl)) dX13_needAlong_27 ⟨Nat.zero_le _, Nat.zero_le _⟩) hS (fun H locs hP hD hT hS => ?_)
            refine lv_istore (lv' := [(6, .int z7), (0, .ref (ad y1_0)), (1, .int y1_1), (2, .int y1_2), (3, .int y1_3), (4, .int y1_4), (5, .int y1_5)]) hx hb dX13_needAlong_30 hl (by decide) rfl (fun ls hl => ?_)
            refine lv_aload_n hx hb dX13_needAlong_32 rfl (lv_at hl 1 rfl) ?_
            refine lv_iload_n hx hb dX13_needAlong_33 rfl (lv_at hl 2 rfl) ?_
            refine lv_iload_n hx hb dX13_needAlong_34 rfl (lv_at hl 3 rfl) ?_
            refine lv_iload hx hb dX13_needAlong_35 (lv_at hl 0 rfl) ?_
            obtain ⟨z8, h8, h⟩ := ob_some h
            refine k_z (va_runV (As := [.int y1_1, .int y1_2, .int z7]) (rest := []) ⟨hx, hb, hml, hown, hts⟩ (c_X13_canBy (l := l) M y1_0 y1_1 y1_2 z7 ky1_0 h8) (cwV 3 hts gX13_needAlong_X13_canBy rfl rfl rfl hdV_X13_canBy ⟨Nat.le_of_ble_eq_true rfl, Nat.le_of_ble_eq_true rfl⟩) (pV (T := TX13) hP hK hD hT hG hS ky1_0 (by decide) rfl) rfl rfl hl.1 rfl (lv_room (Nat.le_of_ble_eq_true rfl)) dX13_needAlong_37 ⟨Nat.zero_le _, Nat.zero_le _⟩) hS (fun H locs hz8 hP hD hT hS => ?_)
            refine lv_if_ne (tgt := 45) hx hb dX13_needAlong_40 rfl (fun c9 => ?_) (fun c9 => ?_)
            · replace h := ite_f c9 h
              refine lv_aload_n hx hb dX13_needAlong_45 rfl (lv_at hl 1 rfl) ?_
              refine lv_iload_n hx hb dX13_needAlong_46 rfl (lv_at hl 2 rfl) ?_
              refine lv_aload_n hx hb dX13_needAlong_47 rfl (lv_at hl 1 rfl) ?_
              rcases hN10 : gR M y1_0 3 with _ | b10
              · replace h := oc_n hN10 h
                refine r_get (T := TX13) (v := .null) hx hb hts in13 hown hK hP ky1_0 (by decide) rfl 3 (by decide) (hts (.fieldLink RX13 431 "StoneWalkModel" "island" "LStoneWalkModel$Island;") (List.mem_of_getElem? (i := 1) (by decide +kernel))) rfl (t := 2) rfl (by show va_rf _ = _; rw [hN10]; rfl) dX13_needAlong_48 ?_
                exact absurd h (by simp)
              · replace h := oc_s hN10 h
                have kb10 := hT.f ky1_0 (k := 3) (t := 12) (n := 0) rfl hN10
                refine r_get (T := TX13) (v := .ref (ad b10)) hx hb hts in13 hown hK hP ky1_0 (by decide) rfl 3 (by decide) (hts (.fieldLink RX13 431 "StoneWalkModel" "island" "LStoneWalkModel$Island;") (List.mem_of_getElem? (i := 1) (by decide +kernel))) rfl (t := 2) rfl (by show va_rf _ = _; rw [hN10]; rfl) dX13_needAlong_48 ?_
                rcases hN11 : gR M b10 15 with _ | b11
                · exact absurd (oc_n hN11 h) (by simp)
                replace h := oc_s hN11 h
                have kb11 := hT.f kb10 (k := 15) (t := 15) (n := 10) rfl hN11
                refine r_getN (T := TX12) (v := .ref (ad b11)) hx hb hts in12 hown hK hP kb10 (by decide) rfl 15 (by decide) (hG.2.2.1 ("StoneWalkModel", 301, "StoneWalkModel$Island", "tons", "[I", "StoneWalkModel") (List.mem_of_getElem? (i := 15) rfl)) rfl (t := 2) rfl (by show va_rf _ = _; rw [hN11]; rfl) dX13_needAlong_51 ?_
                refine lv_iload_n hx hb dX13_needAlong_54 rfl (lv_at hl 3 rfl) ?_
                obtain ⟨hn12, h⟩ := chk_some h
                refine r_iald hx hb hK hP kb11 hn12 dX13_needAlong_55 ?_
                refine lv_iload hx hb dX13_needAlong_56 (lv_at hl 0 rfl) ?_
                obtain ⟨z13, h13, h⟩ := ob_some h
                refine k_i (va_runV (As := [.int y1_1, .int (gI M b11 (ix y1_2)), .int z7]) (rest := []) ⟨hx, hb, hml, hown, hts⟩ (c_X13_needBy (l := l) M y1_0 y1_1 (gI M b11 (ix y1_2)) z7 ky1_0 h13) (cwV 3 hts gX13_needAlong_X13_needBy rfl rfl rfl hdV_X13_needBy ⟨Nat.le_of_ble_eq_true rfl, Nat.le_of_ble_eq_true rfl⟩) (pV (T := TX13) hP hK hD hT hG hS ky1_0 (by decide) rfl) rfl rfl hl.1 rfl (lv_room (Nat.le_of_ble_eq_true rfl)) dX13_needAlong_58 ⟨Nat.zero_le _, Nat.zero_le _⟩) hS (fun H locs hP hD hT hS => ?_)
                refine lv_istore (lv' := [(7, .int z13), (6, .int z7), (0, .ref (ad y1_0)), (1, .int y1_1), (2, .int y1_2), (3, .int y1_3), (4, .int y1_4), (5, .int y1_5)]) hx hb dX13_needAlong_61 hl (by decide) rfl (fun ls hl => ?_)
                refine lv_iload hx hb dX13_needAlong_63 (lv_at hl 0 rfl) ?_
                refine lv_iload hx hb dX13_needAlong_65 (lv_at hl 6 rfl) ?_
                refine lv_icmp_le (tgt := 75) hx hb dX13_needAlong_67 rfl (fun c14 => ?_) (fun c14 => ?_)
                · replace h := ite_t c14 h
                  refine lv_iload hx hb dX13_needAlong_75 (lv_at hl 6 rfl) ?_
                  refine lv_istore (lv' := [(4, .int y1_4), (7, .int z13), (6, .int z7), (0, .ref (ad y1_0)), (1, .int y1_1), (2, .int y1_2), (3, .int y1_3), (5, .int y1_5)]) hx hb dX13_needAlong_77 hl (by decide) rfl (fun ls hl => ?_)
                  refine lv_iinc (v := y1_5 + 1) (lv' := [(5, .int (y1_5 + 1)), (4, .int y1_4), (7, .int z13), (6, .int z7), (0, .ref (ad y1_0)), (1, .int y1_1), (2, .int y1_2), (3, .int y1_3)]) hx hb dX13_needAlong_79 hl (k := 7) rfl rfl (by decide) rfl (fun ls hl => ?_)
                  refine lv_goto (tgt := 6) hx hb dX13_needAlong_82 rfl ?_
                  exact ih1 y1_0 y1_1 y1_2 y1_3 y1_4 (y1_5 + 1) ky1_0 _ _ h hP hD hT hS ls (lv_sub hl [4, 5, 6, 7, 1, 0] rfl)
                · replace h := ite_f c14 h
                  refine lv_iload hx hb dX13_needAlong_70 (lv_at hl 0 rfl) ?_
                  refine lv_goto (tgt := 77) hx hb dX13_needAlong_72 rfl ?_
                  refine lv_istore (lv' := [(4, .int z13), (7, .int z13), (6, .int z7), (0, .ref (ad y1_0)), (1, .int y1_1), (2, .int y1_2), (3, .int y1_3), (5, .int y1_5)]) hx hb dX13_needAlong_77 hl (by decide) rfl (fun ls hl => ?_)
                  refine lv_iinc (v := y1_5 + 1) (lv' := [(5, .int (y1_5 + 1)), (4, .int z13), (7, .int z13), (6, .int z7), (0, .ref (ad y1_0)), (1, .int y1_1), (2, .int y1_2), (3, .int y1_3)]) hx hb dX13_needAlong_79 hl (k := 7) rfl rfl (by decide) rfl (fun ls hl => ?_)
                  refine lv_goto (tgt := 6) hx hb dX13_needAlong_82 rfl ?_
                  exact ih1 y1_0 y1_1 y1_2 y1_3 z13 (y1_5 + 1) ky1_0 _ _ h hP hD hT hS ls (lv_sub hl [4, 5, 6, 7, 1, 0] rfl)
            · replace h := ite_t c9 h
              refine lv_iconst (v := (-1)) hx hb dX13_needAlong_43 rfl ?_
              exact r_iret hx hb hr hlocks hP hK hD hT hG hS (Option.some.inj h) rfl dX13_needAlong_44
  exact L1 FU a0 x1 x2 x3 0 0 k0 _ _ h hP hD hT hS ls (lv_sub hl [2, 3, 4, 5, 1, 0] rfl)
set_option maxHeartbeats 4000000 in
set_option maxRecDepth 100000 in
theorem c_X13_easiest {l : Launch} {D : va_G} {ad : Nat → Nat} {cy : Nat → ClassId} {A : Nat → Prop} {g : CG} {q : SE} (M : MM) (a0 : Nat) (x1 : Int32) (x2 : Int32) (k0 : ok g a0 13 0) {Z : (Int32 × MM)} (h : f_X13_easiest M a0 x1 x2 = some Z) : Met l yX13_easiest wsX13_easiest ({ frames := 4, cells := 0, slots := 0, locals := 96 }) (va_Pc [.ref (ad a0), .int x1, .int x2] (Wd D ad cy A g q M)) (va_Qi (fun r u => r = Z.1 ∧ u = Z.2) (Wd D ad cy A g q) A) 0 0 A := by
  refine Met.ofW (cc := cX13_easiest) (maxL := 7) (ret := (some .int)) (by decide) rfl ?_
  intro p e s m args below meth c s₁ B hml hv
  obtain ⟨rfl, hP, hK, hD, hT, hG⟩ := hv
  have hx := B.exec
  have hb := B.bytes
  have hr := B.returns
  have hts := atoms_spec (ws := wsX13_easiest) B.pre
  have hown : s.vm.findClass RX13 = some m.cls := findClass_of_methodNamed B.named
  have hlocks := B.notSynchronized
  have in12 : ∀ w ∈ u_ws RX12 TX12 48, w ∈ wsX13_easiest := fun w h => List.mem_cons_of_mem _ (List.mem_append_right _ h)
  have in13 : ∀ w ∈ u_ws RX13 TX13 29, w ∈ wsX13_easiest := fun w h => List.mem_cons_of_mem _ (List.mem_append_left _ (List.mem_append_right _ h))
  have hS : va_S A s.heap s.heap [] := va_S.rf
  have hl := lv_entry ([.ref (ad a0), .int x1, .int x2]) (n := 7) (Nat.le_of_ble_eq_true rfl)
  rw [lg_entry_eq]
  generalize (lg_sl ([.ref (ad a0), .int x1, .int x2]) ++ List.replicate (7 - (lg_sl ([.ref (ad a0), .int x1, .int x2])).length) Slot.unset).toArray = ls at hl ⊢
  have hl : lv_has ls 7 [(0, .ref (ad a0)), (1, .int x1), (2, .int x2)] := hl
  unfold f_X13_easiest at h
  refine lv_aload_n hx hb dX13_easiest_0 rfl (lv_at hl 0 rfl) ?_
  refine lv_iconst (v := 0) hx hb dX13_easiest_1 rfl ?_
  refine r_putI (T := TX13) (ty := .int) (v := 0) hx hb hts in13 tyX13 tyX13_ok nmX13 hown hK hP hD hT hS k0 (by decide) rfl 0 (by decide) (hts (.fieldLink RX13 30 "StoneWalkModel" "thrown" "I") (List.mem_of_getElem? (i := 1) (by decide +kernel))) rfl rfl (tyX13_ok 0 (by decide)) rfl rfl rfl dX13_easiest_2 (fun H locs hP hD hT hS => ?_)
  generalize pI M a0 0 0 = Mg1 at h hP hD hT ⊢
  refine lv_aload_n hx hb dX13_easiest_5 rfl (lv_at hl 0 rfl) ?_
  refine lv_iload_n hx hb dX13_easiest_6 rfl (lv_at hl 1 rfl) ?_
  obtain ⟨z1, h1, h⟩ := ob_some h
  refine k_z (va_runV (As := [.int x1]) (rest := []) ⟨hx, hb, hml, hown, hts⟩ (c_X13_isStatue (l := l) Mg1 a0 x1 k0 h1) (cwV 1 hts gX13_easiest_X13_isStatue rfl rfl rfl hdV_X13_isStatue ⟨Nat.le_of_ble_eq_true rfl, Nat.le_of_ble_eq_true rfl⟩) (pV (T := TX13) hP hK hD hT hG hS k0 (by decide) rfl) rfl rfl hl.1 rfl (lv_room (Nat.le_of_ble_eq_true rfl)) dX13_easiest_7 ⟨Nat.zero_le _, Nat.zero_le _⟩) hS (fun H locs hz1 hP hD hT hS => ?_)
  refine lv_if_eq (tgt := 21) hx hb dX13_easiest_10 rfl (fun c2 => ?_) (fun c2 => ?_)
  · replace h := ite_t c2 h
    refine lv_aload_n hx hb dX13_easiest_21 rfl (lv_at hl 0 rfl) ?_
    refine lv_iconst (v := 1) hx hb dX13_easiest_22 rfl ?_
    obtain ⟨z3, h3, h⟩ := ob_some h
    refine k_i (va_runV (As := [.int 1]) (rest := []) ⟨hx, hb, hml, hown, hts⟩ (c_X13_refused (l := l) Mg1 a0 1 k0 h3) (cwV 1 hts gX13_easiest_X13_refused rfl rfl rfl hdV_X13_refused ⟨Nat.le_of_ble_eq_true rfl, Nat.le_of_ble_eq_true rfl⟩) (pV (T := TX13) hP hK hD hT hG hS k0 (by decide) rfl) rfl rfl hl.1 rfl (lv_room (Nat.le_of_ble_eq_true rfl)) dX13_easiest_23 ⟨Nat.zero_le _, Nat.zero_le _⟩) hS (fun H locs hP hD hT hS => ?_)
    have hZ := Option.some.inj h
    have hZ1 := congrArg Prod.fst hZ
    have hZ2 := congrArg Prod.snd hZ
    exact r_iret hx hb hr hlocks hP hK hD hT hG hS hZ1 hZ2 dX13_easiest_26
  · replace h := ite_f c2 h
    refine lv_aload_n hx hb dX13_easiest_13 rfl (lv_at hl 0 rfl) ?_
    refine lv_iload_n hx hb dX13_easiest_14 rfl (lv_at hl 2 rfl) ?_
    obtain ⟨z4, h4, h⟩ := ob_some h
    refine k_z (va_runV (As := [.int x2]) (rest := []) ⟨hx, hb, hml, hown, hts⟩ (c_X13_isRoad (l := l) Mg1 a0 x2 k0 h4) (cwV 1 hts gX13_easiest_X13_isRoad rfl rfl rfl hdV_X13_isRoad ⟨Nat.le_of_ble_eq_true rfl, Nat.le_of_ble_eq_true rfl⟩) (pV (T := TX13) hP hK hD hT hG hS k0 (by decide) rfl) rfl rfl hl.1 rfl (lv_room (Nat.le_of_ble_eq_true rfl)) dX13_easiest_15 ⟨Nat.zero_le _, Nat.zero_le _⟩) hS (fun H locs hz4 hP hD hT hS => ?_)
    refine lv_if_ne (tgt := 27) hx hb dX13_easiest_18 rfl (fun c5 => ?_) (fun c5 => ?_)
    · replace h := ite_f c5 h
      refine lv_bipush (v := (-2)) hx hb dX13_easiest_27 rfl ?_
      refine lv_istore_n (lv' := [(3, .int (-2)), (0, .ref (ad a0)), (1, .int x1), (2, .int x2)]) hx hb dX13_easiest_29 rfl hl (by decide) rfl (fun ls hl => ?_)
      refine lv_iconst (v := 0) hx hb dX13_easiest_30 rfl ?_
      refine lv_istore (lv' := [(4, .int 0), (3, .int (-2)), (0, .ref (ad a0)), (1, .int x1), (2, .int x2)]) hx hb dX13_easiest_31 hl (by decide) rfl (fun ls hl => ?_)
      refine lv_iconst (v := 0) hx hb dX13_easiest_33 rfl ?_
      refine lv_istore (lv' := [(5, .int 0), (4, .int 0), (3, .int (-2)), (0, .ref (ad a0)), (1, .int x1), (2, .int x2)]) hx hb dX13_easiest_34 hl (by decide) rfl (fun ls hl => ?_)
      have L6 : ∀ n6 : Nat, ∀ (M6 : MM) (y6_0 : Nat) (y6_1 : Int32) (y6_2 : Int32) (y6_3 : Int32) (y6_4 : Int32) (y6_5 : Int32) (ky6_0 : ok g y6_0 13 0) (H : Heap) (locs : List Loc), f_X13_easiest_L36 n6 M6 y6_0 y6_1 y6_2 y6_3 y6_4 y6_5 = some Z → va_P D vwCl (wd ad cy g M6) H → va_D A (wd ad cy g M6) → WT g M6 → va_S A s.heap H locs → ∀ (ls : Array Slot), lv_has ls 7 [(0, .ref (ad y6_0)), (1, .int y6_1), (2, .int y6_2), (3, .int y6_3), (4, .int y6_4), (5, .int y6_5)] → W p l e ((headSpec wsX13_easiest ({ frames := 4, cells := 0, slots := 0, locals := 96 })).room) s m (([.ref (ad a0), .int x1, .int x2] : List Value).toArray) below meth c H locs 0 0 (MQ below (va_Qi (fun r u => r = Z.1 ∧ u = Z.2) (Wd D ad cy A g q) A) ([.ref (ad a0), .int x1, .int x2]).toArray s 0 0 A) (F0 m 36 ls []) := by
        intro n6
        induction n6 with
        | zero => intro M6 y6_0 y6_1 y6_2 y6_3 y6_4 y6_5 ky6_0 H locs h; exact absurd h (by simp [f_X13_easiest_L36])
        | succ n6 ih6 =>
          intro M6 y6_0 y6_1 y6_2 y6_3 y6_4 y6_5 ky6_0 H locs h hP hD hT hS ls hl
          rw [f_X13_easiest_L36] at h
          refine lv_iload hx hb dX13_easiest_36 (lv_at hl 5 rfl) ?_
          refine lv_aload_n hx hb dX13_easiest_38 rfl (lv_at hl 0 rfl) ?_
          rcases hN7 : gR M6 y6_0 3 with _ | b7
          · replace h := oc_n hN7 h
            refine r_get (T := TX13) (v := .null) hx hb hts in13 hown hK hP ky6_0 (by decide) rfl 3 (by decide) (hts (.fieldLink RX13 431 "StoneWalkModel" "island" "LStoneWalkModel$Island;") (List.mem_of_getElem? (i := 2) (by decide +kernel))) rfl (t := 2) rfl (by show va_rf _ = _; rw [hN7]; rfl) dX13_easiest_39 ?_
            exact absurd h (by simp)
          · replace h := oc_s hN7 h
            have kb7 := hT.f ky6_0 (k := 3) (t := 12) (n := 0) rfl hN7
            refine r_get (T := TX13) (v := .ref (ad b7)) hx hb hts in13 hown hK hP ky6_0 (by decide) rfl 3 (by decide) (hts (.fieldLink RX13 431 "StoneWalkModel" "island" "LStoneWalkModel$Island;") (List.mem_of_getElem? (i := 2) (by decide +kernel))) rfl (t := 2) rfl (by show va_rf _ = _; rw [hN7]; rfl) dX13_easiest_39 ?_
            refine r_getN (T := TX12) (v := .int (gI M6 b7 0)) hx hb hts in12 hown hK hP kb7 (by decide) rfl 0 (by decide) (hG.2.2.1 ("StoneWalkModel", 185, "StoneWalkModel$Island", "ways", "I", "StoneWalkModel") (List.mem_of_getElem? (i := 5) rfl)) rfl (t := 0) rfl rfl dX13_easiest_42 ?_
            refine lv_icmp_ge (tgt := 93) hx hb dX13_easiest_45 rfl (fun c8 => ?_) (fun c8 => ?_)
            · replace h := ite_t c8 h
              refine lv_aload_n hx hb dX13_easiest_93 rfl (lv_at hl 0 rfl) ?_
              refine lv_iload_n hx hb dX13_easiest_94 rfl (lv_at hl 3 rfl) ?_
              obtain ⟨z9, h9, h⟩ := ob_some h
              refine k_i (va_runV (As := [.int y6_3]) (rest := []) ⟨hx, hb, hml, hown, hts⟩ (c_X13_done (l := l) M6 y6_0 y6_3 ky6_0 h9) (cwV 1 hts gX13_easiest_X13_done rfl rfl rfl hdV_X13_done ⟨Nat.le_of_ble_eq_true rfl, Nat.le_of_ble_eq_true rfl⟩) (pV (T := TX13) hP hK hD hT hG hS ky6_0 (by decide) rfl) rfl rfl hl.1 rfl (lv_room (Nat.le_of_ble_eq_true rfl)) dX13_easiest_95 ⟨Nat.zero_le _, Nat.zero_le _⟩) hS (fun H locs hP hD hT hS => ?_)
              have hZ := Option.some.inj h
              have hZ1 := congrArg Prod.fst hZ
              have hZ2 := congrArg Prod.snd hZ
              exact r_iret hx hb hr hlocks hP hK hD hT hG hS hZ1 hZ2 dX13_easiest_98
            · replace h := ite_f c8 h
              refine lv_aload_n hx hb dX13_easiest_48 rfl (lv_at hl 0 rfl) ?_
              refine lv_iload hx hb dX13_easiest_49 (lv_at hl 5 rfl) ?_
              refine lv_iload_n hx hb dX13_easiest_51 rfl (lv_at hl 1 rfl) ?_
              refine lv_iload_n hx hb dX13_easiest_52 rfl (lv_at hl 2 rfl) ?_
              obtain ⟨z10, h10, h⟩ := ob_some h
              refine k_i (va_runV (As := [.int y6_5, .int y6_1, .int y6_2]) (rest := []) ⟨hx, hb, hml, hown, hts⟩ (c_X13_needAlong (l := l) M6 y6_0 y6_5 y6_1 y6_2 ky6_0 h10) (cwV 3 hts gX13_easiest_X13_needAlong rfl rfl rfl hdV_X13_needAlong ⟨Nat.le_of_ble_eq_true rfl, Nat.le_of_ble_eq_true rfl⟩) (pV (T := TX13) hP hK hD hT hG hS ky6_0 (by decide) rfl) rfl rfl hl.1 rfl (lv_room (Nat.le_of_ble_eq_true rfl)) dX13_easiest_53 ⟨Nat.zero_le _, Nat.zero_le _⟩) hS (fun H locs hP hD hT hS => ?_)
              refine lv_istore (lv' := [(6, .int z10), (0, .ref (ad y6_0)), (1, .int y6_1), (2, .int y6_2), (3, .int y6_3), (4, .int y6_4), (5, .int y6_5)]) hx hb dX13_easiest_56 hl (by decide) rfl (fun ls hl => ?_)
              refine lv_iload hx hb dX13_easiest_58 (lv_at hl 0 rfl) ?_
              refine lv_iconst (v := (-1)) hx hb dX13_easiest_60 rfl ?_
              refine lv_icmp_eq (tgt := 87) hx hb dX13_easiest_61 rfl (fun c11 => ?_) (fun c11 => ?_)
              · replace h := ite_t c11 h
                refine lv_iinc (v := y6_5 + 1) (lv' := [(5, .int (y6_5 + 1)), (6, .int z10), (0, .ref (ad y6_0)), (1, .int y6_1), (2, .int y6_2), (3, .int y6_3), (4, .int y6_4)]) hx hb dX13_easiest_87 hl (k := 6) rfl rfl (by decide) rfl (fun ls hl => ?_)
                refine lv_goto (tgt := 36) hx hb dX13_easiest_90 rfl ?_
                exact ih6 M6 y6_0 y6_1 y6_2 y6_3 y6_4 (y6_5 + 1) ky6_0 _ _ h hP hD hT hS ls (lv_sub hl [2, 3, 4, 5, 6, 0] rfl)
              · replace h := ite_f c11 h
                refine lv_iload_n hx hb dX13_easiest_64 rfl (lv_at hl 4 rfl) ?_
                refine lv_bipush (v := (-2)) hx hb dX13_easiest_65 rfl ?_
                refine lv_icmp_eq (tgt := 80) hx hb dX13_easiest_67 rfl (fun c12 => ?_) (fun c12 => ?_)
                · replace h := ite_t c12 h
                  refine lv_iload hx hb dX13_easiest_80 (lv_at hl 0 rfl) ?_
                  refine lv_istore (lv' := [(4, .int z10), (6, .int z10), (0, .ref (ad y6_0)), (1, .int y6_1), (2, .int y6_2), (3, .int y6_3), (5, .int y6_5)]) hx hb dX13_easiest_82 hl (by decide) rfl (fun ls hl => ?_)
                  refine lv_iload hx hb dX13_easiest_84 (lv_at hl 6 rfl) ?_
                  refine lv_istore_n (lv' := [(3, .int y6_5), (4, .int z10), (6, .int z10), (0, .ref (ad y6_0)), (1, .int y6_1), (2, .int y6_2), (5, .int y6_5)]) hx hb dX13_easiest_86 rfl hl (by decide) rfl (fun ls hl => ?_)
                  refine lv_iinc (v := y6_5 + 1) (lv' := [(5, .int (y6_5 + 1)), (3, .int y6_5), (4, .int z10), (6, .int z10), (0, .ref (ad y6_0)), (1, .int y6_1), (2, .int y6_2)]) hx hb dX13_easiest_87 hl (k := 6) rfl rfl (by decide) rfl (fun ls hl => ?_)
                  refine lv_goto (tgt := 36) hx hb dX13_easiest_90 rfl ?_
                  exact ih6 M6 y6_0 y6_1 y6_2 y6_5 z10 (y6_5 + 1) ky6_0 _ _ h hP hD hT hS ls (lv_sub hl [4, 5, 6, 1, 2, 0] rfl)
                · replace h := ite_f c12 h
                  refine lv_iload hx hb dX13_easiest_70 (lv_at hl 0 rfl) ?_
                  refine lv_iload hx hb dX13_easiest_72 (lv_at hl 5 rfl) ?_
                  refine lv_icmp_lt (tgt := 80) hx hb dX13_easiest_74 rfl (fun c13 => ?_) (fun c13 => ?_)
                  · replace h := ite_t c13 h
                    refine lv_iload hx hb dX13_easiest_80 (lv_at hl 0 rfl) ?_
                    refine lv_istore (lv' := [(4, .int z10), (6, .int z10), (0, .ref (ad y6_0)), (1, .int y6_1), (2, .int y6_2), (3, .int y6_3), (5, .int y6_5)]) hx hb dX13_easiest_82 hl (by decide) rfl (fun ls hl => ?_)
                    refine lv_iload hx hb dX13_easiest_84 (lv_at hl 6 rfl) ?_
                    refine lv_istore_n (lv' := [(3, .int y6_5), (4, .int z10), (6, .int z10), (0, .ref (ad y6_0)), (1, .int y6_1), (2, .int y6_2), (5, .int y6_5)]) hx hb dX13_easiest_86 rfl hl (by decide) rfl (fun ls hl => ?_)
                    refine lv_iinc (v := y6_5 + 1) (lv' := [(5, .int (y6_5 + 1)), (3, .int y6_5), (4, .int z10), (6, .int z10), (0, .ref (ad y6_0)), (1, .int y6_1), (2, .int y6_2)]) hx hb dX13_easiest_87 hl (k := 6) rfl rfl (by decide) rfl (fun ls hl => ?_)
                    refine lv_goto (tgt := 36) hx hb dX13_easiest_90 rfl ?_
                    exact ih6 M6 y6_0 y6_1 y6_2 y6_5 z10 (y6_5 + 1) ky6_0 _ _ h hP hD hT hS ls (lv_sub hl [4, 5, 6, 1, 2, 0] rfl)
                  · replace h := ite_f c13 h
                    refine lv_goto (tgt := 87) hx hb dX13_easiest_77 rfl ?_
                    refine lv_iinc (v := y6_5 + 1) (lv' := [(5, .int (y6_5 + 1)), (6, .int z10), (0, .ref (ad y6_0)), (1, .int y6_1), (2, .int y6_2), (3, .int y6_3), (4, .int y6_4)]) hx hb dX13_easiest_87 hl (k := 6) rfl rfl (by decide) rfl (fun ls hl => ?_)
                    refine lv_goto (tgt := 36) hx hb dX13_easiest_90 rfl ?_
                    exact ih6 M6 y6_0 y6_1 y6_2 y6_3 y6_4 (y6_5 + 1) ky6_0 _ _ h hP hD hT hS ls (lv_sub hl [2, 3, 4, 5, 6, 0] rfl)
      exact L6 FU Mg1 a0 x1 x2 (-2) 0 0 k0 _ _ h hP hD hT hS ls (lv_sub hl [3, 4, 5, 2, 1, 0] rfl)
    · replace h := ite_t c5 h
      refine lv_aload_n hx hb dX13_easiest_21 rfl (lv_at hl 0 rfl) ?_
      refine lv_iconst (v := 1) hx hb dX13_easiest_22 rfl ?_
      obtain ⟨z14, h14, h⟩ := ob_some h
      refine k_i (va_runV (As := [.int 1]) (rest := []) ⟨hx, hb, hml, hown, hts⟩ (c_X13_refused (l := l) Mg1 a0 1 k0 h14) (cwV 1 hts gX13_easiest_X13_refused rfl rfl rfl hdV_X13_refused ⟨Nat.le_of_ble_eq_true rfl, Nat.le_of_ble_eq_true rfl⟩) (pV (T := TX13) hP hK hD hT hG hS k0 (by decide) rfl) rfl rfl hl.1 rfl (lv_room (Nat.le_of_ble_eq_true rfl)) dX13_easiest_23 ⟨Nat.zero_le _, Nat.zero_le _⟩) hS (fun H locs hP hD hT hS => ?_)
      have hZ := Option.some.inj h
      have hZ1 := congrArg Prod.fst hZ
      have hZ2 := congrArg Prod.snd hZ
      exact r_iret hx hb hr hlocks hP hK hD hT hG hS hZ1 hZ2 dX13_easiest_26
set_option maxHeartbeats 4000000 in
set_option maxRecDepth 100000 in
theorem c_X13_seed {l : Launch} {D : va_G} {ad : Nat → Nat} {cy : Nat → ClassId} {A : Nat → Prop} {g : CG} {q : SE} (M : MM) (a0 : Nat) (x1 : Int32) (k0 : ok g a0 13 0) {Z : (Int32 × MM)} (h : f_X13_seed M a0 x1 = some Z) : Met l yX13_seed wsX13_seed ({ frames := 2, cells := 0, slots := 0, locals := 42 }) (va_Pc [.ref (ad a0), .int x1] (Wd D ad cy A g q M)) (va_Qi (fun r u => r = Z.1 ∧ u = Z.2 ∧ zb r) (Wd D ad cy A g q) A) 0 0 A := by
  refine Met.ofW (cc := cX13_seed) (maxL := 2) (ret := (some .boolean)) (by decide) rfl ?_
  intro p e s m args below meth c s₁ B hml hv
  obtain ⟨rfl, hP, hK, hD, hT, hG⟩ := hv
  have hx := B.exec
  have hb := B.bytes
  have hr := B.returns
  have hts := atoms_spec (ws := wsX13_seed) B.pre
  have hown : s.vm.findClass RX13 = some m.cls := findClass_of_methodNamed B.named
  have hlocks := B.notSynchronized
  have in13 : ∀ w ∈ u_ws RX13 TX13 29, w ∈ wsX13_seed := fun w h => List.mem_cons_of_mem _ (List.mem_append_right _ h)
  have hS : va_S A s.heap s.heap [] := va_S.rf
  have hl := lv_entry ([.ref (ad a0), .int x1]) (n := 2) (Nat.le_of_ble_eq_true rfl)
  rw [lg_entry_eq]
  generalize (lg_sl ([.ref (ad a0), .int x1]) ++ List.replicate (2 - (lg_sl ([.ref (ad a0), .int x1])).length) Slot.unset).toArray = ls at hl ⊢
  have hl : lv_has ls 2 [(0, .ref (ad a0)), (1, .int x1)] := hl
  unfold f_X13_seed at h
  refine lv_aload_n hx hb dX13_seed_0 rfl (lv_at hl 0 rfl) ?_
  refine lv_iconst (v := 0) hx hb dX13_seed_1 rfl ?_
  refine r_putI (T := TX13) (ty := .int) (v := 0) hx hb hts in13 tyX13 tyX13_ok nmX13 hown hK hP hD hT hS k0 (by decide) rfl 0 (by decide) (hts (.fieldLink RX13 30 "StoneWalkModel" "thrown" "I") (List.mem_of_getElem? (i := 1) (by decide +kernel))) rfl rfl (tyX13_ok 0 (by decide)) rfl rfl rfl dX13_seed_2 (fun H locs hP hD hT hS => ?_)
  generalize pI M a0 0 0 = Mg1 at h hP hD hT ⊢
  refine lv_aload_n hx hb dX13_seed_5 rfl (lv_at hl 0 rfl) ?_
  rcases hN1 : gR Mg1 a0 3 with _ | b1
  · replace h := oc_n hN1 h
    refine r_get (T := TX13) (v := .null) hx hb hts in13 hown hK hP k0 (by decide) rfl 3 (by decide) (hts (.fieldLink RX13 431 "StoneWalkModel" "island" "LStoneWalkModel$Island;") (List.mem_of_getElem? (i := 2) (by decide +kernel))) rfl (t := 2) rfl (by show va_rf _ = _; rw [hN1]; rfl) dX13_seed_6 ?_
    refine lv_ifnonnullN hx hb dX13_seed_9 ?_
    refine lv_aload_n hx hb dX13_seed_12 rfl (lv_at hl 0 rfl) ?_
    refine lv_iconst (v := 1) hx hb dX13_seed_13 rfl ?_
    obtain ⟨z2, h2, h⟩ := ob_some h
    refine k_z (va_runV (As := [.int 1]) (rest := []) ⟨hx, hb, hml, hown, hts⟩ (c_X13_denied (l := l) Mg1 a0 1 k0 h2) (cwV 1 hts gX13_seed_X13_denied rfl rfl rfl hdV_X13_denied ⟨Nat.le_of_ble_eq_true rfl, Nat.le_of_ble_eq_true rfl⟩) (pV (T := TX13) hP hK hD hT hG hS k0 (by decide) rfl) rfl rfl hl.1 rfl (lv_room (Nat.le_of_ble_eq_true rfl)) dX13_seed_14 ⟨Nat.zero_le _, Nat.zero_le _⟩) hS (fun H locs hz2 hP hD hT hS => ?_)
    have hZ := Option.some.inj h
    have hZ1 := congrArg Prod.fst hZ
    have hZ2 := congrArg Prod.snd hZ
    exact r_zret hx hb hr hlocks hP hK hD hT hG hS hz2 hZ1 hZ2 dX13_seed_17
  · replace h := oc_s hN1 h
    have kb1 := hT.f k0 (k := 3) (t := 12) (n := 0) rfl hN1
    refine r_get (T := TX13) (v := .ref (ad b1)) hx hb hts in13 hown hK hP k0 (by decide) rfl 3 (by decide) (hts (.fieldLink RX13 431 "StoneWalkModel" "island" "LStoneWalkModel$Island;") (List.mem_of_getElem? (i := 2) (by decide +kernel))) rfl (t := 2) rfl (by show va_rf _ = _; rw [hN1]; rfl) dX13_seed_6 ?_
    refine lv_ifnonnull (tgt := 18) hx hb dX13_seed_9 rfl ?_
    refine lv_iload_n hx hb dX13_seed_18 rfl (lv_at hl 1 rfl) ?_
    refine lv_iconst (v := 0) hx hb dX13_seed_19 rfl ?_
    refine lv_ldcw hx hb hown (hts (.constant RX13 486 (65536)) (List.mem_of_getElem? (i := 3) (by decide +kernel))) dX13_seed_20 ?_
    obtain ⟨z3, h3, h⟩ := ob_some h
    refine k_z (va_runS (As := [.int x1, .int 0, .int 65536]) (rest := []) ⟨hx, hb, hml, hown, hts⟩ (c_X13_in (l := l) Mg1 x1 0 65536 h3) (va_cwS 3 hts gX13_seed_X13_in rfl rfl rfl hdS_X13_in ⟨Nat.le_of_ble_eq_true rfl, Nat.le_of_ble_eq_true rfl⟩) (pS hP hK hD hT hG hS) rfl rfl hl.1 rfl (lv_room (Nat.le_of_ble_eq_true rfl)) dX13_seed_23 ⟨Nat.zero_le _, Nat.zero_le _⟩) hS (fun H locs hz3 hP hD hT hS => ?_)
    refine lv_if_ne (tgt := 35) hx hb dX13_seed_26 rfl (fun c4 => ?_) (fun c4 => ?_)
    · replace h := ite_f c4 h
      refine lv_aload_n hx hb dX13_seed_35 rfl (lv_at hl 0 rfl) ?_
      refine lv_iload_n hx hb dX13_seed_36 rfl (lv_at hl 1 rfl) ?_
      refine r_putI (T := TX13) (ty := .int) (v := x1) hx hb hts in13 tyX13 tyX13_ok nmX13 hown hK hP hD hT hS k0 (by decide) rfl 16 (by decide) (hts (.fieldLink RX13 437 "StoneWalkModel" "seed" "I") (List.mem_of_getElem? (i := 4) (by decide +kernel))) rfl rfl (tyX13_ok 16 (by decide)) rfl rfl rfl dX13_seed_37 (fun H locs hP hD hT hS => ?_)
      generalize pI Mg1 a0 16 x1 = Mg2 at h hP hD hT ⊢
      refine lv_aload_n hx hb dX13_seed_40 rfl (lv_at hl 0 rfl) ?_
      obtain ⟨z5, h5, h⟩ := ob_some h
      refine k_z (va_runV (As := []) (rest := []) ⟨hx, hb, hml, hown, hts⟩ (c_X13_granted (l := l) Mg2 a0 k0 h5) (cwV 0 hts gX13_seed_X13_granted rfl rfl rfl hdV_X13_granted ⟨Nat.le_of_ble_eq_true rfl, Nat.le_of_ble_eq_true rfl⟩) (pV (T := TX13) hP hK hD hT hG hS k0 (by decide) rfl) rfl rfl hl.1 rfl (lv_room (Nat.le_of_ble_eq_true rfl)) dX13_seed_41 ⟨Nat.zero_le _, Nat.zero_le _⟩) hS (fun H locs hz5 hP hD hT hS => ?_)
      have hZ := Option.some.inj h
      have hZ1 := congrArg Prod.fst hZ
      have hZ2 := congrArg Prod.snd hZ
      exact r_zret hx hb hr hlocks hP hK hD hT hG hS hz5 hZ1 hZ2 dX13_seed_44
    · replace h := ite_t c4 h
      refine lv_aload_n hx hb dX13_seed_29 rfl (lv_at hl 0 rfl) ?_
      refine lv_iconst (v := 2) hx hb dX13_seed_30 rfl ?_
      obtain ⟨z6, h6, h⟩ := ob_some h
      refine k_z (va_runV (As := [.int 2]) (rest := []) ⟨hx, hb, hml, hown, hts⟩ (c_X13_denied (l := l) Mg1 a0 2 k0 h6) (cwV 1 hts gX13_seed_X13_denied rfl rfl rfl hdV_X13_denied ⟨Nat.le_of_ble_eq_true rfl, Nat.le_of_ble_eq_true rfl⟩) (pV (T := TX13) hP hK hD hT hG hS k0 (by decide) rfl) rfl rfl hl.1 rfl (lv_room (Nat.le_of_ble_eq_true rfl)) dX13_seed_31 ⟨Nat.zero_le _, Nat.zero_le _⟩) hS (fun H locs hz6 hP hD hT hS => ?_)
      have hZ := Option.some.inj h
      have hZ1 := congrArg Prod.fst hZ
      have hZ2 := congrArg Prod.snd hZ
      exact r_zret hx hb hr hlocks hP hK hD hT hG hS hz6 hZ1 hZ2 dX13_seed_34
set_option maxHeartbeats 4000000 in
set_option maxRecDepth 100000 in
theorem c_X13_startsAnew {l : Launch} {D : va_G} {ad : Nat → Nat} {cy : Nat → ClassId} {A : Nat → Prop} {g : CG} {q : SE} (M : MM) (a0 : Nat) (k0 : ok g a0 13 0) {Z : MM} (h : f_X13_startsAnew M a0 = some Z) : Met l yX13_startsAnew wsX13_startsAnew ({ frames := 0, cells := 0, slots := 0, locals := 0 }) (va_Pc [.ref (ad a0)] (Wd D ad cy A g q M)) (va_Qv (fun u => u = Z) (Wd D ad cy A g q) A) 0 0 A := by
  refine Met.ofW (cc := cX13_startsAnew) (maxL := 1) (ret := none) (by decide) rfl ?_
  intro p e s m args below meth c s₁ B hml hv
  obtain ⟨rfl, hP, hK, hD, hT, hG⟩ := hv
  have hx := B.exec
  have hb := B.bytes
  have hr := B.returns
  have hts := atoms_spec (ws := wsX13_startsAnew) B.pre
  have hown : s.vm.findClass RX13 = some m.cls := findClass_of_methodNamed B.named
  have hlocks := B.notSynchronized
  have in13 : ∀ w ∈ u_ws RX13 TX13 29, w ∈ wsX13_startsAnew := fun w h => List.mem_cons_of_mem _ (List.mem_append_right _ h)
  have hS : va_S A s.heap s.heap [] := va_S.rf
  have hl := lv_entry ([.ref (ad a0)]) (n := 1) (Nat.le_of_ble_eq_true rfl)
  rw [lg_entry_eq]
  generalize (lg_sl ([.ref (ad a0)]) ++ List.replicate (1 - (lg_sl ([.ref (ad a0)])).length) Slot.unset).toArray = ls at hl ⊢
  have hl : lv_has ls 1 [(0, .ref (ad a0))] := hl
  unfold f_X13_startsAnew at h
  refine lv_aload_n hx hb dX13_startsAnew_0 rfl (lv_at hl 0 rfl) ?_
  refine lv_iconst (v := 1) hx hb dX13_startsAnew_1 rfl ?_
  refine r_putI (T := TX13) (ty := .int) (v := 1) hx hb hts in13 tyX13 tyX13_ok nmX13 hown hK hP hD hT hS k0 (by decide) rfl 21 (by decide) (hts (.fieldLink RX13 500 "StoneWalkModel" "told" "I") (List.mem_of_getElem? (i := 1) (by decide +kernel))) rfl rfl (tyX13_ok 21 (by decide)) rfl rfl rfl dX13_startsAnew_2 (fun H locs hP hD hT hS => ?_)
  generalize pI M a0 21 1 = Mg1 at h hP hD hT ⊢
  refine lv_aload_n hx hb dX13_startsAnew_5 rfl (lv_at hl 0 rfl) ?_
  refine lv_iconst (v := 0) hx hb dX13_startsAnew_6 rfl ?_
  refine r_putI (T := TX13) (ty := .int) (v := 0) hx hb hts in13 tyX13 tyX13_ok nmX13 hown hK hP hD hT hS k0 (by decide) rfl 22 (by decide) (hts (.fieldLink RX13 503 "StoneWalkModel" "slopesGone" "I") (List.mem_of_getElem? (i := 2) (by decide +kernel))) rfl rfl (tyX13_ok 22 (by decide)) rfl rfl rfl dX13_startsAnew_7 (fun H locs hP hD hT hS => ?_)
  generalize pI Mg1 a0 22 0 = Mg2 at h hP hD hT ⊢
  refine lv_aload_n hx hb dX13_startsAnew_10 rfl (lv_at hl 0 rfl) ?_
  refine lv_iconst (v := 0) hx hb dX13_startsAnew_11 rfl ?_
  refine r_putI (T := TX13) (ty := .int) (v := 0) hx hb hts in13 tyX13 tyX13_ok nmX13 hown hK hP hD hT hS k0 (by decide) rfl 23 (by decide) (hts (.fieldLink RX13 506 "StoneWalkModel" "minutesGone" "I") (List.mem_of_getElem? (i := 3) (by decide +kernel))) rfl rfl (tyX13_ok 23 (by decide)) rfl rfl rfl dX13_startsAnew_12 (fun H locs hP hD hT hS => ?_)
  generalize pI Mg2 a0 23 0 = Mg3 at h hP hD hT ⊢
  refine lv_aload_n hx hb dX13_startsAnew_15 rfl (lv_at hl 0 rfl) ?_
  refine lv_bipush (v := (-2)) hx hb dX13_startsAnew_16 rfl ?_
  refine r_putI (T := TX13) (ty := .int) (v := (-2)) hx hb hts in13 tyX13 tyX13_ok nmX13 hown hK hP hD hT hS k0 (by decide) rfl 24 (by decide) (hts (.fieldLink RX13 509 "StoneWalkModel" "liesNow" "I") (List.mem_of_getElem? (i := 4) (by decide +kernel))) rfl rfl (tyX13_ok 24 (by decide)) rfl rfl rfl dX13_startsAnew_18 (fun H locs hP hD hT hS => ?_)
  generalize pI Mg3 a0 24 (-2) = Mg4 at h hP hD hT ⊢
  exact r_vret hx hb hr hlocks hP hK hD hT hG hS (Option.some.inj h) dX13_startsAnew_21
set_option maxHeartbeats 4000000 in
set_option maxRecDepth 100000 in
theorem c_X13_move {l : Launch} {D : va_G} {ad : Nat → Nat} {cy : Nat → ClassId} {A : Nat → Prop} {g : CG} {q : SE} (M : MM) (a0 : Nat) (x1 : Int32) (x2 : Int32) (x3 : Int32) (x4 : Int32) (k0 : ok g a0 13 0) {Z : (Int32 × MM)} (h : f_X13_move M a0 x1 x2 x3 x4 = some Z) : Met l yX13_move wsX13_move ({ frames := 2, cells := 0, slots := 0, locals := 42 }) (va_Pc [.ref (ad a0), .int x1, .int x2, .int x3, .int x4] (Wd D ad cy A g q M)) (va_Qi (fun r u => r = Z.1 ∧ u = Z.2 ∧ zb r) (Wd D ad cy A g q) A) 0 0 A := by
  refine Met.ofW (cc := cX13_move) (maxL := 5) (ret := (some .boolean)) (by decide) rfl ?_
  intro p e s m args below meth c s₁ B hml hv
  obtain ⟨rfl, hP, hK, hD, hT, hG⟩ := hv
  have hx := B.exec
  have hb := B.bytes
  have hr := B.returns
  have hts := atoms_spec (ws := wsX13_move) B.pre
  have hown : s.vm.findClass RX13 = some m.cls := findClass_of_methodNamed B.named
  have hlocks := B.notSynchronized
  have in13 : ∀ w ∈ u_ws RX13 TX13 29, w ∈ wsX13_move := fun w h => List.mem_cons_of_mem _ (List.mem_append_left _ (List.mem_append_right _ h))
  have hS : va_S A s.heap s.heap [] := va_S.rf
  have hl := lv_entry ([.ref (ad a0), .int x1, .int x2, .int x3, .int x4]) (n := 5) (Nat.le_of_ble_eq_true rfl)
  rw [lg_entry_eq]
  generalize (lg_sl ([.ref (ad a0), .int x1, .int x2, .int x3, .int x4]) ++ List.replicate (5 - (lg_sl ([.ref (ad a0), .int x1, .int x2, .int x3, .int x4])).length) Slot.unset).toArray = ls at hl ⊢
  have hl : lv_has ls 5 [(0, .ref (ad a0)), (1, .int x1), (2, .int x2), (3, .int x3), (4, .int x4)] := hl
  unfold f_X13_move at h
  refine lv_aload_n hx hb dX13_move_0 rfl (lv_at hl 0 rfl) ?_
  refine lv_iconst (v := 0) hx hb dX13_move_1 rfl ?_
  refine r_putI (T := TX13) (ty := .int) (v := 0) hx hb hts in13 tyX13 tyX13_ok nmX13 hown hK hP hD hT hS k0 (by decide) rfl 0 (by decide) (hts (.fieldLink RX13 30 "StoneWalkModel" "thrown" "I") (List.mem_of_getElem? (i := 1) (by decide +kernel))) rfl rfl (tyX13_ok 0 (by decide)) rfl rfl rfl dX13_move_2 (fun H locs hP hD hT hS => ?_)
  generalize pI M a0 0 0 = Mg1 at h hP hD hT ⊢
  refine lv_aload_n hx hb dX13_move_5 rfl (lv_at hl 0 rfl) ?_
  refine lv_iload_n hx hb dX13_move_6 rfl (lv_at hl 1 rfl) ?_
  obtain ⟨z1, h1, h⟩ := ob_some h
  refine k_z (va_runV (As := [.int x1]) (rest := []) ⟨hx, hb, hml, hown, hts⟩ (c_X13_isStatue (l := l) Mg1 a0 x1 k0 h1) (cwV 1 hts gX13_move_X13_isStatue rfl rfl rfl hdV_X13_isStatue ⟨Nat.le_of_ble_eq_true rfl, Nat.le_of_ble_eq_true rfl⟩) (pV (T := TX13) hP hK hD hT hG hS k0 (by decide) rfl) rfl rfl hl.1 rfl (lv_room (Nat.le_of_ble_eq_true rfl)) dX13_move_7 ⟨Nat.zero_le _, Nat.zero_le _⟩) hS (fun H locs hz1 hP hD hT hS => ?_)
  refine lv_if_eq (tgt := 29) hx hb dX13_move_10 rfl (fun c2 => ?_) (fun c2 => ?_)
  · replace h := ite_t c2 h
    refine lv_aload_n hx hb dX13_move_29 rfl (lv_at hl 0 rfl) ?_
    refine lv_iconst (v := 1) hx hb dX13_move_30 rfl ?_
    obtain ⟨z3, h3, h⟩ := ob_some h
    refine k_z (va_runV (As := [.int 1]) (rest := []) ⟨hx, hb, hml, hown, hts⟩ (c_X13_denied (l := l) Mg1 a0 1 k0 h3) (cwV 1 hts gX13_move_X13_denied rfl rfl rfl hdV_X13_denied ⟨Nat.le_of_ble_eq_true rfl, Nat.le_of_ble_eq_true rfl⟩) (pV (T := TX13) hP hK hD hT hG hS k0 (by decide) rfl) rfl rfl hl.1 rfl (lv_room (Nat.le_of_ble_eq_true rfl)) dX13_move_31 ⟨Nat.zero_le _, Nat.zero_le _⟩) hS (fun H locs hz3 hP hD hT hS => ?_)
    have hZ := Option.some.inj h
    have hZ1 := congrArg Prod.fst hZ
    have hZ2 := congrArg Prod.snd hZ
    exact r_zret hx hb hr hlocks hP hK hD hT hG hS hz3 hZ1 hZ2 dX13_move_34
  · replace h := ite_f c2 h
    refine lv_aload_n hx hb dX13_move_13 rfl (lv_at hl 0 rfl) ?_
    refine lv_iload_n hx hb dX13_move_14 rfl (lv_at hl 2 rfl) ?_
    obtain ⟨z4, h4, h⟩ := ob_some h
    refine k_z (va_runV (As := [.int x2]) (rest := []) ⟨hx, hb, hml, hown, hts⟩ (c_X13_isWay (l := l) Mg1 a0 x2 k0 h4) (cwV 1 hts gX13_move_X13_isWay rfl rfl rfl hdV_X13_isWay ⟨Nat.le_of_ble_eq_true rfl, Nat.le_of_ble_eq_true rfl⟩) (pV (T := TX13) hP hK hD hT hG hS k0 (by decide) rfl) rfl rfl hl.1 rfl (lv_room (Nat.le_of_ble_eq_true rfl)) dX13_move_15 ⟨Nat.zero_le _, Nat.zero_le _⟩) hS (fun H locs hz4 hP hD hT hS => ?_)
    refine lv_if_eq (tgt := 29) hx hb dX13_move_18 rfl (fun c5 => ?_) (fun c5 => ?_)
    · replace h := ite_t c5 h
      refine lv_aload_n hx hb dX13_move_29 rfl (lv_at hl 0 rfl) ?_
      refine lv_iconst (v := 1) hx hb dX13_move_30 rfl ?_
      obtain ⟨z6, h6, h⟩ := ob_some h
      refine k_z (va_runV (As := [.int 1]) (rest := []) ⟨hx, hb, hml, hown, hts⟩ (c_X13_denied (l := l) Mg1 a0 1 k0 h6) (cwV 1 hts gX13_move_X13_denied rfl rfl rfl hdV_X13_denied ⟨Nat.le_of_ble_eq_true rfl, Nat.le_of_ble_eq_true rfl⟩) (pV (T := TX13) hP hK hD hT hG hS k0 (by decide) rfl) rfl rfl hl.1 rfl (lv_room (Nat.le_of_ble_eq_true rfl)) dX13_move_31 ⟨Nat.zero_le _, Nat.zero_le _⟩) hS (fun H locs hz6 hP hD hT hS => ?_)
      have hZ := Option.some.inj h
      have hZ1 := congrArg Prod.fst hZ
      have hZ2 := congrArg Prod.snd hZ
      exact r_zret hx hb hr hlocks hP hK hD hT hG hS hz6 hZ1 hZ2 dX13_move_34
    · replace h := ite_f c5 h
      refine lv_aload_n hx hb dX13_move_21 rfl (lv_at hl 0 rfl) ?_
      refine lv_iload_n hx hb dX13_move_22 rfl (lv_at hl 3 rfl) ?_
      obtain ⟨z7, h7, h⟩ := ob_some h
      refine k_z (va_runV (As := [.int x3]) (rest := []) ⟨hx, hb, hml, hown, hts⟩ (c_X13_isRoad (l := l) Mg1 a0 x3 k0 h7) (cwV 1 hts gX13_move_X13_isRoad rfl rfl rfl hdV_X13_isRoad ⟨Nat.le_of_ble_eq_true rfl, Nat.le_of_ble_eq_true rfl⟩) (pV (T := TX13) hP hK hD hT hG hS k0 (by decide) rfl) rfl rfl hl.1 rfl (lv_room (Nat.le_of_ble_eq_true rfl)) dX13_move_23 ⟨Nat.zero_le _, Nat.zero_le _⟩) hS (fun H locs hz7 hP hD hT hS => ?_)
      refine lv_if_ne (tgt := 35) hx hb dX13_move_26 rfl (fun c8 => ?_) (fun c8 => ?_)
      · replace h := ite_f c8 h
        refine lv_iload hx hb dX13_move_35 (lv_at hl 4 rfl) ?_
        refine lv_iconst (v := 1) hx hb dX13_move_37 rfl ?_
        refine lv_sipush (v := 200) hx hb dX13_move_38 rfl ?_
        obtain ⟨z9, h9, h⟩ := ob_some h
        refine k_z (va_runS (As := [.int x4, .int 1, .int 200]) (rest := []) ⟨hx, hb, hml, hown, hts⟩ (c_X13_in (l := l) Mg1 x4 1 200 h9) (va_cwS 3 hts gX13_move_X13_in rfl rfl rfl hdS_X13_in ⟨Nat.le_of_ble_eq_true rfl, Nat.le_of_ble_eq_true rfl⟩) (pS hP hK hD hT hG hS) rfl rfl hl.1 rfl (lv_room (Nat.le_of_ble_eq_true rfl)) dX13_move_41 ⟨Nat.zero_le _, Nat.zero_le _⟩) hS (fun H locs hz9 hP hD hT hS => ?_)
        refine lv_if_ne (tgt := 53) hx hb dX13_move_44 rfl (fun c10 => ?_) (fun c10 => ?_)
        · replace h := ite_f c10 h
          refine lv_aload_n hx hb dX13_move_53 rfl (lv_at hl 0 rfl) ?_
          refine lv_iload_n hx hb dX13_move_54 rfl (lv_at hl 1 rfl) ?_
          refine r_putI (T := TX13) (ty := .int) (v := x1) hx hb hts in13 tyX13 tyX13_ok nmX13 hown hK hP hD hT hS k0 (by decide) rfl 17 (by decide) (hts (.fieldLink RX13 17 "StoneWalkModel" "moved" "I") (List.mem_of_getElem? (i := 2) (by decide +kernel))) rfl rfl (tyX13_ok 17 (by decide)) rfl rfl rfl dX13_move_55 (fun H locs hP hD hT hS => ?_)
          generalize pI Mg1 a0 17 x1 = Mg2 at h hP hD hT ⊢
          refine lv_aload_n hx hb dX13_move_58 rfl (lv_at hl 0 rfl) ?_
          refine lv_iload_n hx hb dX13_move_59 rfl (lv_at hl 2 rfl) ?_
          refine r_putI (T := TX13) (ty := .int) (v := x2) hx hb hts in13 tyX13 tyX13_ok nmX13 hown hK hP hD hT hS k0 (by decide) rfl 18 (by decide) (hts (.fieldLink RX13 490 "StoneWalkModel" "movedBy" "I") (List.mem_of_getElem? (i := 3) (by decide +kernel))) rfl rfl (tyX13_ok 18 (by decide)) rfl rfl rfl dX13_move_60 (fun H locs hP hD hT hS => ?_)
          generalize pI Mg2 a0 18 x2 = Mg3 at h hP hD hT ⊢
          refine lv_aload_n hx hb dX13_move_63 rfl (lv_at hl 0 rfl) ?_
          refine lv_iload_n hx hb dX13_move_64 rfl (lv_at hl 3 rfl) ?_
          refine r_putI (T := TX13) (ty := .int) (v := x3) hx hb hts in13 tyX13 tyX13_ok nmX13 hown hK hP hD hT hS k0 (by decide) rfl 19 (by decide) (hts (.fieldLink RX13 493 "StoneWalkModel" "movedOn" "I") (List.mem_of_getElem? (i := 4) (by decide +kernel))) rfl rfl (tyX13_ok 19 (by decide)) rfl rfl rfl dX13_move_65 (fun H locs hP hD hT hS => ?_)
          generalize pI Mg3 a0 19 x3 = Mg4 at h hP hD hT ⊢
          refine lv_aload_n hx hb dX13_move_68 rfl (lv_at hl 0 rfl) ?_
          refine lv_iload hx hb dX13_move_69 (lv_at hl 4 rfl) ?_
          refine r_putI (T := TX13) (ty := .int) (v := x4) hx hb hts in13 tyX13 tyX13_ok nmX13 hown hK hP hD hT hS k0 (by decide) rfl 20 (by decide) (hts (.fieldLink RX13 496 "StoneWalkModel" "people" "I") (List.mem_of_getElem? (i := 5) (by decide +kernel))) rfl rfl (tyX13_ok 20 (by decide)) rfl rfl rfl dX13_move_71 (fun H locs hP hD hT hS => ?_)
          generalize pI Mg4 a0 20 x4 = Mg5 at h hP hD hT ⊢
          refine lv_aload_n hx hb dX13_move_74 rfl (lv_at hl 0 rfl) ?_
          obtain ⟨z11, h11, h⟩ := ob_some h
          refine k_v (va_runV (As := []) (rest := []) ⟨hx, hb, hml, hown, hts⟩ (c_X13_startsAnew (l := l) Mg5 a0 k0 h11) (cwV 0 hts gX13_move_X13_startsAnew rfl rfl rfl hdV_X13_startsAnew ⟨Nat.le_of_ble_eq_true rfl, Nat.le_of_ble_eq_true rfl⟩) (pV (T := TX13) hP hK hD hT hG hS k0 (by decide) rfl) rfl rfl hl.1 rfl (lv_room (Nat.le_of_ble_eq_true rfl)) dX13_move_75 ⟨Nat.zero_le _, Nat.zero_le _⟩) hS (fun H locs hP hD hT hS => ?_)
          refine lv_aload_n hx hb dX13_move_78 rfl (lv_at hl 0 rfl) ?_
          obtain ⟨z12, h12, h⟩ := ob_some h
          refine k_z (va_runV (As := []) (rest := []) ⟨hx, hb, hml, hown, hts⟩ (c_X13_granted (l := l) z11 a0 k0 h12) (cwV 0 hts gX13_move_X13_granted rfl rfl rfl hdV_X13_granted ⟨Nat.le_of_ble_eq_true rfl, Nat.le_of_ble_eq_true rfl⟩) (pV (T := TX13) hP hK hD hT hG hS k0 (by decide) rfl) rfl rfl hl.1 rfl (lv_room (Nat.le_of_ble_eq_true rfl)) dX13_move_79 ⟨Nat.zero_le _, Nat.zero_le _⟩) hS (fun H locs hz12 hP hD hT hS => ?_)
          have hZ := Option.some.inj h
          have hZ1 := congrArg Prod.fst hZ
          have hZ2 := congrArg Prod.snd hZ
          exact r_zret hx hb hr hlocks hP hK hD hT hG hS hz12 hZ1 hZ2 dX13_move_82
        · replace h := ite_t c10 h
          refine lv_aload_n hx hb dX13_move_47 rfl (lv_at hl 0 rfl) ?_
          refine lv_iconst (v := 2) hx hb dX13_move_48 rfl ?_
          obtain ⟨z13, h13, h⟩ := ob_some h
          refine k_z (va_runV (As := [.int 2]) (rest := []) ⟨hx, hb, hml, hown, hts⟩ (c_X13_denied (l := l) Mg1 a0 2 k0 h13) (cwV 1 hts gX13_move_X13_denied rfl rfl rfl hdV_X13_denied ⟨Nat.le_of_ble_eq_true rfl, Nat.le_of_ble_eq_true rfl⟩) (pV (T := TX13) hP hK hD hT hG hS k0 (by decide) rfl) rfl rfl hl.1 rfl (lv_room (Nat.le_of_ble_eq_true rfl)) dX13_move_49 ⟨Nat.zero_le _, Nat.zero_le _⟩) hS (fun H locs hz13 hP hD hT hS => ?_)
          have hZ := Option.some.inj h
          have hZ1 := congrArg Prod.fst hZ
          have hZ2 := congrArg Prod.snd hZ
          exact r_zret hx hb hr hlocks hP hK hD hT hG hS hz13 hZ1 hZ2 dX13_move_52
      · replace h := ite_t c8 h
        refine lv_aload_n hx hb dX13_move_29 rfl (lv_at hl 0 rfl) ?_
        refine lv_iconst (v := 1) hx hb dX13_move_30 rfl ?_
        obtain ⟨z14, h14, h⟩ := ob_some h
        refine k_z (va_runV (As := [.int 1]) (rest := []) ⟨hx, hb, hml, hown, hts⟩ (c_X13_denied (l := l) Mg1 a0 1 k0 h14) (cwV 1 hts gX13_move_X13_denied rfl rfl rfl hdV_X13_denied ⟨Nat.le_of_ble_eq_true rfl, Nat.le_of_ble_eq_true rfl⟩) (pV (T := TX13) hP hK hD hT hG hS k0 (by decide) rfl) rfl rfl hl.1 rfl (lv_room (Nat.le_of_ble_eq_true rfl)) dX13_move_31 ⟨Nat.zero_le _, Nat.zero_le _⟩) hS (fun H locs hz14 hP hD hT hS => ?_)
        have hZ := Option.some.inj h
        have hZ1 := congrArg Prod.fst hZ
        have hZ2 := congrArg Prod.snd hZ
        exact r_zret hx hb hr hlocks hP hK hD hT hG hS hz14 hZ1 hZ2 dX13_move_34
set_option maxHeartbeats 4000000 in
set_option maxRecDepth 100000 in
theorem c_X13_drawn {l : Launch} {D : va_G} {ad : Nat → Nat} {cy : Nat → ClassId} {A : Nat → Prop} {g : CG} {q : SE} (M : MM) (a0 : Nat) (x1 : Int32) (k0 : ok g a0 13 0) {Z : (Int32 × MM)} (h : f_X13_drawn M a0 x1 = some Z) : Met l yX13_drawn wsX13_drawn ({ frames := 0, cells := 0, slots := 0, locals := 0 }) (va_Pc [.ref (ad a0), .int x1] (Wd D ad cy A g q M)) (va_Qi (fun r u => r = Z.1 ∧ u = Z.2) (Wd D ad cy A g q) A) 0 0 A := by
  refine Met.ofW (cc := cX13_drawn) (maxL := 2) (ret := (some .int)) (by decide) rfl ?_
  intro p e s m args below meth c s₁ B hml hv
  obtain ⟨rfl, hP, hK, hD, hT, hG⟩ := hv
  have hx := B.exec
  have hb := B.bytes
  have hr := B.returns
  have hts := atoms_spec (ws := wsX13_drawn) B.pre
  have hown : s.vm.findClass RX13 = some m.cls := findClass_of_methodNamed B.named
  have hlocks := B.notSynchronized
  have in13 : ∀ w ∈ u_ws RX13 TX13 29, w ∈ wsX13_drawn := fun w h => List.mem_cons_of_mem _ (List.mem_append_right _ h)
  have hS : va_S A s.heap s.heap [] := va_S.rf
  have hl := lv_entry ([.ref (ad a0), .int x1]) (n := 2) (Nat.le_of_ble_eq_true rfl)
  rw [lg_entry_eq]
  generalize (lg_sl ([.ref (ad a0), .int x1]) ++ List.replicate (2 - (lg_sl ([.ref (ad a0), .int x1])).length) Slot.unset).toArray = ls at hl ⊢
  have hl : lv_has ls 2 [(0, .ref (ad a0)), (1, .int x1)] := hl
  unfold f_X13_drawn at h
  refine lv_aload_n hx hb dX13_drawn_0 rfl (lv_at hl 0 rfl) ?_
  refine lv_ldc2 hx hb hown (hts (.constantLong RX13 512 (75)) (List.mem_of_getElem? (i := 1) (by decide +kernel))) dX13_drawn_1 ?_
  refine lv_aload_n hx hb dX13_drawn_4 rfl (lv_at hl 0 rfl) ?_
  refine r_get (T := TX13) (v := .int (gI M a0 16)) hx hb hts in13 hown hK hP k0 (by decide) rfl 16 (by decide) (hts (.fieldLink RX13 437 "StoneWalkModel" "seed" "I") (List.mem_of_getElem? (i := 2) (by decide +kernel))) rfl (t := 0) rfl rfl dX13_drawn_5 ?_
  refine lv_i2l hx hb dX13_drawn_8 rfl ?_
  refine lv_lmul hx hb dX13_drawn_9 ?_
  refine lv_ldc2 hx hb hown (hts (.constantLong RX13 514 (74)) (List.mem_of_getElem? (i := 3) (by decide +kernel))) dX13_drawn_10 ?_
  refine lv_ladd hx hb dX13_drawn_13 ?_
  refine lv_ldc2 hx hb hown (hts (.constantLong RX13 516 (65537)) (List.mem_of_getElem? (i := 4) (by decide +kernel))) dX13_drawn_14 ?_
  refine lv_lrem hx hb dX13_drawn_17 (by decide) ?_
  refine lv_l2i hx hb dX13_drawn_18 rfl ?_
  refine r_putI (T := TX13) (ty := .int) (v := (((75 * ((gI M a0 16).toInt64)) + 74) - ((75 * ((gI M a0 16).toInt64)) + 74) / 65537 * 65537).toInt32) hx hb hts in13 tyX13 tyX13_ok nmX13 hown hK hP hD hT hS k0 (by decide) rfl 16 (by decide) (hts (.fieldLink RX13 437 "StoneWalkModel" "seed" "I") (List.mem_of_getElem? (i := 2) (by decide +kernel))) rfl rfl (tyX13_ok 16 (by decide)) rfl rfl rfl dX13_drawn_19 (fun H locs hP hD hT hS => ?_)
  generalize pI M a0 16 ((((75 * ((gI M a0 16).toInt64)) + 74) - ((75 * ((gI M a0 16).toInt64)) + 74) / 65537 * 65537).toInt32) = Mg1 at h hP hD hT ⊢
  refine lv_aload_n hx hb dX13_drawn_22 rfl (lv_at hl 0 rfl) ?_
  refine r_get (T := TX13) (v := .int (gI Mg1 a0 16)) hx hb hts in13 hown hK hP k0 (by decide) rfl 16 (by decide) (hts (.fieldLink RX13 437 "StoneWalkModel" "seed" "I") (List.mem_of_getElem? (i := 2) (by decide +kernel))) rfl (t := 0) rfl rfl dX13_drawn_23 ?_
  refine lv_iload_n hx hb dX13_drawn_26 rfl (lv_at hl 1 rfl) ?_
  obtain ⟨hn1, h⟩ := chk_some h
  refine lv_irem hx hb dX13_drawn_27 hn1 ?_
  have hZ := Option.some.inj h
  have hZ1 := congrArg Prod.fst hZ
  have hZ2 := congrArg Prod.snd hZ
  exact r_iret hx hb hr hlocks hP hK hD hT hG hS hZ1 hZ2 dX13_drawn_28
set_option maxHeartbeats 4000000 in
set_option maxRecDepth 100000 in
theorem c_X13_steps {l : Launch} {D : va_G} {ad : Nat → Nat} {cy : Nat → ClassId} {A : Nat → Prop} {g : CG} {q : SE} (M : MM) (a0 : Nat) (k0 : ok g a0 13 0) {Z : (Int32 × MM)} (h : f_X13_steps M a0 = some Z) : Met l yX13_steps wsX13_steps ({ frames := 3, cells := 0, slots := 0, locals := 69 }) (va_Pc [.ref (ad a0)] (Wd D ad cy A g q M)) (va_Qi (fun r u => r = Z.1 ∧ u = Z.2) (Wd D ad cy A g q) A) 0 0 A := by
  refine Met.ofW (cc := cX13_steps) (maxL := 6) (ret := (some .int)) (by decide) rfl ?_
  intro p e s m args below meth c s₁ B hml hv
  obtain ⟨rfl, hP, hK, hD, hT, hG⟩ := hv
  have hx := B.exec
  have hb := B.bytes
  have hr := B.returns
  have hts := atoms_spec (ws := wsX13_steps) B.pre
  have hown : s.vm.findClass RX13 = some m.cls := findClass_of_methodNamed B.named
  have hlocks := B.notSynchronized
  have in12 : ∀ w ∈ u_ws RX12 TX12 48, w ∈ wsX13_steps := fun w h => List.mem_cons_of_mem _ (List.mem_append_right _ h)
  have in13 : ∀ w ∈ u_ws RX13 TX13 29, w ∈ wsX13_steps := fun w h => List.mem_cons_of_mem _ (List.mem_append_left _ (List.mem_append_right _ h))
  have hS : va_S A s.heap s.heap [] := va_S.rf
  have hl := lv_entry ([.ref (ad a0)]) (n := 6) (Nat.le_of_ble_eq_true rfl)
  rw [lg_entry_eq]
  generalize (lg_sl ([.ref (ad a0)]) ++ List.replicate (6 - (lg_sl ([.ref (ad a0)])).length) Slot.unset).toArray = ls at hl ⊢
  have hl : lv_has ls 6 [(0, .ref (ad a0))] := hl
  unfold f_X13_steps at h
  refine lv_aload_n hx hb dX13_steps_0 rfl (lv_at hl 0 rfl) ?_
  rcases hN1 : gR M a0 3 with _ | b1
  · replace h := oc_n hN1 h
    refine r_get (T := TX13) (v := .null) hx hb hts in13 hown hK hP k0 (by decide) rfl 3 (by decide) (hts (.fieldLink RX13 431 "StoneWalkModel" "island" "LStoneWalkModel$Island;") (List.mem_of_getElem? (i := 1) (by decide +kernel))) rfl (t := 2) rfl (by show va_rf _ = _; rw [hN1]; rfl) dX13_steps_1 ?_
    refine lv_aload_n hx hb dX13_steps_4 rfl (lv_at hl 0 rfl) ?_
    refine r_get (T := TX13) (v := .int (gI M a0 19)) hx hb hts in13 hown hK hP k0 (by decide) rfl 19 (by decide) (hts (.fieldLink RX13 493 "StoneWalkModel" "movedOn" "I") (List.mem_of_getElem? (i := 2) (by decide +kernel))) rfl (t := 0) rfl rfl dX13_steps_5 ?_
    refine lv_aload_n hx hb dX13_steps_8 rfl (lv_at hl 0 rfl) ?_
    refine r_get (T := TX13) (v := .int (gI M a0 22)) hx hb hts in13 hown hK hP k0 (by decide) rfl 22 (by decide) (hts (.fieldLink RX13 503 "StoneWalkModel" "slopesGone" "I") (List.mem_of_getElem? (i := 3) (by decide +kernel))) rfl (t := 0) rfl rfl dX13_steps_9 ?_
    exact absurd h (by simp)
  · replace h := oc_s hN1 h
    have kb1 := hT.f k0 (k := 3) (t := 12) (n := 0) rfl hN1
    refine r_get (T := TX13) (v := .ref (ad b1)) hx hb hts in13 hown hK hP k0 (by decide) rfl 3 (by decide) (hts (.fieldLink RX13 431 "StoneWalkModel" "island" "LStoneWalkModel$Island;") (List.mem_of_getElem? (i := 1) (by decide +kernel))) rfl (t := 2) rfl (by show va_rf _ = _; rw [hN1]; rfl) dX13_steps_1 ?_
    refine lv_aload_n hx hb dX13_steps_4 rfl (lv_at hl 0 rfl) ?_
    refine r_get (T := TX13) (v := .int (gI M a0 19)) hx hb hts in13 hown hK hP k0 (by decide) rfl 19 (by decide) (hts (.fieldLink RX13 493 "StoneWalkModel" "movedOn" "I") (List.mem_of_getElem? (i := 2) (by decide +kernel))) rfl (t := 0) rfl rfl dX13_steps_5 ?_
    refine lv_aload_n hx hb dX13_steps_8 rfl (lv_at hl 0 rfl) ?_
    refine r_get (T := TX13) (v := .int (gI M a0 22)) hx hb hts in13 hown hK hP k0 (by decide) rfl 22 (by decide) (hts (.fieldLink RX13 503 "StoneWalkModel" "slopesGone" "I") (List.mem_of_getElem? (i := 3) (by decide +kernel))) rfl (t := 0) rfl rfl dX13_steps_9 ?_
    obtain ⟨z2, h2, h⟩ := ob_some h
    refine k_i (va_runV (As := [.int (gI M a0 19), .int (gI M a0 22)]) (rest := []) ⟨hx, hb, hml, hown, hts⟩ (c_X12_slopeAt (l := l) M b1 (gI M a0 19) (gI M a0 22) kb1 h2) (cwV 2 hts gX13_steps_X12_slopeAt rfl rfl rfl hdV_X12_slopeAt ⟨Nat.le_of_ble_eq_true rfl, Nat.le_of_ble_eq_true rfl⟩) (pV (T := TX12) hP hK hD hT hG hS kb1 (by decide) rfl) rfl rfl hl.1 rfl (lv_room (Nat.le_of_ble_eq_true rfl)) dX13_steps_12 ⟨Nat.zero_le _, Nat.zero_le _⟩) hS (fun H locs hP hD hT hS => ?_)
    refine lv_istore_n (lv' := [(1, .int z2), (0, .ref (ad a0))]) hx hb dX13_steps_15 rfl hl (by decide) rfl (fun ls hl => ?_)
    refine lv_aload_n hx hb dX13_steps_16 rfl (lv_at hl 1 rfl) ?_
    refine lv_aload_n hx hb dX13_steps_17 rfl (lv_at hl 1 rfl) ?_
    refine r_get (T := TX13) (v := .int (gI M a0 18)) hx hb hts in13 hown hK hP k0 (by decide) rfl 18 (by decide) (hts (.fieldLink RX13 490 "StoneWalkModel" "movedBy" "I") (List.mem_of_getElem? (i := 4) (by decide +kernel))) rfl (t := 0) rfl rfl dX13_steps_18 ?_
    refine lv_aload_n hx hb dX13_steps_21 rfl (lv_at hl 1 rfl) ?_
    refine r_get (T := TX13) (v := .int (gI M a0 17)) hx hb hts in13 hown hK hP k0 (by decide) rfl 17 (by decide) (hts (.fieldLink RX13 17 "StoneWalkModel" "moved" "I") (List.mem_of_getElem? (i := 5) (by decide +kernel))) rfl (t := 0) rfl rfl dX13_steps_22 ?_
    refine lv_iload_n hx hb dX13_steps_25 rfl (lv_at hl 0 rfl) ?_
    obtain ⟨z3, h3, h⟩ := ob_some h
    refine k_z (va_runV (As := [.int (gI M a0 18), .int (gI M a0 17), .int z2]) (rest := []) ⟨hx, hb, hml, hown, hts⟩ (c_X13_canBy (l := l) M a0 (gI M a0 18) (gI M a0 17) z2 k0 h3) (cwV 3 hts gX13_steps_X13_canBy rfl rfl rfl hdV_X13_canBy ⟨Nat.le_of_ble_eq_true rfl, Nat.le_of_ble_eq_true rfl⟩) (pV (T := TX13) hP hK hD hT hG hS k0 (by decide) rfl) rfl rfl hl.1 rfl (lv_room (Nat.le_of_ble_eq_true rfl)) dX13_steps_26 ⟨Nat.zero_le _, Nat.zero_le _⟩) hS (fun H locs hz3 hP hD hT hS => ?_)
    refine lv_if_ne (tgt := 34) hx hb dX13_steps_29 rfl (fun c4 => ?_) (fun c4 => ?_)
    · replace h := ite_f c4 h
      refine lv_aload_n hx hb dX13_steps_34 rfl (lv_at hl 1 rfl) ?_
      refine lv_aload_n hx hb dX13_steps_35 rfl (lv_at hl 1 rfl) ?_
      refine r_get (T := TX13) (v := .int (gI M a0 18)) hx hb hts in13 hown hK hP k0 (by decide) rfl 18 (by decide) (hts (.fieldLink RX13 490 "StoneWalkModel" "movedBy" "I") (List.mem_of_getElem? (i := 4) (by decide +kernel))) rfl (t := 0) rfl rfl dX13_steps_36 ?_
      refine lv_aload_n hx hb dX13_steps_39 rfl (lv_at hl 1 rfl) ?_
      rcases hN5 : gR M a0 3 with _ | b5
      · replace h := oc_n hN5 h
        refine r_get (T := TX13) (v := .null) hx hb hts in13 hown hK hP k0 (by decide) rfl 3 (by decide) (hts (.fieldLink RX13 431 "StoneWalkModel" "island" "LStoneWalkModel$Island;") (List.mem_of_getElem? (i := 1) (by decide +kernel))) rfl (t := 2) rfl (by show va_rf _ = _; rw [hN5]; rfl) dX13_steps_40 ?_
        exact absurd h (by simp)
      · replace h := oc_s hN5 h
        have kb5 := hT.f k0 (k := 3) (t := 12) (n := 0) rfl hN5
        refine r_get (T := TX13) (v := .ref (ad b5)) hx hb hts in13 hown hK hP k0 (by decide) rfl 3 (by decide) (hts (.fieldLink RX13 431 "StoneWalkModel" "island" "LStoneWalkModel$Island;") (List.mem_of_getElem? (i := 1) (by decide +kernel))) rfl (t := 2) rfl (by show va_rf _ = _; rw [hN5]; rfl) dX13_steps_40 ?_
        rcases hN6 : gR M b5 15 with _ | b6
        · exact absurd (oc_n hN6 h) (by simp)
        replace h := oc_s hN6 h
        have kb6 := hT.f kb5 (k := 15) (t := 15) (n := 10) rfl hN6
        refine r_getN (T := TX12) (v := .ref (ad b6)) hx hb hts in12 hown hK hP kb5 (by decide) rfl 15 (by decide) (hG.2.2.1 ("StoneWalkModel", 301, "StoneWalkModel$Island", "tons", "[I", "StoneWalkModel") (List.mem_of_getElem? (i := 15) rfl)) rfl (t := 2) rfl (by show va_rf _ = _; rw [hN6]; rfl) dX13_steps_43 ?_
        refine lv_aload_n hx hb dX13_steps_46 rfl (lv_at hl 1 rfl) ?_
        refine r_get (T := TX13) (v := .int (gI M a0 17)) hx hb hts in13 hown hK hP k0 (by decide) rfl 17 (by decide) (hts (.fieldLink RX13 17 "StoneWalkModel" "moved" "I") (List.mem_of_getElem? (i := 5) (by decide +kernel))) rfl (t := 0) rfl rfl dX13_steps_47 ?_
        obtain ⟨hn7, h⟩ := chk_some h
        refine r_iald hx hb hK hP kb6 hn7 dX13_steps_50 ?_
        refine lv_iload_n hx hb dX13_steps_51 rfl (lv_at hl 0 rfl) ?_
        obtain ⟨z8, h8, h⟩ := ob_some h
        refine k_i (va_runV (As := [.int (gI M a0 18), .int (gI M b6 (ix (gI M a0 17))), .int z2]) (rest := []) ⟨hx, hb, hml, hown, hts⟩ (c_X13_needBy (l := l) M a0 (gI M a0 18) (gI M b6 (ix (gI M a0 17))) z2 k0 h8) (cwV 3 hts gX13_steps_X13_needBy rfl rfl rfl hdV_X13_needBy ⟨Nat.le_of_ble_eq_true rfl, Nat.le_of_ble_eq_true rfl⟩) (pV (T := TX13) hP hK hD hT hG hS k0 (by decide) rfl) rfl rfl hl.1 rfl (lv_room (Nat.le_of_ble_eq_true rfl)) dX13_steps_52 ⟨Nat.zero_le _, Nat.zero_le _⟩) hS (fun H locs hP hD hT hS => ?_)
        refine lv_istore_n (lv' := [(2, .int z8), (1, .int z2), (0, .ref (ad a0))]) hx hb dX13_steps_55 rfl hl (by decide) rfl (fun ls hl => ?_)
        refine lv_aload_n hx hb dX13_steps_56 rfl (lv_at hl 2 rfl) ?_
        refine r_get (T := TX13) (v := .int (gI M a0 20)) hx hb hts in13 hown hK hP k0 (by decide) rfl 20 (by decide) (hts (.fieldLink RX13 496 "StoneWalkModel" "people" "I") (List.mem_of_getElem? (i := 6) (by decide +kernel))) rfl (t := 0) rfl rfl dX13_steps_57 ?_
        refine lv_iload_n hx hb dX13_steps_60 rfl (lv_at hl 0 rfl) ?_
        refine lv_icmp_ge (tgt := 66) hx hb dX13_steps_61 rfl (fun c9 => ?_) (fun c9 => ?_)
        · replace h := ite_t c9 h
          refine lv_aload_n hx hb dX13_steps_66 rfl (lv_at hl 2 rfl) ?_
          refine lv_dup hx hb dX13_steps_67 rfl ?_
          refine r_get (T := TX13) (v := .int (gI M a0 23)) hx hb hts in13 hown hK hP k0 (by decide) rfl 23 (by decide) (hts (.fieldLink RX13 506 "StoneWalkModel" "minutesGone" "I") (List.mem_of_getElem? (i := 7) (by decide +kernel))) rfl (t := 0) rfl rfl dX13_steps_68 ?_
          refine lv_aload_n hx hb dX13_steps_71 rfl (lv_at hl 2 rfl) ?_
          refine lv_aload_n hx hb dX13_steps_72 rfl (lv_at hl 2 rfl) ?_
          refine r_get (T := TX13) (v := .int (gI M a0 18)) hx hb hts in13 hown hK hP k0 (by decide) rfl 18 (by decide) (hts (.fieldLink RX13 490 "StoneWalkModel" "movedBy" "I") (List.mem_of_getElem? (i := 4) (by decide +kernel))) rfl (t := 0) rfl rfl dX13_steps_73 ?_
          refine lv_iload_n hx hb dX13_steps_76 rfl (lv_at hl 0 rfl) ?_
          refine lv_aload_n hx hb dX13_steps_77 rfl (lv_at hl 2 rfl) ?_
          refine r_get (T := TX13) (v := .int (gI M a0 20)) hx hb hts in13 hown hK hP k0 (by decide) rfl 20 (by decide) (hts (.fieldLink RX13 496 "StoneWalkModel" "people" "I") (List.mem_of_getElem? (i := 6) (by decide +kernel))) rfl (t := 0) rfl rfl dX13_steps_78 ?_
          obtain ⟨z10, h10, h⟩ := ob_some h
          refine k_i (va_runV (As := [.int (gI M a0 18), .int z8, .int (gI M a0 20)]) (rest := [.int (gI M a0 23), .ref (ad a0)]) ⟨hx, hb, hml, hown, hts⟩ (c_X13_minutesBy (l := l) M a0 (gI M a0 18) z8 (gI M a0 20) k0 h10) (cwV 3 hts gX13_steps_X13_minutesBy rfl rfl rfl hdV_X13_minutesBy ⟨Nat.le_of_ble_eq_true rfl, Nat.le_of_ble_eq_true rfl⟩) (pV (T := TX13) hP hK hD hT hG hS k0 (by decide) rfl) rfl rfl hl.1 rfl (lv_room (Nat.le_of_ble_eq_true rfl)) dX13_steps_81 ⟨Nat.zero_le _, Nat.zero_le _⟩) hS (fun H locs hP hD hT hS => ?_)
          refine lv_iadd hx hb dX13_steps_84 ?_
          refine r_putI (T := TX13) (ty := .int) (v := (gI M a0 23) + z10) hx hb hts in13 tyX13 tyX13_ok nmX13 hown hK hP hD hT hS k0 (by decide) rfl 23 (by decide) (hts (.fieldLink RX13 506 "StoneWalkModel" "minutesGone" "I") (List.mem_of_getElem? (i := 7) (by decide +kernel))) rfl rfl (tyX13_ok 23 (by decide)) rfl rfl rfl dX13_steps_85 (fun H locs hP hD hT hS => ?_)
          generalize pI M a0 23 ((gI M a0 23) + z10) = Mg1 at h hP hD hT ⊢
          refine lv_aload_n hx hb dX13_steps_88 rfl (lv_at hl 2 rfl) ?_
          refine lv_aload_n hx hb dX13_steps_89 rfl (lv_at hl 2 rfl) ?_
          refine r_get (T := TX13) (v := .int (gI Mg1 a0 18)) hx hb hts in13 hown hK hP k0 (by decide) rfl 18 (by decide) (hts (.fieldLink RX13 490 "StoneWalkModel" "movedBy" "I") (List.mem_of_getElem? (i := 4) (by decide +kernel))) rfl (t := 0) rfl rfl dX13_steps_90 ?_
          refine lv_aload_n hx hb dX13_steps_93 rfl (lv_at hl 2 rfl) ?_
          refine r_get (T := TX13) (v := .int (gI Mg1 a0 17)) hx hb hts in13 hown hK hP k0 (by decide) rfl 17 (by decide) (hts (.fieldLink RX13 17 "StoneWalkModel" "moved" "I") (List.mem_of_getElem? (i := 5) (by decide +kernel))) rfl (t := 0) rfl rfl dX13_steps_94 ?_
          refine lv_iload_n hx hb dX13_steps_97 rfl (lv_at hl 1 rfl) ?_
          obtain ⟨z11, h11, h⟩ := ob_some h
          refine k_i (va_runV (As := [.int (gI Mg1 a0 18), .int (gI Mg1 a0 17), .int z2]) (rest := []) ⟨hx, hb, hml, hown, hts⟩ (c_X13_chanceBy (l := l) Mg1 a0 (gI Mg1 a0 18) (gI Mg1 a0 17) z2 k0 h11) (cwV 3 hts gX13_steps_X13_chanceBy rfl rfl rfl hdV_X13_chanceBy ⟨Nat.le_of_ble_eq_true rfl, Nat.le_of_ble_eq_true rfl⟩) (pV (T := TX13) hP hK hD hT hG hS k0 (by decide) rfl) rfl rfl hl.1 rfl (lv_room (Nat.le_of_ble_eq_true rfl)) dX13_steps_98 ⟨Nat.zero_le _, Nat.zero_le _⟩) hS (fun H locs hP hD hT hS => ?_)
          refine lv_istore_n (lv' := [(3, .int z11), (2, .int z8), (1, .int z2), (0, .ref (ad a0))]) hx hb dX13_steps_101 rfl hl (by decide) rfl (fun ls hl => ?_)
          refine lv_iload_n hx hb dX13_steps_102 rfl (lv_at hl 0 rfl) ?_
          refine lv_if_le (tgt := 176) hx hb dX13_steps_103 rfl (fun c12 => ?_) (fun c12 => ?_)
          · replace h := ite_t c12 h
            refine lv_aload_n hx hb dX13_steps_176 rfl (lv_at hl 3 rfl) ?_
            refine lv_dup hx hb dX13_steps_177 rfl ?_
            refine r_get (T := TX13) (v := .int (gI Mg1 a0 22)) hx hb hts in13 hown hK hP k0 (by decide) rfl 22 (by decide) (hts (.fieldLink RX13 503 "StoneWalkModel" "slopesGone" "I") (List.mem_of_getElem? (i := 3) (by decide +kernel))) rfl (t := 0) rfl rfl dX13_steps_178 ?_
            refine lv_iconst (v := 1) hx hb dX13_steps_181 rfl ?_
            refine lv_iadd hx hb dX13_steps_182 ?_
            refine r_putI (T := TX13) (ty := .int) (v := (gI Mg1 a0 22) + 1) hx hb hts in13 tyX13 tyX13_ok nmX13 hown hK hP hD hT hS k0 (by decide) rfl 22 (by decide) (hts (.fieldLink RX13 503 "StoneWalkModel" "slopesGone" "I") (List.mem_of_getElem? (i := 3) (by decide +kernel))) rfl rfl (tyX13_ok 22 (by decide)) rfl rfl rfl dX13_steps_183 (fun H locs hP hD hT hS => ?_)
            generalize pI Mg1 a0 22 ((gI Mg1 a0 22) + 1) = Mg2 at h hP hD hT ⊢
            refine lv_aload_n hx hb dX13_steps_186 rfl (lv_at hl 3 rfl) ?_
            refine r_get (T := TX13) (v := .int (gI Mg2 a0 22)) hx hb hts in13 hown hK hP k0 (by decide) rfl 22 (by decide) (hts (.fieldLink RX13 503 "StoneWalkModel" "slopesGone" "I") (List.mem_of_getElem? (i := 3) (by decide +kernel))) rfl (t := 0) rfl rfl dX13_steps_187 ?_
            refine lv_aload_n hx hb dX13_steps_190 rfl (lv_at hl 3 rfl) ?_
            rcases hN13 : gR Mg2 a0 3 with _ | b13
            · replace h := oc_n hN13 h
              refine r_get (T := TX13) (v := .null) hx hb hts in13 hown hK hP k0 (by decide) rfl 3 (by decide) (hts (.fieldLink RX13 431 "StoneWalkModel" "island" "LStoneWalkModel$Island;") (List.mem_of_getElem? (i := 1) (by decide +kernel))) rfl (t := 2) rfl (by show va_rf _ = _; rw [hN13]; rfl) dX13_steps_191 ?_
              exact absurd h (by simp)
            · replace h := oc_s hN13 h
              have kb13 := hT.f k0 (k := 3) (t := 12) (n := 0) rfl hN13
              refine r_get (T := TX13) (v := .ref (ad b13)) hx hb hts in13 hown hK hP k0 (by decide) rfl 3 (by decide) (hts (.fieldLink RX13 431 "StoneWalkModel" "island" "LStoneWalkModel$Island;") (List.mem_of_getElem? (i := 1) (by decide +kernel))) rfl (t := 2) rfl (by show va_rf _ = _; rw [hN13]; rfl) dX13_steps_191 ?_
              rcases hN14 : gR Mg2 b13 13 with _ | b14
              · exact absurd (oc_n hN14 h) (by simp)
              replace h := oc_s hN14 h
              have kb14 := hT.f kb13 (k := 13) (t := 15) (n := 3) rfl hN14
              refine r_getN (T := TX12) (v := .ref (ad b14)) hx hb hts in12 hown hK hP kb13 (by decide) rfl 13 (by decide) (hG.2.2.1 ("StoneWalkModel", 266, "StoneWalkModel$Island", "slopes", "[I", "StoneWalkModel") (List.mem_of_getElem? (i := 13) rfl)) rfl (t := 2) rfl (by show va_rf _ = _; rw [hN14]; rfl) dX13_steps_194 ?_
              refine lv_aload_n hx hb dX13_steps_197 rfl (lv_at hl 3 rfl) ?_
              refine r_get (T := TX13) (v := .int (gI Mg2 a0 19)) hx hb hts in13 hown hK hP k0 (by decide) rfl 19 (by decide) (hts (.fieldLink RX13 493 "StoneWalkModel" "movedOn" "I") (List.mem_of_getElem? (i := 2) (by decide +kernel))) rfl (t := 0) rfl rfl dX13_steps_198 ?_
              obtain ⟨hn15, h⟩ := chk_some h
              refine r_iald hx hb hK hP kb14 hn15 dX13_steps_201 ?_
              refine lv_icmp_ne (tgt := 209) hx hb dX13_steps_202 rfl (fun c16 => ?_) (fun c16 => ?_)
              · replace h := ite_f c16 h
                refine lv_iconst (v := 1) hx hb dX13_steps_209 rfl ?_
                have hZ := Option.some.inj h
                have hZ1 := congrArg Prod.fst hZ
                have hZ2 := congrArg Prod.snd hZ
                exact r_iret hx hb hr hlocks hP hK hD hT hG hS hZ1 hZ2 dX13_steps_210
              · replace h := ite_t c16 h
                refine lv_iconst (v := 2) hx hb dX13_steps_205 rfl ?_
                refine lv_goto (tgt := 210) hx hb dX13_steps_206 rfl ?_
                have hZ := Option.some.inj h
                have hZ1 := congrArg Prod.fst hZ
                have hZ2 := congrArg Prod.snd hZ
                exact r_iret hx hb hr hlocks hP hK hD hT hG hS hZ1 hZ2 dX13_steps_210
          · replace h := ite_f c12 h
            refine lv_aload_n hx hb dX13_steps_106 rfl (lv_at hl 3 rfl) ?_
            refine lv_bipush (v := 100) hx hb dX13_steps_107 rfl ?_
            obtain ⟨z17, h17, h⟩ := ob_some h
            refine k_i (va_runV (As := [.int 100]) (rest := []) ⟨hx, hb, hml, hown, hts⟩ (c_X13_drawn (l := l) Mg1 a0 100 k0 h17) (cwV 1 hts gX13_steps_X13_drawn rfl rfl rfl hdV_X13_drawn ⟨Nat.le_of_ble_eq_true rfl, Nat.le_of_ble_eq_true rfl⟩) (pV (T := TX13) hP hK hD hT hG hS k0 (by decide) rfl) rfl rfl hl.1 rfl (lv_room (Nat.le_of_ble_eq_true rfl)) dX13_steps_109 ⟨Nat.zero_le _, Nat.zero_le _⟩) hS (fun H locs hP hD hT hS => ?_)
            refine lv_iload_n hx hb dX13_steps_112 rfl (lv_at hl 0 rfl) ?_
            refine lv_icmp_ge (tgt := 176) hx hb dX13_steps_113 rfl (fun c18 => ?_) (fun c18 => ?_)
            · replace h := ite_t c18 h
              refine lv_aload_n hx hb dX13_steps_176 rfl (lv_at hl 3 rfl) ?_
              refine lv_dup hx hb dX13_steps_177 rfl ?_
              refine r_get (T := TX13) (v := .int (gI z17.2 a0 22)) hx hb hts in13 hown hK hP k0 (by decide) rfl 22 (by decide) (hts (.fieldLink RX13 503 "StoneWalkModel" "slopesGone" "I") (List.mem_of_getElem? (i := 3) (by decide +kernel))) rfl (t := 0) rfl rfl dX13_steps_178 ?_
              refine lv_iconst (v := 1) hx hb dX13_steps_181 rfl ?_
              refine lv_iadd hx hb dX13_steps_182 ?_
              refine r_putI (T := TX13) (ty := .int) (v := (gI z17.2 a0 22) + 1) hx hb hts in13 tyX13 tyX13_ok nmX13 hown hK hP hD hT hS k0 (by decide) rfl 22 (by decide) (hts (.fieldLink RX13 503 "StoneWalkModel" "slopesGone" "I") (List.mem_of_getElem? (i := 3) (by decide +kernel))) rfl rfl (tyX13_ok 22 (by decide)) rfl rfl rfl dX13_steps_183 (fun H locs hP hD hT hS => ?_)
              generalize pI z17.2 a0 22 ((gI z17.2 a0 22) + 1) = Mg3 at h hP hD hT ⊢
              refine lv_aload_n hx hb dX13_steps_186 rfl (lv_at hl 3 rfl) ?_
              refine r_get (T := TX13) (v := .int (gI Mg3 a0 22)) hx hb hts in13 hown hK hP k0 (by decide) rfl 22 (by decide) (hts (.fieldLink RX13 503 "StoneWalkModel" "slopesGone" "I") (List.mem_of_getElem? (i := 3) (by decide +kernel))) rfl (t := 0) rfl rfl dX13_steps_187 ?_
              refine lv_aload_n hx hb dX13_steps_190 rfl (lv_at hl 3 rfl) ?_
              rcases hN19 : gR Mg3 a0 3 with _ | b19
              · replace h := oc_n hN19 h
                refine r_get (T := TX13) (v := .null) hx hb hts in13 hown hK hP k0 (by decide) rfl 3 (by decide) (hts (.fieldLink RX13 431 "StoneWalkModel" "island" "LStoneWalkModel$Island;") (List.mem_of_getElem? (i := 1) (by decide +kernel))) rfl (t := 2) rfl (by show va_rf _ = _; rw [hN19]; rfl) dX13_steps_191 ?_
                exact absurd h (by simp)
              · replace h := oc_s hN19 h
                have kb19 := hT.f k0 (k := 3) (t := 12) (n := 0) rfl hN19
                refine r_get (T := TX13) (v := .ref (ad b19)) hx hb hts in13 hown hK hP k0 (by decide) rfl 3 (by decide) (hts (.fieldLink RX13 431 "StoneWalkModel" "island" "LStoneWalkModel$Island;") (List.mem_of_getElem? (i := 1) (by decide +kernel))) rfl (t := 2) rfl (by show va_rf _ = _; rw [hN19]; rfl) dX13_steps_191 ?_
                rcases hN20 : gR Mg3 b19 13 with _ | b20
                · exact absurd (oc_n hN20 h) (by simp)
                replace h := oc_s hN20 h
                have kb20 := hT.f kb19 (k := 13) (t := 15) (n := 3) rfl hN20
                refine r_getN (T := TX12) (v := .ref (ad b20)) hx hb hts in12 hown hK hP kb19 (by decide) rfl 13 (by decide) (hG.2.2.1 ("StoneWalkModel", 266, "StoneWalkModel$Island", "slopes", "[I", "StoneWalkModel") (List.mem_of_getElem? (i := 13) rfl)) rfl (t := 2) rfl (by show va_rf _ = _; rw [hN20]; rfl) dX13_steps_194 ?_
                refine lv_aload_n hx hb dX13_steps_197 rfl (lv_at hl 3 rfl) ?_
                refine r_get (T := TX13) (v := .int (gI Mg3 a0 19)) hx hb hts in13 hown hK hP k0 (by decide) rfl 19 (by decide) (hts (.fieldLink RX13 493 "StoneWalkModel" "movedOn" "I") (List.mem_of_getElem? (i := 2) (by decide +kernel))) rfl (t := 0) rfl rfl dX13_steps_198 ?_
                obtain ⟨hn21, h⟩ := chk_some h
                refine r_iald hx hb hK hP kb20 hn21 dX13_steps_201 ?_
                refine lv_icmp_ne (tgt := 209) hx hb dX13_steps_202 rfl (fun c22 => ?_) (fun c22 => ?_)
                · replace h := ite_f c22 h
                  refine lv_iconst (v := 1) hx hb dX13_steps_209 rfl ?_
                  have hZ := Option.some.inj h
                  have hZ1 := congrArg Prod.fst hZ
                  have hZ2 := congrArg Prod.snd hZ
                  exact r_iret hx hb hr hlocks hP hK hD hT hG hS hZ1 hZ2 dX13_steps_210
                · replace h := ite_t c22 h
                  refine lv_iconst (v := 2) hx hb dX13_steps_205 rfl ?_
                  refine lv_goto (tgt := 210) hx hb dX13_steps_206 rfl ?_
                  have hZ := Option.some.inj h
                  have hZ1 := congrArg Prod.fst hZ
                  have hZ2 := congrArg Prod.snd hZ
                  exact r_iret hx hb hr hlocks hP hK hD hT hG hS hZ1 hZ2 dX13_steps_210
            · replace h := ite_f c18 h
              refine lv_aload_n hx hb dX13_steps_116 rfl (lv_at hl 3 rfl) ?_
              refine lv_bipush (v := 10) hx hb dX13_steps_117 rfl ?_
              obtain ⟨z23, h23, h⟩ := ob_some h
              refine k_i (va_runV (As := [.int 10]) (rest := []) ⟨hx, hb, hml, hown, hts⟩ (c_X13_drawn (l := l) z17.2 a0 10 k0 h23) (cwV 1 hts gX13_steps_X13_drawn rfl rfl rfl hdV_X13_drawn ⟨Nat.le_of_ble_eq_true rfl, Nat.le_of_ble_eq_true rfl⟩) (pV (T := TX13) hP hK hD hT hG hS k0 (by decide) rfl) rfl rfl hl.1 rfl (lv_room (Nat.le_of_ble_eq_true rfl)) dX13_steps_119 ⟨Nat.zero_le _, Nat.zero_le _⟩) hS (fun H locs hP hD hT hS => ?_)
              refine lv_istore (lv' := [(4, .int z23.1), (3, .int z11), (2, .int z8), (1, .int z2), (0, .ref (ad a0))]) hx hb dX13_steps_122 hl (by decide) rfl (fun ls hl => ?_)
              refine lv_aload_n hx hb dX13_steps_124 rfl (lv_at hl 4 rfl) ?_
              refine lv_aload_n hx hb dX13_steps_125 rfl (lv_at hl 4 rfl) ?_
              refine r_get (T := TX13) (v := .int (gI z23.2 a0 18)) hx hb hts in13 hown hK hP k0 (by decide) rfl 18 (by decide) (hts (.fieldLink RX13 490 "StoneWalkModel" "movedBy" "I") (List.mem_of_getElem? (i := 4) (by decide +kernel))) rfl (t := 0) rfl rfl dX13_steps_126 ?_
              refine lv_iload_n hx hb dX13_steps_129 rfl (lv_at hl 3 rfl) ?_
              refine lv_iconst (v := 0) hx hb dX13_steps_130 rfl ?_
              obtain ⟨z24, h24, h⟩ := ob_some h
              refine k_i (va_runV (As := [.int (gI z23.2 a0 18), .int z2, .int 0]) (rest := []) ⟨hx, hb, hml, hown, hts⟩ (c_X13_tenths (l := l) z23.2 a0 (gI z23.2 a0 18) z2 0 k0 h24) (cwV 3 hts gX13_steps_X13_tenths rfl rfl rfl hdV_X13_tenths ⟨Nat.le_of_ble_eq_true rfl, Nat.le_of_ble_eq_true rfl⟩) (pV (T := TX13) hP hK hD hT hG hS k0 (by decide) rfl) rfl rfl hl.1 rfl (lv_room (Nat.le_of_ble_eq_true rfl)) dX13_steps_131 ⟨Nat.zero_le _, Nat.zero_le _⟩) hS (fun H locs hP hD hT hS => ?_)
              refine lv_istore (lv' := [(5, .int z24), (4, .int z23.1), (3, .int z11), (2, .int z8), (1, .int z2), (0, .ref (ad a0))]) hx hb dX13_steps_134 hl (by decide) rfl (fun ls hl => ?_)
              refine lv_aload_n hx hb dX13_steps_136 rfl (lv_at hl 5 rfl) ?_
              refine lv_iload hx hb dX13_steps_137 (lv_at hl 1 rfl) ?_
              refine lv_iload hx hb dX13_steps_139 (lv_at hl 0 rfl) ?_
              refine lv_icmp_ge (tgt := 148) hx hb dX13_steps_141 rfl (fun c25 => ?_) (fun c25 => ?_)
              · replace h := ite_t c25 h
                refine lv_iload hx hb dX13_steps_148 (lv_at hl 1 rfl) ?_
                refine lv_iload hx hb dX13_steps_150 (lv_at hl 0 rfl) ?_
                refine lv_aload_n hx hb dX13_steps_152 rfl (lv_at hl 5 rfl) ?_
                refine lv_aload_n hx hb dX13_steps_153 rfl (lv_at hl 5 rfl) ?_
                refine r_get (T := TX13) (v := .int (gI z23.2 a0 18)) hx hb hts in13 hown hK hP k0 (by decide) rfl 18 (by decide) (hts (.fieldLink RX13 490 "StoneWalkModel" "movedBy" "I") (List.mem_of_getElem? (i := 4) (by decide +kernel))) rfl (t := 0) rfl rfl dX13_steps_154 ?_
                refine lv_iload_n hx hb dX13_steps_157 rfl (lv_at hl 4 rfl) ?_
                refine lv_iconst (v := 1) hx hb dX13_steps_158 rfl ?_
                obtain ⟨z26, h26, h⟩ := ob_some h
                refine k_i (va_runV (As := [.int (gI z23.2 a0 18), .int z2, .int 1]) (rest := [.int z24, .int z23.1, .ref (ad a0)]) ⟨hx, hb, hml, hown, hts⟩ (c_X13_tenths (l := l) z23.2 a0 (gI z23.2 a0 18) z2 1 k0 h26) (cwV 3 hts gX13_steps_X13_tenths rfl rfl rfl hdV_X13_tenths ⟨Nat.le_of_ble_eq_true rfl, Nat.le_of_ble_eq_true rfl⟩) (pV (T := TX13) hP hK hD hT hG hS k0 (by decide) rfl) rfl rfl hl.1 rfl (lv_room (Nat.le_of_ble_eq_true rfl)) dX13_steps_159 ⟨Nat.zero_le _, Nat.zero_le _⟩) hS (fun H locs hP hD hT hS => ?_)
                refine lv_iadd hx hb dX13_steps_162 ?_
                refine lv_icmp_ge (tgt := 170) hx hb dX13_steps_163 rfl (fun c27 => ?_) (fun c27 => ?_)
                · replace h := ite_t c27 h
                  refine lv_iconst (v := 2) hx hb dX13_steps_170 rfl ?_
                  refine r_putI (T := TX13) (ty := .int) (v := 2) hx hb hts in13 tyX13 tyX13_ok nmX13 hown hK hP hD hT hS k0 (by decide) rfl 24 (by decide) (hts (.fieldLink RX13 509 "StoneWalkModel" "liesNow" "I") (List.mem_of_getElem? (i := 8) (by decide +kernel))) rfl rfl (tyX13_ok 24 (by decide)) rfl rfl rfl dX13_steps_171 (fun H locs hP hD hT hS => ?_)
                  generalize pI z23.2 a0 24 2 = Mg4 at h hP hD hT ⊢
                  refine lv_iconst (v := 3) hx hb dX13_steps_174 rfl ?_
                  have hZ := Option.some.inj h
                  have hZ1 := congrArg Prod.fst hZ
                  have hZ2 := congrArg Prod.snd hZ
                  exact r_iret hx hb hr hlocks hP hK hD hT hG hS hZ1 hZ2 dX13_steps_175
                · replace h := ite_f c27 h
                  refine lv_iconst (v := 1) hx hb dX13_steps_166 rfl ?_
                  refine lv_goto (tgt := 171) hx hb dX13_steps_167 rfl ?_
                  refine r_putI (T := TX13) (ty := .int) (v := 1) hx hb hts in13 tyX13 tyX13_ok nmX13 hown hK hP hD hT hS k0 (by decide) rfl 24 (by decide) (hts (.fieldLink RX13 509 "StoneWalkModel" "liesNow" "I") (List.mem_of_getElem? (i := 8) (by decide +kernel))) rfl rfl (tyX13_ok 24 (by decide)) rfl rfl rfl dX13_steps_171 (fun H locs hP hD hT hS => ?_)
                  generalize pI z23.2 a0 24 1 = Mg5 at h hP hD hT ⊢
                  refine lv_iconst (v := 3) hx hb dX13_steps_174 rfl ?_
                  have hZ := Option.some.inj h
                  have hZ1 := congrArg Prod.fst hZ
                  have hZ2 := congrArg Prod.snd hZ
                  exact r_iret hx hb hr hlocks hP hK hD hT hG hS hZ1 hZ2 dX13_steps_175
              · replace h := ite_f c25 h
                refine lv_iconst (v := 0) hx hb dX13_steps_144 rfl ?_
                refine lv_goto (tgt := 171) hx hb dX13_steps_145 rfl ?_
                refine r_putI (T := TX13) (ty := .int) (v := 0) hx hb hts in13 tyX13 tyX13_ok nmX13 hown hK hP hD hT hS k0 (by decide) rfl 24 (by decide) (hts (.fieldLink RX13 509 "StoneWalkModel" "liesNow" "I") (List.mem_of_getElem? (i := 8) (by decide +kernel))) rfl rfl (tyX13_ok 24 (by decide)) rfl rfl rfl dX13_steps_171 (fun H locs hP hD hT hS => ?_)
                generalize pI z23.2 a0 24 0 = Mg6 at h hP hD hT ⊢
                refine lv_iconst (v := 3) hx hb dX13_steps_174 rfl ?_
                have hZ := Option.some.inj h
                have hZ1 := congrArg Prod.fst hZ
                have hZ2 := congrArg Prod.snd hZ
                exact r_iret hx hb hr hlocks hP hK hD hT hG hS hZ1 hZ2 dX13_steps_175
        · replace h := ite_f c9 h
          refine lv_iconst (v := 5) hx hb dX13_steps_64 rfl ?_
          have hZ := Option.some.inj h
          have hZ1 := congrArg Prod.fst hZ
          have hZ2 := congrArg Prod.snd hZ
          exact r_iret hx hb hr hlocks hP hK hD hT hG hS hZ1 hZ2 dX13_steps_65
    · replace h := ite_t c4 h
      refine lv_iconst (v := 4) hx hb dX13_steps_32 rfl ?_
      have hZ := Option.some.inj h
      have hZ1 := congrArg Prod.fst hZ
      have hZ2 := congrArg Prod.snd hZ
      exact r_iret hx hb hr hlocks hP hK hD hT hG hS hZ1 hZ2 dX13_steps_33
set_option maxHeartbeats 4000000 in
set_option maxRecDepth 100000 in
theorem c_X13_step {l : Launch} {D : va_G} {ad : Nat → Nat} {cy : Nat → ClassId} {A : Nat → Prop} {g : CG} {q : SE} (M : MM) (a0 : Nat) (k0 : ok g a0 13 0) {Z : (Int32 × MM)} (h : f_X13_step M a0 = some Z) : Met l yX13_step wsX13_step ({ frames := 4, cells := 0, slots := 0, locals := 94 }) (va_Pc [.ref (ad a0)] (Wd D ad cy A g q M)) (va_Qi (fun r u => r = Z.1 ∧ u = Z.2) (Wd D ad cy A g q) A) 0 0 A := by
  refine Met.ofW (cc := cX13_step) (maxL := 1) (ret := (some .int)) (by decide) rfl ?_
  intro p e s m args below meth c s₁ B hml hv
  obtain ⟨rfl, hP, hK, hD, hT, hG⟩ := hv
  have hx := B.exec
  have hb := B.bytes
  have hr := B.returns
  have hts := atoms_spec (ws := wsX13_step) B.pre
  have hown : s.vm.findClass RX13 = some m.cls := findClass_of_methodNamed B.named
  have hlocks := B.notSynchronized
  have in13 : ∀ w ∈ u_ws RX13 TX13 29, w ∈ wsX13_step := fun w h => List.mem_cons_of_mem _ (List.mem_append_left _ (List.mem_append_right _ h))
  have hS : va_S A s.heap s.heap [] := va_S.rf
  have hl := lv_entry ([.ref (ad a0)]) (n := 1) (Nat.le_of_ble_eq_true rfl)
  rw [lg_entry_eq]
  generalize (lg_sl ([.ref (ad a0)]) ++ List.replicate (1 - (lg_sl ([.ref (ad a0)])).length) Slot.unset).toArray = ls at hl ⊢
  have hl : lv_has ls 1 [(0, .ref (ad a0))] := hl
  unfold f_X13_step at h
  refine lv_aload_n hx hb dX13_step_0 rfl (lv_at hl 0 rfl) ?_
  refine lv_iconst (v := 0) hx hb dX13_step_1 rfl ?_
  refine r_putI (T := TX13) (ty := .int) (v := 0) hx hb hts in13 tyX13 tyX13_ok nmX13 hown hK hP hD hT hS k0 (by decide) rfl 0 (by decide) (hts (.fieldLink RX13 30 "StoneWalkModel" "thrown" "I") (List.mem_of_getElem? (i := 1) (by decide +kernel))) rfl rfl (tyX13_ok 0 (by decide)) rfl rfl rfl dX13_step_2 (fun H locs hP hD hT hS => ?_)
  generalize pI M a0 0 0 = Mg1 at h hP hD hT ⊢
  refine lv_aload_n hx hb dX13_step_5 rfl (lv_at hl 0 rfl) ?_
  refine r_get (T := TX13) (v := .int (gI Mg1 a0 17)) hx hb hts in13 hown hK hP k0 (by decide) rfl 17 (by decide) (hts (.fieldLink RX13 17 "StoneWalkModel" "moved" "I") (List.mem_of_getElem? (i := 2) (by decide +kernel))) rfl (t := 0) rfl rfl dX13_step_6 ?_
  refine lv_iconst (v := (-1)) hx hb dX13_step_9 rfl ?_
  refine lv_icmp_ne (tgt := 20) hx hb dX13_step_10 rfl (fun c1 => ?_) (fun c1 => ?_)
  · replace h := ite_f c1 h
    refine lv_aload_n hx hb dX13_step_20 rfl (lv_at hl 0 rfl) ?_
    refine r_get (T := TX13) (v := .int (gI Mg1 a0 21)) hx hb hts in13 hown hK hP k0 (by decide) rfl 21 (by decide) (hts (.fieldLink RX13 500 "StoneWalkModel" "told" "I") (List.mem_of_getElem? (i := 3) (by decide +kernel))) rfl (t := 0) rfl rfl dX13_step_21 ?_
    refine lv_iconst (v := 1) hx hb dX13_step_24 rfl ?_
    refine lv_icmp_eq (tgt := 34) hx hb dX13_step_25 rfl (fun c2 => ?_) (fun c2 => ?_)
    · replace h := ite_t c2 h
      refine lv_aload_n hx hb dX13_step_34 rfl (lv_at hl 0 rfl) ?_
      refine lv_aload_n hx hb dX13_step_35 rfl (lv_at hl 0 rfl) ?_
      obtain ⟨z3, h3, h⟩ := ob_some h
      refine k_i (va_runV (As := []) (rest := [.ref (ad a0)]) ⟨hx, hb, hml, hown, hts⟩ (c_X13_steps (l := l) Mg1 a0 k0 h3) (cwV 0 hts gX13_step_X13_steps rfl rfl rfl hdV_X13_steps ⟨Nat.le_of_ble_eq_true rfl, Nat.le_of_ble_eq_true rfl⟩) (pV (T := TX13) hP hK hD hT hG hS k0 (by decide) rfl) rfl rfl hl.1 rfl (lv_room (Nat.le_of_ble_eq_true rfl)) dX13_step_36 ⟨Nat.zero_le _, Nat.zero_le _⟩) hS (fun H locs hP hD hT hS => ?_)
      refine r_putI (T := TX13) (ty := .int) (v := z3.1) hx hb hts in13 tyX13 tyX13_ok nmX13 hown hK hP hD hT hS k0 (by decide) rfl 21 (by decide) (hts (.fieldLink RX13 500 "StoneWalkModel" "told" "I") (List.mem_of_getElem? (i := 3) (by decide +kernel))) rfl rfl (tyX13_ok 21 (by decide)) rfl rfl rfl dX13_step_39 (fun H locs hP hD hT hS => ?_)
      generalize pI z3.2 a0 21 z3.1 = Mg2 at h hP hD hT ⊢
      refine lv_aload_n hx hb dX13_step_42 rfl (lv_at hl 0 rfl) ?_
      refine lv_aload_n hx hb dX13_step_43 rfl (lv_at hl 0 rfl) ?_
      refine r_get (T := TX13) (v := .int (gI Mg2 a0 21)) hx hb hts in13 hown hK hP k0 (by decide) rfl 21 (by decide) (hts (.fieldLink RX13 500 "StoneWalkModel" "told" "I") (List.mem_of_getElem? (i := 3) (by decide +kernel))) rfl (t := 0) rfl rfl dX13_step_44 ?_
      obtain ⟨z4, h4, h⟩ := ob_some h
      refine k_i (va_runV (As := [.int (gI Mg2 a0 21)]) (rest := []) ⟨hx, hb, hml, hown, hts⟩ (c_X13_done (l := l) Mg2 a0 (gI Mg2 a0 21) k0 h4) (cwV 1 hts gX13_step_X13_done rfl rfl rfl hdV_X13_done ⟨Nat.le_of_ble_eq_true rfl, Nat.le_of_ble_eq_true rfl⟩) (pV (T := TX13) hP hK hD hT hG hS k0 (by decide) rfl) rfl rfl hl.1 rfl (lv_room (Nat.le_of_ble_eq_true rfl)) dX13_step_47 ⟨Nat.zero_le _, Nat.zero_le _⟩) hS (fun H locs hP hD hT hS => ?_)
      have hZ := Option.some.inj h
      have hZ1 := congrArg Prod.fst hZ
      have hZ2 := congrArg Prod.snd hZ
      exact r_iret hx hb hr hlocks hP hK hD hT hG hS hZ1 hZ2 dX13_step_50
    · replace h := ite_f c2 h
      refine lv_aload_n hx hb dX13_step_28 rfl (lv_at hl 0 rfl) ?_
      refine lv_iconst (v := 5) hx hb dX13_step_29 rfl ?_
      obtain ⟨z5, h5, h⟩ := ob_some h
      refine k_i (va_runV (As := [.int 5]) (rest := []) ⟨hx, hb, hml, hown, hts⟩ (c_X13_refused (l := l) Mg1 a0 5 k0 h5) (cwV 1 hts gX13_step_X13_refused rfl rfl rfl hdV_X13_refused ⟨Nat.le_of_ble_eq_true rfl, Nat.le_of_ble_eq_true rfl⟩) (pV (T := TX13) hP hK hD hT hG hS k0 (by decide) rfl) rfl rfl hl.1 rfl (lv_room (Nat.le_of_ble_eq_true rfl)) dX13_step_30 ⟨Nat.zero_le _, Nat.zero_le _⟩) hS (fun H locs hP hD hT hS => ?_)
      have hZ := Option.some.inj h
      have hZ1 := congrArg Prod.fst hZ
      have hZ2 := congrArg Prod.snd hZ
      exact r_iret hx hb hr hlocks hP hK hD hT hG hS hZ1 hZ2 dX13_step_33
  · replace h := ite_t c1 h
    refine lv_aload_n hx hb dX13_step_13 rfl (lv_at hl 0 rfl) ?_
    refine lv_bipush (v := 6) hx hb dX13_step_14 rfl ?_
    obtain ⟨z6, h6, h⟩ := ob_some h
    refine k_i (va_runV (As := [.int 6]) (rest := []) ⟨hx, hb, hml, hown, hts⟩ (c_X13_refused (l := l) Mg1 a0 6 k0 h6) (cwV 1 hts gX13_step_X13_refused rfl rfl rfl hdV_X13_refused ⟨Nat.le_of_ble_eq_true rfl, Nat.le_of_ble_eq_true rfl⟩) (pV (T := TX13) hP hK hD hT hG hS k0 (by decide) rfl) rfl rfl hl.1 rfl (lv_room (Nat.le_of_ble_eq_true rfl)) dX13_step_16 ⟨Nat.zero_le _, Nat.zero_le _⟩) hS (fun H locs hP hD hT hS => ?_)
    have hZ := Option.some.inj h
    have hZ1 := congrArg Prod.fst hZ
    have hZ2 := congrArg Prod.snd hZ
    exact r_iret hx hb hr hlocks hP hK hD hT hG hS hZ1 hZ2 dX13_step_19
set_option maxHeartbeats 4000000 in
set_option maxRecDepth 100000 in
theorem c_X13_call {l : Launch} {D : va_G} {ad : Nat → Nat} {cy : Nat → ClassId} {A : Nat → Prop} {g : CG} {q : SE} (M : MM) (a0 : Nat) (x1 : Int32) (k0 : ok g a0 13 0) {Z : (Int32 × MM)} (h : f_X13_call M a0 x1 = some Z) : Met l yX13_call wsX13_call ({ frames := 2, cells := 0, slots := 0, locals := 42 }) (va_Pc [.ref (ad a0), .int x1] (Wd D ad cy A g q M)) (va_Qi (fun r u => r = Z.1 ∧ u = Z.2 ∧ zb r) (Wd D ad cy A g q) A) 0 0 A := by
  refine Met.ofW (cc := cX13_call) (maxL := 2) (ret := (some .boolean)) (by decide) rfl ?_
  intro p e s m args below meth c s₁ B hml hv
  obtain ⟨rfl, hP, hK, hD, hT, hG⟩ := hv
  have hx := B.exec
  have hb := B.bytes
  have hr := B.returns
  have hts := atoms_spec (ws := wsX13_call) B.pre
  have hown : s.vm.findClass RX13 = some m.cls := findClass_of_methodNamed B.named
  have hlocks := B.notSynchronized
  have in13 : ∀ w ∈ u_ws RX13 TX13 29, w ∈ wsX13_call := fun w h => List.mem_cons_of_mem _ (List.mem_append_right _ h)
  have hS : va_S A s.heap s.heap [] := va_S.rf
  have hl := lv_entry ([.ref (ad a0), .int x1]) (n := 2) (Nat.le_of_ble_eq_true rfl)
  rw [lg_entry_eq]
  generalize (lg_sl ([.ref (ad a0), .int x1]) ++ List.replicate (2 - (lg_sl ([.ref (ad a0), .int x1])).length) Slot.unset).toArray = ls at hl ⊢
  have hl : lv_has ls 2 [(0, .ref (ad a0)), (1, .int x1)] := hl
  unfold f_X13_call at h
  refine lv_aload_n hx hb dX13_call_0 rfl (lv_at hl 0 rfl) ?_
  refine lv_iconst (v := 0) hx hb dX13_call_1 rfl ?_
  refine r_putI (T := TX13) (ty := .int) (v := 0) hx hb hts in13 tyX13 tyX13_ok nmX13 hown hK hP hD hT hS k0 (by decide) rfl 0 (by decide) (hts (.fieldLink RX13 30 "StoneWalkModel" "thrown" "I") (List.mem_of_getElem? (i := 1) (by decide +kernel))) rfl rfl (tyX13_ok 0 (by decide)) rfl rfl rfl dX13_call_2 (fun H locs hP hD hT hS => ?_)
  generalize pI M a0 0 0 = Mg1 at h hP hD hT ⊢
  refine lv_aload_n hx hb dX13_call_5 rfl (lv_at hl 0 rfl) ?_
  refine r_get (T := TX13) (v := .int (gI Mg1 a0 17)) hx hb hts in13 hown hK hP k0 (by decide) rfl 17 (by decide) (hts (.fieldLink RX13 17 "StoneWalkModel" "moved" "I") (List.mem_of_getElem? (i := 2) (by decide +kernel))) rfl (t := 0) rfl rfl dX13_call_6 ?_
  refine lv_iconst (v := (-1)) hx hb dX13_call_9 rfl ?_
  refine lv_icmp_ne (tgt := 20) hx hb dX13_call_10 rfl (fun c1 => ?_) (fun c1 => ?_)
  · replace h := ite_f c1 h
    refine lv_iload_n hx hb dX13_call_20 rfl (lv_at hl 1 rfl) ?_
    refine lv_iconst (v := 1) hx hb dX13_call_21 rfl ?_
    refine lv_sipush (v := 200) hx hb dX13_call_22 rfl ?_
    obtain ⟨z2, h2, h⟩ := ob_some h
    refine k_z (va_runS (As := [.int x1, .int 1, .int 200]) (rest := []) ⟨hx, hb, hml, hown, hts⟩ (c_X13_in (l := l) Mg1 x1 1 200 h2) (va_cwS 3 hts gX13_call_X13_in rfl rfl rfl hdS_X13_in ⟨Nat.le_of_ble_eq_true rfl, Nat.le_of_ble_eq_true rfl⟩) (pS hP hK hD hT hG hS) rfl rfl hl.1 rfl (lv_room (Nat.le_of_ble_eq_true rfl)) dX13_call_25 ⟨Nat.zero_le _, Nat.zero_le _⟩) hS (fun H locs hz2 hP hD hT hS => ?_)
    refine lv_if_ne (tgt := 37) hx hb dX13_call_28 rfl (fun c3 => ?_) (fun c3 => ?_)
    · replace h := ite_f c3 h
      refine lv_aload_n hx hb dX13_call_37 rfl (lv_at hl 0 rfl) ?_
      refine r_get (T := TX13) (v := .int (gI Mg1 a0 21)) hx hb hts in13 hown hK hP k0 (by decide) rfl 21 (by decide) (hts (.fieldLink RX13 500 "StoneWalkModel" "told" "I") (List.mem_of_getElem? (i := 3) (by decide +kernel))) rfl (t := 0) rfl rfl dX13_call_38 ?_
      refine lv_iconst (v := 1) hx hb dX13_call_41 rfl ?_
      refine lv_icmp_eq (tgt := 59) hx hb dX13_call_42 rfl (fun c4 => ?_) (fun c4 => ?_)
      · replace h := ite_t c4 h
        refine lv_aload_n hx hb dX13_call_59 rfl (lv_at hl 0 rfl) ?_
        refine lv_iload_n hx hb dX13_call_60 rfl (lv_at hl 1 rfl) ?_
        refine r_putI (T := TX13) (ty := .int) (v := x1) hx hb hts in13 tyX13 tyX13_ok nmX13 hown hK hP hD hT hS k0 (by decide) rfl 20 (by decide) (hts (.fieldLink RX13 496 "StoneWalkModel" "people" "I") (List.mem_of_getElem? (i := 4) (by decide +kernel))) rfl rfl (tyX13_ok 20 (by decide)) rfl rfl rfl dX13_call_61 (fun H locs hP hD hT hS => ?_)
        generalize pI Mg1 a0 20 x1 = Mg2 at h hP hD hT ⊢
        refine lv_aload_n hx hb dX13_call_64 rfl (lv_at hl 0 rfl) ?_
        refine lv_iconst (v := 1) hx hb dX13_call_65 rfl ?_
        refine r_putI (T := TX13) (ty := .int) (v := 1) hx hb hts in13 tyX13 tyX13_ok nmX13 hown hK hP hD hT hS k0 (by decide) rfl 21 (by decide) (hts (.fieldLink RX13 500 "StoneWalkModel" "told" "I") (List.mem_of_getElem? (i := 3) (by decide +kernel))) rfl rfl (tyX13_ok 21 (by decide)) rfl rfl rfl dX13_call_66 (fun H locs hP hD hT hS => ?_)
        generalize pI Mg2 a0 21 1 = Mg3 at h hP hD hT ⊢
        refine lv_aload_n hx hb dX13_call_69 rfl (lv_at hl 0 rfl) ?_
        obtain ⟨z5, h5, h⟩ := ob_some h
        refine k_z (va_runV (As := []) (rest := []) ⟨hx, hb, hml, hown, hts⟩ (c_X13_granted (l := l) Mg3 a0 k0 h5) (cwV 0 hts gX13_call_X13_granted rfl rfl rfl hdV_X13_granted ⟨Nat.le_of_ble_eq_true rfl, Nat.le_of_ble_eq_true rfl⟩) (pV (T := TX13) hP hK hD hT hG hS k0 (by decide) rfl) rfl rfl hl.1 rfl (lv_room (Nat.le_of_ble_eq_true rfl)) dX13_call_70 ⟨Nat.zero_le _, Nat.zero_le _⟩) hS (fun H locs hz5 hP hD hT hS => ?_)
        have hZ := Option.some.inj h
        have hZ1 := congrArg Prod.fst hZ
        have hZ2 := congrArg Prod.snd hZ
        exact r_zret hx hb hr hlocks hP hK hD hT hG hS hz5 hZ1 hZ2 dX13_call_73
      · replace h := ite_f c4 h
        refine lv_aload_n hx hb dX13_call_45 rfl (lv_at hl 0 rfl) ?_
        refine r_get (T := TX13) (v := .int (gI Mg1 a0 21)) hx hb hts in13 hown hK hP k0 (by decide) rfl 21 (by decide) (hts (.fieldLink RX13 500 "StoneWalkModel" "told" "I") (List.mem_of_getElem? (i := 3) (by decide +kernel))) rfl (t := 0) rfl rfl dX13_call_46 ?_
        refine lv_iconst (v := 5) hx hb dX13_call_49 rfl ?_
        refine lv_icmp_eq (tgt := 59) hx hb dX13_call_50 rfl (fun c6 => ?_) (fun c6 => ?_)
        · replace h := ite_t c6 h
          refine lv_aload_n hx hb dX13_call_59 rfl (lv_at hl 0 rfl) ?_
          refine lv_iload_n hx hb dX13_call_60 rfl (lv_at hl 1 rfl) ?_
          refine r_putI (T := TX13) (ty := .int) (v := x1) hx hb hts in13 tyX13 tyX13_ok nmX13 hown hK hP hD hT hS k0 (by decide) rfl 20 (by decide) (hts (.fieldLink RX13 496 "StoneWalkModel" "people" "I") (List.mem_of_getElem? (i := 4) (by decide +kernel))) rfl rfl (tyX13_ok 20 (by decide)) rfl rfl rfl dX13_call_61 (fun H locs hP hD hT hS => ?_)
          generalize pI Mg1 a0 20 x1 = Mg4 at h hP hD hT ⊢
          refine lv_aload_n hx hb dX13_call_64 rfl (lv_at hl 0 rfl) ?_
          refine lv_iconst (v := 1) hx hb dX13_call_65 rfl ?_
          refine r_putI (T := TX13) (ty := .int) (v := 1) hx hb hts in13 tyX13 tyX13_ok nmX13 hown hK hP hD hT hS k0 (by decide) rfl 21 (by decide) (hts (.fieldLink RX13 500 "StoneWalkModel" "told" "I") (List.mem_of_getElem? (i := 3) (by decide +kernel))) rfl rfl (tyX13_ok 21 (by decide)) rfl rfl rfl dX13_call_66 (fun H locs hP hD hT hS => ?_)
          generalize pI Mg4 a0 21 1 = Mg5 at h hP hD hT ⊢
          refine lv_aload_n hx hb dX13_call_69 rfl (lv_at hl 0 rfl) ?_
          obtain ⟨z7, h7, h⟩ := ob_some h
          refine k_z (va_runV (As := []) (rest := []) ⟨hx, hb, hml, hown, hts⟩ (c_X13_granted (l := l) Mg5 a0 k0 h7) (cwV 0 hts gX13_call_X13_granted rfl rfl rfl hdV_X13_granted ⟨Nat.le_of_ble_eq_true rfl, Nat.le_of_ble_eq_true rfl⟩) (pV (T := TX13) hP hK hD hT hG hS k0 (by decide) rfl) rfl rfl hl.1 rfl (lv_room (Nat.le_of_ble_eq_true rfl)) dX13_call_70 ⟨Nat.zero_le _, Nat.zero_le _⟩) hS (fun H locs hz7 hP hD hT hS => ?_)
          have hZ := Option.some.inj h
          have hZ1 := congrArg Prod.fst hZ
          have hZ2 := congrArg Prod.snd hZ
          exact r_zret hx hb hr hlocks hP hK hD hT hG hS hz7 hZ1 hZ2 dX13_call_73
        · replace h := ite_f c6 h
          refine lv_aload_n hx hb dX13_call_53 rfl (lv_at hl 0 rfl) ?_
          refine lv_iconst (v := 5) hx hb dX13_call_54 rfl ?_
          obtain ⟨z8, h8, h⟩ := ob_some h
          refine k_z (va_runV (As := [.int 5]) (rest := []) ⟨hx, hb, hml, hown, hts⟩ (c_X13_denied (l := l) Mg1 a0 5 k0 h8) (cwV 1 hts gX13_call_X13_denied rfl rfl rfl hdV_X13_denied ⟨Nat.le_of_ble_eq_true rfl, Nat.le_of_ble_eq_true rfl⟩) (pV (T := TX13) hP hK hD hT hG hS k0 (by decide) rfl) rfl rfl hl.1 rfl (lv_room (Nat.le_of_ble_eq_true rfl)) dX13_call_55 ⟨Nat.zero_le _, Nat.zero_le _⟩) hS (fun H locs hz8 hP hD hT hS => ?_)
          have hZ := Option.some.inj h
          have hZ1 := congrArg Prod.fst hZ
          have hZ2 := congrArg Prod.snd hZ
          exact r_zret hx hb hr hlocks hP hK hD hT hG hS hz8 hZ1 hZ2 dX13_call_58
    · replace h := ite_t c3 h
      refine lv_aload_n hx hb dX13_call_31 rfl (lv_at hl 0 rfl) ?_
      refine lv_iconst (v := 2) hx hb dX13_call_32 rfl ?_
      obtain ⟨z9, h9, h⟩ := ob_some h
      refine k_z (va_runV (As := [.int 2]) (rest := []) ⟨hx, hb, hml, hown, hts⟩ (c_X13_denied (l := l) Mg1 a0 2 k0 h9) (cwV 1 hts gX13_call_X13_denied rfl rfl rfl hdV_X13_denied ⟨Nat.le_of_ble_eq_true rfl, Nat.le_of_ble_eq_true rfl⟩) (pV (T := TX13) hP hK hD hT hG hS k0 (by decide) rfl) rfl rfl hl.1 rfl (lv_room (Nat.le_of_ble_eq_true rfl)) dX13_call_33 ⟨Nat.zero_le _, Nat.zero_le _⟩) hS (fun H locs hz9 hP hD hT hS => ?_)
      have hZ := Option.some.inj h
      have hZ1 := congrArg Prod.fst hZ
      have hZ2 := congrArg Prod.snd hZ
      exact r_zret hx hb hr hlocks hP hK hD hT hG hS hz9 hZ1 hZ2 dX13_call_36
  · replace h := ite_t c1 h
    refine lv_aload_n hx hb dX13_call_13 rfl (lv_at hl 0 rfl) ?_
    refine lv_bipush (v := 6) hx hb dX13_call_14 rfl ?_
    obtain ⟨z10, h10, h⟩ := ob_some h
    refine k_z (va_runV (As := [.int 6]) (rest := []) ⟨hx, hb, hml, hown, hts⟩ (c_X13_denied (l := l) Mg1 a0 6 k0 h10) (cwV 1 hts gX13_call_X13_denied rfl rfl rfl hdV_X13_denied ⟨Nat.le_of_ble_eq_true rfl, Nat.le_of_ble_eq_true rfl⟩) (pV (T := TX13) hP hK hD hT hG hS k0 (by decide) rfl) rfl rfl hl.1 rfl (lv_room (Nat.le_of_ble_eq_true rfl)) dX13_call_16 ⟨Nat.zero_le _, Nat.zero_le _⟩) hS (fun H locs hz10 hP hD hT hS => ?_)
    have hZ := Option.some.inj h
    have hZ1 := congrArg Prod.fst hZ
    have hZ2 := congrArg Prod.snd hZ
    exact r_zret hx hb hr hlocks hP hK hD hT hG hS hz10 hZ1 hZ2 dX13_call_19
set_option maxHeartbeats 4000000 in
set_option maxRecDepth 100000 in
theorem c_X13_woodOf {l : Launch} {D : va_G} {ad : Nat → Nat} {cy : Nat → ClassId} {A : Nat → Prop} {g : CG} {q : SE} (M : MM) (a0 : Nat) (x1 : Int32) (x2 : Int32) (k0 : ok g a0 13 0) {Z : Int32} (h : f_X13_woodOf M a0 x1 x2 = some Z) : Met l yX13_woodOf wsX13_woodOf ({ frames := 0, cells := 0, slots := 0, locals := 0 }) (va_Pc [.ref (ad a0), .int x1, .int x2] (Wd D ad cy A g q M)) (va_Qi (fun r u => r = Z ∧ u = M) (Wd D ad cy A g q) A) 0 0 A := by
  refine Met.ofW (cc := cX13_woodOf) (maxL := 4) (ret := (some .int)) (by decide) rfl ?_
  intro p e s m args below meth c s₁ B hml hv
  obtain ⟨rfl, hP, hK, hD, hT, hG⟩ := hv
  have hx := B.exec
  have hb := B.bytes
  have hr := B.returns
  have hts := atoms_spec (ws := wsX13_woodOf) B.pre
  have hown : s.vm.findClass RX13 = some m.cls := findClass_of_methodNamed B.named
  have hlocks := B.notSynchronized
  have in12 : ∀ w ∈ u_ws RX12 TX12 48, w ∈ wsX13_woodOf := fun w h => List.mem_cons_of_mem _ (List.mem_append_right _ h)
  have in13 : ∀ w ∈ u_ws RX13 TX13 29, w ∈ wsX13_woodOf := fun w h => List.mem_cons_of_mem _ (List.mem_append_left _ (List.mem_append_right _ h))
  have hS : va_S A s.heap s.heap [] := va_S.rf
  have hl := lv_entry ([.ref (ad a0), .int x1, .int x2]) (n := 4) (Nat.le_of_ble_eq_true rfl)
  rw [lg_entry_eq]
  generalize (lg_sl ([.ref (ad a0), .int x1, .int x2]) ++ List.replicate (4 - (lg_sl ([.ref (ad a0), .int x1, .int x2])).length) Slot.unset).toArray = ls at hl ⊢
  have hl : lv_has ls 4 [(0, .ref (ad a0)), (1, .int x1), (2, .int x2)] := hl
  unfold f_X13_woodOf at h
  refine lv_aload_n hx hb dX13_woodOf_0 rfl (lv_at hl 0 rfl) ?_
  rcases hN1 : gR M a0 3 with _ | b1
  · replace h := oc_n hN1 h
    refine r_get (T := TX13) (v := .null) hx hb hts in13 hown hK hP k0 (by decide) rfl 3 (by decide) (hts (.fieldLink RX13 431 "StoneWalkModel" "island" "LStoneWalkModel$Island;") (List.mem_of_getElem? (i := 1) (by decide +kernel))) rfl (t := 2) rfl (by show va_rf _ = _; rw [hN1]; rfl) dX13_woodOf_1 ?_
    exact absurd h (by simp)
  · replace h := oc_s hN1 h
    have kb1 := hT.f k0 (k := 3) (t := 12) (n := 0) rfl hN1
    refine r_get (T := TX13) (v := .ref (ad b1)) hx hb hts in13 hown hK hP k0 (by decide) rfl 3 (by decide) (hts (.fieldLink RX13 431 "StoneWalkModel" "island" "LStoneWalkModel$Island;") (List.mem_of_getElem? (i := 1) (by decide +kernel))) rfl (t := 2) rfl (by show va_rf _ = _; rw [hN1]; rfl) dX13_woodOf_1 ?_
    rcases hN2 : gR M b1 9 with _ | b2
    · exact absurd (oc_n hN2 h) (by simp)
    replace h := oc_s hN2 h
    have kb2 := hT.f kb1 (k := 9) (t := 15) (n := 4) rfl hN2
    refine r_getN (T := TX12) (v := .ref (ad b2)) hx hb hts in12 hown hK hP kb1 (by decide) rfl 9 (by decide) (hG.2.2.1 ("StoneWalkModel", 247, "StoneWalkModel$Island", "kind", "[I", "StoneWalkModel") (List.mem_of_getElem? (i := 8) rfl)) rfl (t := 2) rfl (by show va_rf _ = _; rw [hN2]; rfl) dX13_woodOf_4 ?_
    refine lv_iload_n hx hb dX13_woodOf_7 rfl (lv_at hl 1 rfl) ?_
    obtain ⟨hn3, h⟩ := chk_some h
    refine r_iald hx hb hK hP kb2 hn3 dX13_woodOf_8 ?_
    refine lv_istore_n (lv' := [(3, .int (gI M b2 (ix x1))), (0, .ref (ad a0)), (1, .int x1), (2, .int x2)]) hx hb dX13_woodOf_9 rfl hl (by decide) rfl (fun ls hl => ?_)
    refine lv_iload_n hx hb dX13_woodOf_10 rfl (lv_at hl 3 rfl) ?_
    refine lv_iload_n hx hb dX13_woodOf_11 rfl (lv_at hl 0 rfl) ?_
    refine lv_iconst (v := 1) hx hb dX13_woodOf_12 rfl ?_
    refine lv_icmp_ne (tgt := 20) hx hb dX13_woodOf_13 rfl (fun c4 => ?_) (fun c4 => ?_)
    · replace h := ite_f c4 h
      refine lv_iload_n hx hb dX13_woodOf_20 rfl (lv_at hl 0 rfl) ?_
      refine lv_iconst (v := 2) hx hb dX13_woodOf_21 rfl ?_
      refine lv_icmp_ne (tgt := 29) hx hb dX13_woodOf_22 rfl (fun c5 => ?_) (fun c5 => ?_)
      · replace h := ite_f c5 h
        refine lv_iload_n hx hb dX13_woodOf_29 rfl (lv_at hl 0 rfl) ?_
        refine lv_iconst (v := 3) hx hb dX13_woodOf_30 rfl ?_
        refine lv_icmp_ne (tgt := 38) hx hb dX13_woodOf_31 rfl (fun c6 => ?_) (fun c6 => ?_)
        · replace h := ite_f c6 h
          refine lv_iconst (v := 0) hx hb dX13_woodOf_38 rfl ?_
          refine lv_imul hx hb dX13_woodOf_39 ?_
          exact r_iret hx hb hr hlocks hP hK hD hT hG hS (Option.some.inj h) rfl dX13_woodOf_40
        · replace h := ite_t c6 h
          refine lv_iconst (v := 1) hx hb dX13_woodOf_34 rfl ?_
          refine lv_goto (tgt := 39) hx hb dX13_woodOf_35 rfl ?_
          refine lv_imul hx hb dX13_woodOf_39 ?_
          exact r_iret hx hb hr hlocks hP hK hD hT hG hS (Option.some.inj h) rfl dX13_woodOf_40
      · replace h := ite_t c5 h
        refine lv_iconst (v := 4) hx hb dX13_woodOf_25 rfl ?_
        refine lv_goto (tgt := 39) hx hb dX13_woodOf_26 rfl ?_
        refine lv_imul hx hb dX13_woodOf_39 ?_
        exact r_iret hx hb hr hlocks hP hK hD hT hG hS (Option.some.inj h) rfl dX13_woodOf_40
    · replace h := ite_t c4 h
      refine lv_iconst (v := 2) hx hb dX13_woodOf_16 rfl ?_
      refine lv_goto (tgt := 39) hx hb dX13_woodOf_17 rfl ?_
      refine lv_imul hx hb dX13_woodOf_39 ?_
      exact r_iret hx hb hr hlocks hP hK hD hT hG hS (Option.some.inj h) rfl dX13_woodOf_40
