set_option maxHeartbeats 4000000 in
set_option maxRecDepth 100000 in
theorem c_X13_treesIn {l : Launch} {D : va_G} {ad : Nat → Nat} {cy : Nat → ClassId} {A : Nat → Prop} {g : CG} {q : SE} (M : MM) (a0 : Nat) (x1 : Int32) (x2 : Int32) (k0 : ok g a0 13 0) {Z : Int32} (h : f_X13_treesIn M a0 x1 x2 = some Z) : Met l yX13_treesIn wsX13_treesIn ({ frames := 1, cells := 0, slots := 0, locals := 28 }) (va_Pc [.ref (ad a0), .int x1, .int x2] (Wd D ad cy A g q M)) (va_Qi (fun r u => r = Z ∧ u = M) (Wd D ad cy A g q) A) 0 0 A := by
  refine Met.ofW (cc := cX13_treesIn) (maxL := 5) (ret := (some .int)) (by decide) rfl ?_
  intro p e s m args below meth c s₁ B hml hv
  obtain ⟨rfl, hP, hK, hD, hT, hG⟩ := hv
  have hx := B.exec
  have hb := B.bytes
  have hr := B.returns
  have hts := atoms_spec (ws := wsX13_treesIn) B.pre
  have hown : s.vm.findClass RX13 = some m.cls := findClass_of_methodNamed B.named
  have hlocks := B.notSynchronized
  have in12 : ∀ w ∈ u_ws RX12 TX12 48, w ∈ wsX13_treesIn := fun w h => List.mem_cons_of_mem _ (List.mem_append_right _ h)
  have in13 : ∀ w ∈ u_ws RX13 TX13 29, w ∈ wsX13_treesIn := fun w h => List.mem_cons_of_mem _ (List.mem_append_left _ (List.mem_append_right _ h))
  have hS : va_S A s.heap s.heap [] := va_S.rf
  have hl := lv_entry ([.ref (ad a0), .int x1, .int x2]) (n := 5) (Nat.le_of_ble_eq_true rfl)
  rw [lg_entry_eq]
  generalize (lg_sl ([.ref (ad a0), .int x1, .int x2]) ++ List.replicate (5 - (lg_sl ([.ref (ad a0), .int x1, .int x2])).length) Slot.unset).toArray = ls at hl ⊢
  have hl : lv_has ls 5 [(0, .ref (ad a0)), (1, .int x1), (2, .int x2)] := hl
  unfold f_X13_treesIn at h
  refine lv_aload_n hx hb dX13_treesIn_0 rfl (lv_at hl 0 rfl) ?_
  rcases hN1 : gR M a0 3 with _ | b1
  · replace h := oc_n hN1 h
    refine r_get (T := TX13) (v := .null) hx hb hts in13 hown hK hP k0 (by decide) rfl 3 (by decide) (hts (.fieldLink RX13 431 "StoneWalkModel" "island" "LStoneWalkModel$Island;") (List.mem_of_getElem? (i := 1) (by decide +kernel))) rfl (t := 2) rfl (by show va_rf _ = _; rw [hN1]; rfl) dX13_treesIn_1 ?_
    exact absurd h (by simp)
  · replace h := oc_s hN1 h
    have kb1 := hT.f k0 (k := 3) (t := 12) (n := 0) rfl hN1
    refine r_get (T := TX13) (v := .ref (ad b1)) hx hb hts in13 hown hK hP k0 (by decide) rfl 3 (by decide) (hts (.fieldLink RX13 431 "StoneWalkModel" "island" "LStoneWalkModel$Island;") (List.mem_of_getElem? (i := 1) (by decide +kernel))) rfl (t := 2) rfl (by show va_rf _ = _; rw [hN1]; rfl) dX13_treesIn_1 ?_
    refine r_getN (T := TX12) (v := .int (gI M b1 27)) hx hb hts in12 hown hK hP kb1 (by decide) rfl 27 (by decide) (hG.2.2.1 ("StoneWalkModel", 343, "StoneWalkModel$Island", "trees", "I", "StoneWalkModel") (List.mem_of_getElem? (i := 28) rfl)) rfl (t := 0) rfl rfl dX13_treesIn_4 ?_
    refine lv_istore_n (lv' := [(3, .int (gI M b1 27)), (0, .ref (ad a0)), (1, .int x1), (2, .int x2)]) hx hb dX13_treesIn_7 rfl hl (by decide) rfl (fun ls hl => ?_)
    refine lv_iconst (v := 1) hx hb dX13_treesIn_8 rfl ?_
    refine lv_istore (lv' := [(4, .int 1), (3, .int (gI M b1 27)), (0, .ref (ad a0)), (1, .int x1), (2, .int x2)]) hx hb dX13_treesIn_9 hl (by decide) rfl (fun ls hl => ?_)
    have L2 : ∀ n2 : Nat, ∀ (y2_0 : Nat) (y2_1 : Int32) (y2_2 : Int32) (y2_3 : Int32) (y2_4 : Int32) (ky2_0 : ok g y2_0 13 0) (H : Heap) (locs : List Loc), f_X13_treesIn_L11 n2 M y2_0 y2_1 y2_2 y2_3 y2_4 = some Z → va_P D vwCl (wd ad cy g M) H → va_D A (wd ad cy g M) → WT g M → va_S A s.heap H locs → ∀ (ls : Array Slot), lv_has ls 5 [(0, .ref (ad y2_0)), (1, .int y2_1), (2, .int y2_2), (3, .int y2_3), (4, .int y2_4)] → W p l e ((headSpec wsX13_treesIn ({ frames := 1, cells := 0, slots := 0, locals := 28 })).room) s m (([.ref (ad a0), .int x1, .int x2] : List Value).toArray) below meth c H locs 0 0 (MQ below (va_Qi (fun r u => r = Z ∧ u = M) (Wd D ad cy A g q) A) ([.ref (ad a0), .int x1, .int x2]).toArray s 0 0 A) (F0 m 11 ls []) := by
      intro n2
      induction n2 with
      | zero => intro y2_0 y2_1 y2_2 y2_3 y2_4 ky2_0 H locs h; exact absurd h (by simp [f_X13_treesIn_L11])
      | succ n2 ih2 =>
        intro y2_0 y2_1 y2_2 y2_3 y2_4 ky2_0 H locs h hP hD hT hS ls hl
        rw [f_X13_treesIn_L11] at h
        refine lv_iload hx hb dX13_treesIn_11 (lv_at hl 4 rfl) ?_
        refine lv_iload_n hx hb dX13_treesIn_13 rfl (lv_at hl 2 rfl) ?_
        refine lv_icmp_gt (tgt := 32) hx hb dX13_treesIn_14 rfl (fun c3 => ?_) (fun c3 => ?_)
        · replace h := ite_t c3 h
          refine lv_iload_n hx hb dX13_treesIn_32 rfl (lv_at hl 3 rfl) ?_
          exact r_iret hx hb hr hlocks hP hK hD hT hG hS (Option.some.inj h) rfl dX13_treesIn_33
        · replace h := ite_f c3 h
          refine lv_aload_n hx hb dX13_treesIn_17 rfl (lv_at hl 0 rfl) ?_
          refine lv_iload_n hx hb dX13_treesIn_18 rfl (lv_at hl 1 rfl) ?_
          refine lv_iload_n hx hb dX13_treesIn_19 rfl (lv_at hl 3 rfl) ?_
          refine lv_iload hx hb dX13_treesIn_20 (lv_at hl 4 rfl) ?_
          obtain ⟨z4, h4, h⟩ := ob_some h
          refine k_i (va_runV (As := [.int y2_1, .int y2_3, .int y2_4]) (rest := []) ⟨hx, hb, hml, hown, hts⟩ (c_X13_treesAfter (l := l) M y2_0 y2_1 y2_3 y2_4 ky2_0 h4) (cwV 3 hts gX13_treesIn_X13_treesAfter rfl rfl rfl hdV_X13_treesAfter ⟨Nat.le_of_ble_eq_true rfl, Nat.le_of_ble_eq_true rfl⟩) (pV (T := TX13) hP hK hD hT hG hS ky2_0 (by decide) rfl) rfl rfl hl.1 rfl (lv_room (Nat.le_of_ble_eq_true rfl)) dX13_treesIn_22 ⟨Nat.zero_le _, Nat.zero_le _⟩) hS (fun H locs hP hD hT hS => ?_)
          refine lv_istore_n (lv' := [(3, .int z4), (0, .ref (ad y2_0)), (1, .int y2_1), (2, .int y2_2), (4, .int y2_4)]) hx hb dX13_treesIn_25 rfl hl (by decide) rfl (fun ls hl => ?_)
          refine lv_iinc (v := y2_4 + 1) (lv' := [(4, .int (y2_4 + 1)), (3, .int z4), (0, .ref (ad y2_0)), (1, .int y2_1), (2, .int y2_2)]) hx hb dX13_treesIn_26 hl (k := 4) rfl rfl (by decide) rfl (fun ls hl => ?_)
          refine lv_goto (tgt := 11) hx hb dX13_treesIn_29 rfl ?_
          exact ih2 y2_0 y2_1 y2_2 z4 (y2_4 + 1) ky2_0 _ _ h hP hD hT hS ls (lv_sub hl [2, 3, 4, 1, 0] rfl)
    exact L2 FU a0 x1 x2 (gI M b1 27) 1 k0 _ _ h hP hD hT hS ls (lv_sub hl [2, 3, 4, 1, 0] rfl)
set_option maxHeartbeats 4000000 in
set_option maxRecDepth 100000 in
theorem c_X13_trees {l : Launch} {D : va_G} {ad : Nat → Nat} {cy : Nat → ClassId} {A : Nat → Prop} {g : CG} {q : SE} (M : MM) (a0 : Nat) (x1 : Int32) (x2 : Int32) (k0 : ok g a0 13 0) {Z : (Int32 × MM)} (h : f_X13_trees M a0 x1 x2 = some Z) : Met l yX13_trees wsX13_trees ({ frames := 2, cells := 0, slots := 0, locals := 52 }) (va_Pc [.ref (ad a0), .int x1, .int x2] (Wd D ad cy A g q M)) (va_Qi (fun r u => r = Z.1 ∧ u = Z.2) (Wd D ad cy A g q) A) 0 0 A := by
  refine Met.ofW (cc := cX13_trees) (maxL := 3) (ret := (some .int)) (by decide) rfl ?_
  intro p e s m args below meth c s₁ B hml hv
  obtain ⟨rfl, hP, hK, hD, hT, hG⟩ := hv
  have hx := B.exec
  have hb := B.bytes
  have hr := B.returns
  have hts := atoms_spec (ws := wsX13_trees) B.pre
  have hown : s.vm.findClass RX13 = some m.cls := findClass_of_methodNamed B.named
  have hlocks := B.notSynchronized
  have in12 : ∀ w ∈ u_ws RX12 TX12 48, w ∈ wsX13_trees := fun w h => List.mem_cons_of_mem _ (List.mem_append_right _ h)
  have in13 : ∀ w ∈ u_ws RX13 TX13 29, w ∈ wsX13_trees := fun w h => List.mem_cons_of_mem _ (List.mem_append_left _ (List.mem_append_right _ h))
  have hS : va_S A s.heap s.heap [] := va_S.rf
  have hl := lv_entry ([.ref (ad a0), .int x1, .int x2]) (n := 3) (Nat.le_of_ble_eq_true rfl)
  rw [lg_entry_eq]
  generalize (lg_sl ([.ref (ad a0), .int x1, .int x2]) ++ List.replicate (3 - (lg_sl ([.ref (ad a0), .int x1, .int x2])).length) Slot.unset).toArray = ls at hl ⊢
  have hl : lv_has ls 3 [(0, .ref (ad a0)), (1, .int x1), (2, .int x2)] := hl
  unfold f_X13_trees at h
  refine lv_aload_n hx hb dX13_trees_0 rfl (lv_at hl 0 rfl) ?_
  refine lv_iconst (v := 0) hx hb dX13_trees_1 rfl ?_
  refine r_putI (T := TX13) (ty := .int) (v := 0) hx hb hts in13 tyX13 tyX13_ok nmX13 hown hK hP hD hT hS k0 (by decide) rfl 0 (by decide) (hts (.fieldLink RX13 30 "StoneWalkModel" "thrown" "I") (List.mem_of_getElem? (i := 1) (by decide +kernel))) rfl rfl (tyX13_ok 0 (by decide)) rfl rfl rfl dX13_trees_2 (fun H locs hP hD hT hS => ?_)
  generalize pI M a0 0 0 = Mg1 at h hP hD hT ⊢
  refine lv_aload_n hx hb dX13_trees_5 rfl (lv_at hl 0 rfl) ?_
  refine lv_iload_n hx hb dX13_trees_6 rfl (lv_at hl 1 rfl) ?_
  obtain ⟨z1, h1, h⟩ := ob_some h
  refine k_z (va_runV (As := [.int x1]) (rest := []) ⟨hx, hb, hml, hown, hts⟩ (c_X13_isStory (l := l) Mg1 a0 x1 k0 h1) (cwV 1 hts gX13_trees_X13_isStory rfl rfl rfl hdV_X13_isStory ⟨Nat.le_of_ble_eq_true rfl, Nat.le_of_ble_eq_true rfl⟩) (pV (T := TX13) hP hK hD hT hG hS k0 (by decide) rfl) rfl rfl hl.1 rfl (lv_room (Nat.le_of_ble_eq_true rfl)) dX13_trees_7 ⟨Nat.zero_le _, Nat.zero_le _⟩) hS (fun H locs hz1 hP hD hT hS => ?_)
  refine lv_if_ne (tgt := 19) hx hb dX13_trees_10 rfl (fun c2 => ?_) (fun c2 => ?_)
  · replace h := ite_f c2 h
    refine lv_iload_n hx hb dX13_trees_19 rfl (lv_at hl 2 rfl) ?_
    refine lv_iconst (v := 0) hx hb dX13_trees_20 rfl ?_
    refine lv_bipush (v := 99) hx hb dX13_trees_21 rfl ?_
    obtain ⟨z3, h3, h⟩ := ob_some h
    refine k_z (va_runS (As := [.int x2, .int 0, .int 99]) (rest := []) ⟨hx, hb, hml, hown, hts⟩ (c_X13_in (l := l) Mg1 x2 0 99 h3) (va_cwS 3 hts gX13_trees_X13_in rfl rfl rfl hdS_X13_in ⟨Nat.le_of_ble_eq_true rfl, Nat.le_of_ble_eq_true rfl⟩) (pS hP hK hD hT hG hS) rfl rfl hl.1 rfl (lv_room (Nat.le_of_ble_eq_true rfl)) dX13_trees_23 ⟨Nat.zero_le _, Nat.zero_le _⟩) hS (fun H locs hz3 hP hD hT hS => ?_)
    refine lv_if_ne (tgt := 35) hx hb dX13_trees_26 rfl (fun c4 => ?_) (fun c4 => ?_)
    · replace h := ite_f c4 h
      refine lv_aload_n hx hb dX13_trees_35 rfl (lv_at hl 0 rfl) ?_
      rcases hN5 : gR Mg1 a0 3 with _ | b5
      · replace h := oc_n hN5 h
        refine r_get (T := TX13) (v := .null) hx hb hts in13 hown hK hP k0 (by decide) rfl 3 (by decide) (hts (.fieldLink RX13 431 "StoneWalkModel" "island" "LStoneWalkModel$Island;") (List.mem_of_getElem? (i := 2) (by decide +kernel))) rfl (t := 2) rfl (by show va_rf _ = _; rw [hN5]; rfl) dX13_trees_36 ?_
        exact absurd h (by simp)
      · replace h := oc_s hN5 h
        have kb5 := hT.f k0 (k := 3) (t := 12) (n := 0) rfl hN5
        refine r_get (T := TX13) (v := .ref (ad b5)) hx hb hts in13 hown hK hP k0 (by decide) rfl 3 (by decide) (hts (.fieldLink RX13 431 "StoneWalkModel" "island" "LStoneWalkModel$Island;") (List.mem_of_getElem? (i := 2) (by decide +kernel))) rfl (t := 2) rfl (by show va_rf _ = _; rw [hN5]; rfl) dX13_trees_36 ?_
        refine r_getN (T := TX12) (v := .int (gI Mg1 b5 27)) hx hb hts in12 hown hK hP kb5 (by decide) rfl 27 (by decide) (hG.2.2.1 ("StoneWalkModel", 343, "StoneWalkModel$Island", "trees", "I", "StoneWalkModel") (List.mem_of_getElem? (i := 28) rfl)) rfl (t := 0) rfl rfl dX13_trees_39 ?_
        refine lv_iconst (v := (-1)) hx hb dX13_trees_42 rfl ?_
        refine lv_icmp_ne (tgt := 55) hx hb dX13_trees_43 rfl (fun c6 => ?_) (fun c6 => ?_)
        · replace h := ite_f c6 h
          refine lv_aload_n hx hb dX13_trees_55 rfl (lv_at hl 0 rfl) ?_
          refine lv_aload_n hx hb dX13_trees_56 rfl (lv_at hl 0 rfl) ?_
          refine lv_iload_n hx hb dX13_trees_57 rfl (lv_at hl 1 rfl) ?_
          refine lv_iload_n hx hb dX13_trees_58 rfl (lv_at hl 2 rfl) ?_
          obtain ⟨z7, h7, h⟩ := ob_some h
          refine k_i (va_runV (As := [.int x1, .int x2]) (rest := [.ref (ad a0)]) ⟨hx, hb, hml, hown, hts⟩ (c_X13_treesIn (l := l) Mg1 a0 x1 x2 k0 h7) (cwV 2 hts gX13_trees_X13_treesIn rfl rfl rfl hdV_X13_treesIn ⟨Nat.le_of_ble_eq_true rfl, Nat.le_of_ble_eq_true rfl⟩) (pV (T := TX13) hP hK hD hT hG hS k0 (by decide) rfl) rfl rfl hl.1 rfl (lv_room (Nat.le_of_ble_eq_true rfl)) dX13_trees_59 ⟨Nat.zero_le _, Nat.zero_le _⟩) hS (fun H locs hP hD hT hS => ?_)
          obtain ⟨z8, h8, h⟩ := ob_some h
          refine k_i (va_runV (As := [.int z7]) (rest := []) ⟨hx, hb, hml, hown, hts⟩ (c_X13_done (l := l) Mg1 a0 z7 k0 h8) (cwV 1 hts gX13_trees_X13_done rfl rfl rfl hdV_X13_done ⟨Nat.le_of_ble_eq_true rfl, Nat.le_of_ble_eq_true rfl⟩) (pV (T := TX13) hP hK hD hT hG hS k0 (by decide) rfl) rfl rfl hl.1 rfl (lv_room (Nat.le_of_ble_eq_true rfl)) dX13_trees_62 ⟨Nat.zero_le _, Nat.zero_le _⟩) hS (fun H locs hP hD hT hS => ?_)
          have hZ := Option.some.inj h
          have hZ1 := congrArg Prod.fst hZ
          have hZ2 := congrArg Prod.snd hZ
          exact r_iret hx hb hr hlocks hP hK hD hT hG hS hZ1 hZ2 dX13_trees_65
        · replace h := ite_t c6 h
          refine lv_aload_n hx hb dX13_trees_46 rfl (lv_at hl 0 rfl) ?_
          refine lv_bipush (v := 6) hx hb dX13_trees_47 rfl ?_
          obtain ⟨z9, h9, h⟩ := ob_some h
          refine k_i (va_runV (As := [.int 6]) (rest := []) ⟨hx, hb, hml, hown, hts⟩ (c_X13_refused (l := l) Mg1 a0 6 k0 h9) (cwV 1 hts gX13_trees_X13_refused rfl rfl rfl hdV_X13_refused ⟨Nat.le_of_ble_eq_true rfl, Nat.le_of_ble_eq_true rfl⟩) (pV (T := TX13) hP hK hD hT hG hS k0 (by decide) rfl) rfl rfl hl.1 rfl (lv_room (Nat.le_of_ble_eq_true rfl)) dX13_trees_49 ⟨Nat.zero_le _, Nat.zero_le _⟩) hS (fun H locs hP hD hT hS => ?_)
          refine lv_goto (tgt := 65) hx hb dX13_trees_52 rfl ?_
          have hZ := Option.some.inj h
          have hZ1 := congrArg Prod.fst hZ
          have hZ2 := congrArg Prod.snd hZ
          exact r_iret hx hb hr hlocks hP hK hD hT hG hS hZ1 hZ2 dX13_trees_65
    · replace h := ite_t c4 h
      refine lv_aload_n hx hb dX13_trees_29 rfl (lv_at hl 0 rfl) ?_
      refine lv_iconst (v := 2) hx hb dX13_trees_30 rfl ?_
      obtain ⟨z10, h10, h⟩ := ob_some h
      refine k_i (va_runV (As := [.int 2]) (rest := []) ⟨hx, hb, hml, hown, hts⟩ (c_X13_refused (l := l) Mg1 a0 2 k0 h10) (cwV 1 hts gX13_trees_X13_refused rfl rfl rfl hdV_X13_refused ⟨Nat.le_of_ble_eq_true rfl, Nat.le_of_ble_eq_true rfl⟩) (pV (T := TX13) hP hK hD hT hG hS k0 (by decide) rfl) rfl rfl hl.1 rfl (lv_room (Nat.le_of_ble_eq_true rfl)) dX13_trees_31 ⟨Nat.zero_le _, Nat.zero_le _⟩) hS (fun H locs hP hD hT hS => ?_)
      have hZ := Option.some.inj h
      have hZ1 := congrArg Prod.fst hZ
      have hZ2 := congrArg Prod.snd hZ
      exact r_iret hx hb hr hlocks hP hK hD hT hG hS hZ1 hZ2 dX13_trees_34
  · replace h := ite_t c2 h
    refine lv_aload_n hx hb dX13_trees_13 rfl (lv_at hl 0 rfl) ?_
    refine lv_iconst (v := 1) hx hb dX13_trees_14 rfl ?_
    obtain ⟨z11, h11, h⟩ := ob_some h
    refine k_i (va_runV (As := [.int 1]) (rest := []) ⟨hx, hb, hml, hown, hts⟩ (c_X13_refused (l := l) Mg1 a0 1 k0 h11) (cwV 1 hts gX13_trees_X13_refused rfl rfl rfl hdV_X13_refused ⟨Nat.le_of_ble_eq_true rfl, Nat.le_of_ble_eq_true rfl⟩) (pV (T := TX13) hP hK hD hT hG hS k0 (by decide) rfl) rfl rfl hl.1 rfl (lv_room (Nat.le_of_ble_eq_true rfl)) dX13_trees_15 ⟨Nat.zero_le _, Nat.zero_le _⟩) hS (fun H locs hP hD hT hS => ?_)
    have hZ := Option.some.inj h
    have hZ1 := congrArg Prod.fst hZ
    have hZ2 := congrArg Prod.snd hZ
    exact r_iret hx hb hr hlocks hP hK hD hT hG hS hZ1 hZ2 dX13_trees_18
set_option maxHeartbeats 4000000 in
set_option maxRecDepth 100000 in
theorem c_X13_see {l : Launch} {D : va_G} {ad : Nat → Nat} {cy : Nat → ClassId} {A : Nat → Prop} {g : CG} {q : SE} (M : MM) (a0 : Nat) (x1 : Int32) (x2 : Int32) (x3 : Int32) (k0 : ok g a0 13 0) {Z : (Int32 × MM)} (h : f_X13_see M a0 x1 x2 x3 = some Z) : Met l yX13_see wsX13_see ({ frames := 1, cells := 0, slots := 0, locals := 22 }) (va_Pc [.ref (ad a0), .int x1, .int x2, .int x3] (Wd D ad cy A g q M)) (va_Qi (fun r u => r = Z.1 ∧ u = Z.2) (Wd D ad cy A g q) A) 0 0 A := by
  refine Met.ofW (cc := cX13_see) (maxL := 4) (ret := (some .int)) (by decide) rfl ?_
  intro p e s m args below meth c s₁ B hml hv
  obtain ⟨rfl, hP, hK, hD, hT, hG⟩ := hv
  have hx := B.exec
  have hb := B.bytes
  have hr := B.returns
  have hts := atoms_spec (ws := wsX13_see) B.pre
  have hown : s.vm.findClass RX13 = some m.cls := findClass_of_methodNamed B.named
  have hlocks := B.notSynchronized
  have in13 : ∀ w ∈ u_ws RX13 TX13 29, w ∈ wsX13_see := fun w h => List.mem_cons_of_mem _ (List.mem_append_right _ h)
  have hS : va_S A s.heap s.heap [] := va_S.rf
  have hl := lv_entry ([.ref (ad a0), .int x1, .int x2, .int x3]) (n := 4) (Nat.le_of_ble_eq_true rfl)
  rw [lg_entry_eq]
  generalize (lg_sl ([.ref (ad a0), .int x1, .int x2, .int x3]) ++ List.replicate (4 - (lg_sl ([.ref (ad a0), .int x1, .int x2, .int x3])).length) Slot.unset).toArray = ls at hl ⊢
  have hl : lv_has ls 4 [(0, .ref (ad a0)), (1, .int x1), (2, .int x2), (3, .int x3)] := hl
  unfold f_X13_see at h
  refine lv_aload_n hx hb dX13_see_0 rfl (lv_at hl 0 rfl) ?_
  refine lv_iconst (v := 0) hx hb dX13_see_1 rfl ?_
  refine r_putI (T := TX13) (ty := .int) (v := 0) hx hb hts in13 tyX13 tyX13_ok nmX13 hown hK hP hD hT hS k0 (by decide) rfl 0 (by decide) (hts (.fieldLink RX13 30 "StoneWalkModel" "thrown" "I") (List.mem_of_getElem? (i := 1) (by decide +kernel))) rfl rfl (tyX13_ok 0 (by decide)) rfl rfl rfl dX13_see_2 (fun H locs hP hD hT hS => ?_)
  generalize pI M a0 0 0 = Mg1 at h hP hD hT ⊢
  refine lv_aload_n hx hb dX13_see_5 rfl (lv_at hl 0 rfl) ?_
  rcases hN1 : gR Mg1 a0 3 with _ | b1
  · replace h := oc_n hN1 h
    refine r_get (T := TX13) (v := .null) hx hb hts in13 hown hK hP k0 (by decide) rfl 3 (by decide) (hts (.fieldLink RX13 431 "StoneWalkModel" "island" "LStoneWalkModel$Island;") (List.mem_of_getElem? (i := 2) (by decide +kernel))) rfl (t := 2) rfl (by show va_rf _ = _; rw [hN1]; rfl) dX13_see_6 ?_
    refine lv_ifnonnullN hx hb dX13_see_9 ?_
    refine lv_aload_n hx hb dX13_see_12 rfl (lv_at hl 0 rfl) ?_
    refine lv_iconst (v := 1) hx hb dX13_see_13 rfl ?_
    obtain ⟨z2, h2, h⟩ := ob_some h
    refine k_i (va_runV (As := [.int 1]) (rest := []) ⟨hx, hb, hml, hown, hts⟩ (c_X13_refused (l := l) Mg1 a0 1 k0 h2) (cwV 1 hts gX13_see_X13_refused rfl rfl rfl hdV_X13_refused ⟨Nat.le_of_ble_eq_true rfl, Nat.le_of_ble_eq_true rfl⟩) (pV (T := TX13) hP hK hD hT hG hS k0 (by decide) rfl) rfl rfl hl.1 rfl (lv_room (Nat.le_of_ble_eq_true rfl)) dX13_see_14 ⟨Nat.zero_le _, Nat.zero_le _⟩) hS (fun H locs hP hD hT hS => ?_)
    have hZ := Option.some.inj h
    have hZ1 := congrArg Prod.fst hZ
    have hZ2 := congrArg Prod.snd hZ
    exact r_iret hx hb hr hlocks hP hK hD hT hG hS hZ1 hZ2 dX13_see_17
  · replace h := oc_s hN1 h
    have kb1 := hT.f k0 (k := 3) (t := 12) (n := 0) rfl hN1
    refine r_get (T := TX13) (v := .ref (ad b1)) hx hb hts in13 hown hK hP k0 (by decide) rfl 3 (by decide) (hts (.fieldLink RX13 431 "StoneWalkModel" "island" "LStoneWalkModel$Island;") (List.mem_of_getElem? (i := 2) (by decide +kernel))) rfl (t := 2) rfl (by show va_rf _ = _; rw [hN1]; rfl) dX13_see_6 ?_
    refine lv_ifnonnull (tgt := 18) hx hb dX13_see_9 rfl ?_
    refine lv_iload_n hx hb dX13_see_18 rfl (lv_at hl 1 rfl) ?_
    refine lv_iconst (v := 0) hx hb dX13_see_19 rfl ?_
    refine lv_bipush (v := 99) hx hb dX13_see_20 rfl ?_
    obtain ⟨z3, h3, h⟩ := ob_some h
    refine k_z (va_runS (As := [.int x1, .int 0, .int 99]) (rest := []) ⟨hx, hb, hml, hown, hts⟩ (c_X13_in (l := l) Mg1 x1 0 99 h3) (va_cwS 3 hts gX13_see_X13_in rfl rfl rfl hdS_X13_in ⟨Nat.le_of_ble_eq_true rfl, Nat.le_of_ble_eq_true rfl⟩) (pS hP hK hD hT hG hS) rfl rfl hl.1 rfl (lv_room (Nat.le_of_ble_eq_true rfl)) dX13_see_22 ⟨Nat.zero_le _, Nat.zero_le _⟩) hS (fun H locs hz3 hP hD hT hS => ?_)
    refine lv_if_eq (tgt := 50) hx hb dX13_see_25 rfl (fun c4 => ?_) (fun c4 => ?_)
    · replace h := ite_t c4 h
      refine lv_aload_n hx hb dX13_see_50 rfl (lv_at hl 0 rfl) ?_
      refine lv_iconst (v := 2) hx hb dX13_see_51 rfl ?_
      obtain ⟨z5, h5, h⟩ := ob_some h
      refine k_i (va_runV (As := [.int 2]) (rest := []) ⟨hx, hb, hml, hown, hts⟩ (c_X13_refused (l := l) Mg1 a0 2 k0 h5) (cwV 1 hts gX13_see_X13_refused rfl rfl rfl hdV_X13_refused ⟨Nat.le_of_ble_eq_true rfl, Nat.le_of_ble_eq_true rfl⟩) (pV (T := TX13) hP hK hD hT hG hS k0 (by decide) rfl) rfl rfl hl.1 rfl (lv_room (Nat.le_of_ble_eq_true rfl)) dX13_see_52 ⟨Nat.zero_le _, Nat.zero_le _⟩) hS (fun H locs hP hD hT hS => ?_)
      have hZ := Option.some.inj h
      have hZ1 := congrArg Prod.fst hZ
      have hZ2 := congrArg Prod.snd hZ
      exact r_iret hx hb hr hlocks hP hK hD hT hG hS hZ1 hZ2 dX13_see_55
    · replace h := ite_f c4 h
      refine lv_iload_n hx hb dX13_see_28 rfl (lv_at hl 2 rfl) ?_
      refine lv_iconst (v := 0) hx hb dX13_see_29 rfl ?_
      refine lv_sipush (v := 9999) hx hb dX13_see_30 rfl ?_
      obtain ⟨z6, h6, h⟩ := ob_some h
      refine k_z (va_runS (As := [.int x2, .int 0, .int 9999]) (rest := []) ⟨hx, hb, hml, hown, hts⟩ (c_X13_in (l := l) Mg1 x2 0 9999 h6) (va_cwS 3 hts gX13_see_X13_in rfl rfl rfl hdS_X13_in ⟨Nat.le_of_ble_eq_true rfl, Nat.le_of_ble_eq_true rfl⟩) (pS hP hK hD hT hG hS) rfl rfl hl.1 rfl (lv_room (Nat.le_of_ble_eq_true rfl)) dX13_see_33 ⟨Nat.zero_le _, Nat.zero_le _⟩) hS (fun H locs hz6 hP hD hT hS => ?_)
      refine lv_if_eq (tgt := 50) hx hb dX13_see_36 rfl (fun c7 => ?_) (fun c7 => ?_)
      · replace h := ite_t c7 h
        refine lv_aload_n hx hb dX13_see_50 rfl (lv_at hl 0 rfl) ?_
        refine lv_iconst (v := 2) hx hb dX13_see_51 rfl ?_
        obtain ⟨z8, h8, h⟩ := ob_some h
        refine k_i (va_runV (As := [.int 2]) (rest := []) ⟨hx, hb, hml, hown, hts⟩ (c_X13_refused (l := l) Mg1 a0 2 k0 h8) (cwV 1 hts gX13_see_X13_refused rfl rfl rfl hdV_X13_refused ⟨Nat.le_of_ble_eq_true rfl, Nat.le_of_ble_eq_true rfl⟩) (pV (T := TX13) hP hK hD hT hG hS k0 (by decide) rfl) rfl rfl hl.1 rfl (lv_room (Nat.le_of_ble_eq_true rfl)) dX13_see_52 ⟨Nat.zero_le _, Nat.zero_le _⟩) hS (fun H locs hP hD hT hS => ?_)
        have hZ := Option.some.inj h
        have hZ1 := congrArg Prod.fst hZ
        have hZ2 := congrArg Prod.snd hZ
        exact r_iret hx hb hr hlocks hP hK hD hT hG hS hZ1 hZ2 dX13_see_55
      · replace h := ite_f c7 h
        refine lv_iload_n hx hb dX13_see_39 rfl (lv_at hl 3 rfl) ?_
        refine lv_iconst (v := 0) hx hb dX13_see_40 rfl ?_
        refine lv_sipush (v := 999) hx hb dX13_see_41 rfl ?_
        obtain ⟨z9, h9, h⟩ := ob_some h
        refine k_z (va_runS (As := [.int x3, .int 0, .int 999]) (rest := []) ⟨hx, hb, hml, hown, hts⟩ (c_X13_in (l := l) Mg1 x3 0 999 h9) (va_cwS 3 hts gX13_see_X13_in rfl rfl rfl hdS_X13_in ⟨Nat.le_of_ble_eq_true rfl, Nat.le_of_ble_eq_true rfl⟩) (pS hP hK hD hT hG hS) rfl rfl hl.1 rfl (lv_room (Nat.le_of_ble_eq_true rfl)) dX13_see_44 ⟨Nat.zero_le _, Nat.zero_le _⟩) hS (fun H locs hz9 hP hD hT hS => ?_)
        refine lv_if_ne (tgt := 56) hx hb dX13_see_47 rfl (fun c10 => ?_) (fun c10 => ?_)
        · replace h := ite_f c10 h
          refine lv_aload_n hx hb dX13_see_56 rfl (lv_at hl 0 rfl) ?_
          refine r_get (T := TX13) (v := .int (gI Mg1 a0 25)) hx hb hts in13 hown hK hP k0 (by decide) rfl 25 (by decide) (hts (.fieldLink RX13 434 "StoneWalkModel" "seen" "I") (List.mem_of_getElem? (i := 3) (by decide +kernel))) rfl (t := 0) rfl rfl dX13_see_57 ?_
          refine lv_bipush (v := 12) hx hb dX13_see_60 rfl ?_
          refine lv_icmp_ne (tgt := 71) hx hb dX13_see_62 rfl (fun c11 => ?_) (fun c11 => ?_)
          · replace h := ite_f c11 h
            refine lv_aload_n hx hb dX13_see_71 rfl (lv_at hl 0 rfl) ?_
            rcases hN12 : gR Mg1 a0 26 with _ | b12
            · exact absurd (oc_n hN12 h) (by simp)
            replace h := oc_s hN12 h
            have kb12 := hT.f k0 (k := 26) (t := 15) (n := 12) rfl hN12
            refine r_get (T := TX13) (v := .ref (ad b12)) hx hb hts in13 hown hK hP k0 (by decide) rfl 26 (by decide) (hts (.fieldLink RX13 20 "StoneWalkModel" "seenYear" "[I") (List.mem_of_getElem? (i := 4) (by decide +kernel))) rfl (t := 2) rfl (by show va_rf _ = _; rw [hN12]; rfl) dX13_see_72 ?_
            refine lv_aload_n hx hb dX13_see_75 rfl (lv_at hl 0 rfl) ?_
            refine r_get (T := TX13) (v := .int (gI Mg1 a0 25)) hx hb hts in13 hown hK hP k0 (by decide) rfl 25 (by decide) (hts (.fieldLink RX13 434 "StoneWalkModel" "seen" "I") (List.mem_of_getElem? (i := 3) (by decide +kernel))) rfl (t := 0) rfl rfl dX13_see_76 ?_
            refine lv_iload_n hx hb dX13_see_79 rfl (lv_at hl 1 rfl) ?_
            obtain ⟨hn13, h⟩ := chk_some h
            refine r_iast hx hb hK hP hD hT hS kb12 hn13 dX13_see_80 (fun H locs hP hD hT hS => ?_)
            generalize pI Mg1 b12 (ix (gI Mg1 a0 25)) x1 = Mg2 at h hP hD hT ⊢
            refine lv_aload_n hx hb dX13_see_81 rfl (lv_at hl 0 rfl) ?_
            rcases hN14 : gR Mg2 a0 27 with _ | b14
            · exact absurd (oc_n hN14 h) (by simp)
            replace h := oc_s hN14 h
            have kb14 := hT.f k0 (k := 27) (t := 15) (n := 12) rfl hN14
            refine r_get (T := TX13) (v := .ref (ad b14)) hx hb hts in13 hown hK hP k0 (by decide) rfl 27 (by decide) (hts (.fieldLink RX13 24 "StoneWalkModel" "seenTrees" "[I") (List.mem_of_getElem? (i := 5) (by decide +kernel))) rfl (t := 2) rfl (by show va_rf _ = _; rw [hN14]; rfl) dX13_see_82 ?_
            refine lv_aload_n hx hb dX13_see_85 rfl (lv_at hl 0 rfl) ?_
            refine r_get (T := TX13) (v := .int (gI Mg2 a0 25)) hx hb hts in13 hown hK hP k0 (by decide) rfl 25 (by decide) (hts (.fieldLink RX13 434 "StoneWalkModel" "seen" "I") (List.mem_of_getElem? (i := 3) (by decide +kernel))) rfl (t := 0) rfl rfl dX13_see_86 ?_
            refine lv_iload_n hx hb dX13_see_89 rfl (lv_at hl 2 rfl) ?_
            obtain ⟨hn15, h⟩ := chk_some h
            refine r_iast hx hb hK hP hD hT hS kb14 hn15 dX13_see_90 (fun H locs hP hD hT hS => ?_)
            generalize pI Mg2 b14 (ix (gI Mg2 a0 25)) x2 = Mg3 at h hP hD hT ⊢
            refine lv_aload_n hx hb dX13_see_91 rfl (lv_at hl 0 rfl) ?_
            rcases hN16 : gR Mg3 a0 28 with _ | b16
            · exact absurd (oc_n hN16 h) (by simp)
            replace h := oc_s hN16 h
            have kb16 := hT.f k0 (k := 28) (t := 15) (n := 12) rfl hN16
            refine r_get (T := TX13) (v := .ref (ad b16)) hx hb hts in13 hown hK hP k0 (by decide) rfl 28 (by decide) (hts (.fieldLink RX13 27 "StoneWalkModel" "seenOff" "[I") (List.mem_of_getElem? (i := 6) (by decide +kernel))) rfl (t := 2) rfl (by show va_rf _ = _; rw [hN16]; rfl) dX13_see_92 ?_
            refine lv_aload_n hx hb dX13_see_95 rfl (lv_at hl 0 rfl) ?_
            refine r_get (T := TX13) (v := .int (gI Mg3 a0 25)) hx hb hts in13 hown hK hP k0 (by decide) rfl 25 (by decide) (hts (.fieldLink RX13 434 "StoneWalkModel" "seen" "I") (List.mem_of_getElem? (i := 3) (by decide +kernel))) rfl (t := 0) rfl rfl dX13_see_96 ?_
            refine lv_iload_n hx hb dX13_see_99 rfl (lv_at hl 3 rfl) ?_
            obtain ⟨hn17, h⟩ := chk_some h
            refine r_iast hx hb hK hP hD hT hS kb16 hn17 dX13_see_100 (fun H locs hP hD hT hS => ?_)
            generalize pI Mg3 b16 (ix (gI Mg3 a0 25)) x3 = Mg4 at h hP hD hT ⊢
            refine lv_aload_n hx hb dX13_see_101 rfl (lv_at hl 0 rfl) ?_
            refine lv_dup hx hb dX13_see_102 rfl ?_
            refine r_get (T := TX13) (v := .int (gI Mg4 a0 25)) hx hb hts in13 hown hK hP k0 (by decide) rfl 25 (by decide) (hts (.fieldLink RX13 434 "StoneWalkModel" "seen" "I") (List.mem_of_getElem? (i := 3) (by decide +kernel))) rfl (t := 0) rfl rfl dX13_see_103 ?_
            refine lv_iconst (v := 1) hx hb dX13_see_106 rfl ?_
            refine lv_iadd hx hb dX13_see_107 ?_
            refine r_putI (T := TX13) (ty := .int) (v := (gI Mg4 a0 25) + 1) hx hb hts in13 tyX13 tyX13_ok nmX13 hown hK hP hD hT hS k0 (by decide) rfl 25 (by decide) (hts (.fieldLink RX13 434 "StoneWalkModel" "seen" "I") (List.mem_of_getElem? (i := 3) (by decide +kernel))) rfl rfl (tyX13_ok 25 (by decide)) rfl rfl rfl dX13_see_108 (fun H locs hP hD hT hS => ?_)
            generalize pI Mg4 a0 25 ((gI Mg4 a0 25) + 1) = Mg5 at h hP hD hT ⊢
            refine lv_aload_n hx hb dX13_see_111 rfl (lv_at hl 0 rfl) ?_
            refine lv_aload_n hx hb dX13_see_112 rfl (lv_at hl 0 rfl) ?_
            refine r_get (T := TX13) (v := .int (gI Mg5 a0 25)) hx hb hts in13 hown hK hP k0 (by decide) rfl 25 (by decide) (hts (.fieldLink RX13 434 "StoneWalkModel" "seen" "I") (List.mem_of_getElem? (i := 3) (by decide +kernel))) rfl (t := 0) rfl rfl dX13_see_113 ?_
            obtain ⟨z18, h18, h⟩ := ob_some h
            refine k_i (va_runV (As := [.int (gI Mg5 a0 25)]) (rest := []) ⟨hx, hb, hml, hown, hts⟩ (c_X13_done (l := l) Mg5 a0 (gI Mg5 a0 25) k0 h18) (cwV 1 hts gX13_see_X13_done rfl rfl rfl hdV_X13_done ⟨Nat.le_of_ble_eq_true rfl, Nat.le_of_ble_eq_true rfl⟩) (pV (T := TX13) hP hK hD hT hG hS k0 (by decide) rfl) rfl rfl hl.1 rfl (lv_room (Nat.le_of_ble_eq_true rfl)) dX13_see_116 ⟨Nat.zero_le _, Nat.zero_le _⟩) hS (fun H locs hP hD hT hS => ?_)
            have hZ := Option.some.inj h
            have hZ1 := congrArg Prod.fst hZ
            have hZ2 := congrArg Prod.snd hZ
            exact r_iret hx hb hr hlocks hP hK hD hT hG hS hZ1 hZ2 dX13_see_119
          · replace h := ite_t c11 h
            refine lv_aload_n hx hb dX13_see_65 rfl (lv_at hl 0 rfl) ?_
            refine lv_iconst (v := 3) hx hb dX13_see_66 rfl ?_
            obtain ⟨z19, h19, h⟩ := ob_some h
            refine k_i (va_runV (As := [.int 3]) (rest := []) ⟨hx, hb, hml, hown, hts⟩ (c_X13_refused (l := l) Mg1 a0 3 k0 h19) (cwV 1 hts gX13_see_X13_refused rfl rfl rfl hdV_X13_refused ⟨Nat.le_of_ble_eq_true rfl, Nat.le_of_ble_eq_true rfl⟩) (pV (T := TX13) hP hK hD hT hG hS k0 (by decide) rfl) rfl rfl hl.1 rfl (lv_room (Nat.le_of_ble_eq_true rfl)) dX13_see_67 ⟨Nat.zero_le _, Nat.zero_le _⟩) hS (fun H locs hP hD hT hS => ?_)
            have hZ := Option.some.inj h
            have hZ1 := congrArg Prod.fst hZ
            have hZ2 := congrArg Prod.snd hZ
            exact r_iret hx hb hr hlocks hP hK hD hT hG hS hZ1 hZ2 dX13_see_70
        · replace h := ite_t c10 h
          refine lv_aload_n hx hb dX13_see_50 rfl (lv_at hl 0 rfl) ?_
          refine lv_iconst (v := 2) hx hb dX13_see_51 rfl ?_
          obtain ⟨z20, h20, h⟩ := ob_some h
          refine k_i (va_runV (As := [.int 2]) (rest := []) ⟨hx, hb, hml, hown, hts⟩ (c_X13_refused (l := l) Mg1 a0 2 k0 h20) (cwV 1 hts gX13_see_X13_refused rfl rfl rfl hdV_X13_refused ⟨Nat.le_of_ble_eq_true rfl, Nat.le_of_ble_eq_true rfl⟩) (pV (T := TX13) hP hK hD hT hG hS k0 (by decide) rfl) rfl rfl hl.1 rfl (lv_room (Nat.le_of_ble_eq_true rfl)) dX13_see_52 ⟨Nat.zero_le _, Nat.zero_le _⟩) hS (fun H locs hP hD hT hS => ?_)
          have hZ := Option.some.inj h
          have hZ1 := congrArg Prod.fst hZ
          have hZ2 := congrArg Prod.snd hZ
          exact r_iret hx hb hr hlocks hP hK hD hT hG hS hZ1 hZ2 dX13_see_55
set_option maxHeartbeats 4000000 in
set_option maxRecDepth 100000 in
theorem c_X13_forget {l : Launch} {D : va_G} {ad : Nat → Nat} {cy : Nat → ClassId} {A : Nat → Prop} {g : CG} {q : SE} (M : MM) (a0 : Nat) (k0 : ok g a0 13 0) {Z : (Int32 × MM)} (h : f_X13_forget M a0 = some Z) : Met l yX13_forget wsX13_forget ({ frames := 0, cells := 0, slots := 0, locals := 0 }) (va_Pc [.ref (ad a0)] (Wd D ad cy A g q M)) (va_Qi (fun r u => r = Z.1 ∧ u = Z.2) (Wd D ad cy A g q) A) 0 0 A := by
  refine Met.ofW (cc := cX13_forget) (maxL := 2) (ret := (some .int)) (by decide) rfl ?_
  intro p e s m args below meth c s₁ B hml hv
  obtain ⟨rfl, hP, hK, hD, hT, hG⟩ := hv
  have hx := B.exec
  have hb := B.bytes
  have hr := B.returns
  have hts := atoms_spec (ws := wsX13_forget) B.pre
  have hown : s.vm.findClass RX13 = some m.cls := findClass_of_methodNamed B.named
  have hlocks := B.notSynchronized
  have in13 : ∀ w ∈ u_ws RX13 TX13 29, w ∈ wsX13_forget := fun w h => List.mem_cons_of_mem _ (List.mem_append_right _ h)
  have hS : va_S A s.heap s.heap [] := va_S.rf
  have hl := lv_entry ([.ref (ad a0)]) (n := 2) (Nat.le_of_ble_eq_true rfl)
  rw [lg_entry_eq]
  generalize (lg_sl ([.ref (ad a0)]) ++ List.replicate (2 - (lg_sl ([.ref (ad a0)])).length) Slot.unset).toArray = ls at hl ⊢
  have hl : lv_has ls 2 [(0, .ref (ad a0))] := hl
  unfold f_X13_forget at h
  refine lv_aload_n hx hb dX13_forget_0 rfl (lv_at hl 0 rfl) ?_
  refine lv_iconst (v := 0) hx hb dX13_forget_1 rfl ?_
  refine r_putI (T := TX13) (ty := .int) (v := 0) hx hb hts in13 tyX13 tyX13_ok nmX13 hown hK hP hD hT hS k0 (by decide) rfl 0 (by decide) (hts (.fieldLink RX13 30 "StoneWalkModel" "thrown" "I") (List.mem_of_getElem? (i := 1) (by decide +kernel))) rfl rfl (tyX13_ok 0 (by decide)) rfl rfl rfl dX13_forget_2 (fun H locs hP hD hT hS => ?_)
  generalize pI M a0 0 0 = Mg1 at h hP hD hT ⊢
  refine lv_aload_n hx hb dX13_forget_5 rfl (lv_at hl 0 rfl) ?_
  refine r_get (T := TX13) (v := .int (gI Mg1 a0 25)) hx hb hts in13 hown hK hP k0 (by decide) rfl 25 (by decide) (hts (.fieldLink RX13 434 "StoneWalkModel" "seen" "I") (List.mem_of_getElem? (i := 2) (by decide +kernel))) rfl (t := 0) rfl rfl dX13_forget_6 ?_
  refine lv_istore_n (lv' := [(1, .int (gI Mg1 a0 25)), (0, .ref (ad a0))]) hx hb dX13_forget_9 rfl hl (by decide) rfl (fun ls hl => ?_)
  refine lv_aload_n hx hb dX13_forget_10 rfl (lv_at hl 1 rfl) ?_
  refine lv_iconst (v := 0) hx hb dX13_forget_11 rfl ?_
  refine r_putI (T := TX13) (ty := .int) (v := 0) hx hb hts in13 tyX13 tyX13_ok nmX13 hown hK hP hD hT hS k0 (by decide) rfl 25 (by decide) (hts (.fieldLink RX13 434 "StoneWalkModel" "seen" "I") (List.mem_of_getElem? (i := 2) (by decide +kernel))) rfl rfl (tyX13_ok 25 (by decide)) rfl rfl rfl dX13_forget_12 (fun H locs hP hD hT hS => ?_)
  generalize pI Mg1 a0 25 0 = Mg2 at h hP hD hT ⊢
  refine lv_iload_n hx hb dX13_forget_15 rfl (lv_at hl 0 rfl) ?_
  have hZ := Option.some.inj h
  have hZ1 := congrArg Prod.fst hZ
  have hZ2 := congrArg Prod.snd hZ
  exact r_iret hx hb hr hlocks hP hK hD hT hG hS hZ1 hZ2 dX13_forget_16
set_option maxHeartbeats 4000000 in
set_option maxRecDepth 100000 in
theorem c_X13_isFit {l : Launch} {D : va_G} {ad : Nat → Nat} {cy : Nat → ClassId} {A : Nat → Prop} {g : CG} {q : SE} (M : MM) (a0 : Nat) (x1 : Int32) (k0 : ok g a0 13 0) {Z : Int32} (h : f_X13_isFit M a0 x1 = some Z) : Met l yX13_isFit wsX13_isFit ({ frames := 2, cells := 0, slots := 0, locals := 52 }) (va_Pc [.ref (ad a0), .int x1] (Wd D ad cy A g q M)) (va_Qi (fun r u => r = Z ∧ u = M ∧ zb r) (Wd D ad cy A g q) A) 0 0 A := by
  refine Met.ofW (cc := cX13_isFit) (maxL := 4) (ret := (some .boolean)) (by decide) rfl ?_
  intro p e s m args below meth c s₁ B hml hv
  obtain ⟨rfl, hP, hK, hD, hT, hG⟩ := hv
  have hx := B.exec
  have hb := B.bytes
  have hr := B.returns
  have hts := atoms_spec (ws := wsX13_isFit) B.pre
  have hown : s.vm.findClass RX13 = some m.cls := findClass_of_methodNamed B.named
  have hlocks := B.notSynchronized
  have in13 : ∀ w ∈ u_ws RX13 TX13 29, w ∈ wsX13_isFit := fun w h => List.mem_cons_of_mem _ (List.mem_append_left _ (List.mem_append_right _ h))
  have hS : va_S A s.heap s.heap [] := va_S.rf
  have hl := lv_entry ([.ref (ad a0), .int x1]) (n := 4) (Nat.le_of_ble_eq_true rfl)
  rw [lg_entry_eq]
  generalize (lg_sl ([.ref (ad a0), .int x1]) ++ List.replicate (4 - (lg_sl ([.ref (ad a0), .int x1])).length) Slot.unset).toArray = ls at hl ⊢
  have hl : lv_has ls 4 [(0, .ref (ad a0)), (1, .int x1)] := hl
  unfold f_X13_isFit at h
  refine lv_iconst (v := 0) hx hb dX13_isFit_0 rfl ?_
  refine lv_istore_n (lv' := [(2, .int 0), (0, .ref (ad a0)), (1, .int x1)]) hx hb dX13_isFit_1 rfl hl (by decide) rfl (fun ls hl => ?_)
  have L1 : ∀ n1 : Nat, ∀ (y1_0 : Nat) (y1_1 : Int32) (y1_2 : Int32) (ky1_0 : ok g y1_0 13 0) (H : Heap) (locs : List Loc), f_X13_isFit_L2 n1 M y1_0 y1_1 y1_2 = some Z → va_P D vwCl (wd ad cy g M) H → va_D A (wd ad cy g M) → WT g M → va_S A s.heap H locs → ∀ (ls : Array Slot), lv_has ls 4 [(0, .ref (ad y1_0)), (1, .int y1_1), (2, .int y1_2)] → W p l e ((headSpec wsX13_isFit ({ frames := 2, cells := 0, slots := 0, locals := 52 })).room) s m (([.ref (ad a0), .int x1] : List Value).toArray) below meth c H locs 0 0 (MQ below (va_Qi (fun r u => r = Z ∧ u = M ∧ zb r) (Wd D ad cy A g q) A) ([.ref (ad a0), .int x1]).toArray s 0 0 A) (F0 m 2 ls []) := by
    intro n1
    induction n1 with
    | zero => intro y1_0 y1_1 y1_2 ky1_0 H locs h; exact absurd h (by simp [f_X13_isFit_L2])
    | succ n1 ih1 =>
      intro y1_0 y1_1 y1_2 ky1_0 H locs h hP hD hT hS ls hl
      rw [f_X13_isFit_L2] at h
      refine lv_iload_n hx hb dX13_isFit_2 rfl (lv_at hl 2 rfl) ?_
      refine lv_aload_n hx hb dX13_isFit_3 rfl (lv_at hl 0 rfl) ?_
      refine r_get (T := TX13) (v := .int (gI M y1_0 25)) hx hb hts in13 hown hK hP ky1_0 (by decide) rfl 25 (by decide) (hts (.fieldLink RX13 434 "StoneWalkModel" "seen" "I") (List.mem_of_getElem? (i := 1) (by decide +kernel))) rfl (t := 0) rfl rfl dX13_isFit_4 ?_
      refine lv_icmp_ge (tgt := 58) hx hb dX13_isFit_7 rfl (fun c2 => ?_) (fun c2 => ?_)
      · replace h := ite_t c2 h
        refine lv_iconst (v := 1) hx hb dX13_isFit_58 rfl ?_
        exact r_zret hx hb hr hlocks hP hK hD hT hG hS zb_1 (Option.some.inj h) rfl dX13_isFit_59
      · replace h := ite_f c2 h
        refine lv_aload_n hx hb dX13_isFit_10 rfl (lv_at hl 0 rfl) ?_
        refine lv_iload_n hx hb dX13_isFit_11 rfl (lv_at hl 1 rfl) ?_
        refine lv_aload_n hx hb dX13_isFit_12 rfl (lv_at hl 0 rfl) ?_
        rcases hN3 : gR M y1_0 26 with _ | b3
        · exact absurd (oc_n hN3 h) (by simp)
        replace h := oc_s hN3 h
        have kb3 := hT.f ky1_0 (k := 26) (t := 15) (n := 12) rfl hN3
        refine r_get (T := TX13) (v := .ref (ad b3)) hx hb hts in13 hown hK hP ky1_0 (by decide) rfl 26 (by decide) (hts (.fieldLink RX13 20 "StoneWalkModel" "seenYear" "[I") (List.mem_of_getElem? (i := 2) (by decide +kernel))) rfl (t := 2) rfl (by show va_rf _ = _; rw [hN3]; rfl) dX13_isFit_13 ?_
        refine lv_iload_n hx hb dX13_isFit_16 rfl (lv_at hl 2 rfl) ?_
        obtain ⟨hn4, h⟩ := chk_some h
        refine r_iald hx hb hK hP kb3 hn4 dX13_isFit_17 ?_
        obtain ⟨z5, h5, h⟩ := ob_some h
        refine k_i (va_runV (As := [.int y1_1, .int (gI M b3 (ix y1_2))]) (rest := []) ⟨hx, hb, hml, hown, hts⟩ (c_X13_treesIn (l := l) M y1_0 y1_1 (gI M b3 (ix y1_2)) ky1_0 h5) (cwV 2 hts gX13_isFit_X13_treesIn rfl rfl rfl hdV_X13_treesIn ⟨Nat.le_of_ble_eq_true rfl, Nat.le_of_ble_eq_true rfl⟩) (pV (T := TX13) hP hK hD hT hG hS ky1_0 (by decide) rfl) rfl rfl hl.1 rfl (lv_room (Nat.le_of_ble_eq_true rfl)) dX13_isFit_18 ⟨Nat.zero_le _, Nat.zero_le _⟩) hS (fun H locs hP hD hT hS => ?_)
        refine lv_aload_n hx hb dX13_isFit_21 rfl (lv_at hl 0 rfl) ?_
        rcases hN6 : gR M y1_0 27 with _ | b6
        · exact absurd (oc_n hN6 h) (by simp)
        replace h := oc_s hN6 h
        have kb6 := hT.f ky1_0 (k := 27) (t := 15) (n := 12) rfl hN6
        refine r_get (T := TX13) (v := .ref (ad b6)) hx hb hts in13 hown hK hP ky1_0 (by decide) rfl 27 (by decide) (hts (.fieldLink RX13 24 "StoneWalkModel" "seenTrees" "[I") (List.mem_of_getElem? (i := 3) (by decide +kernel))) rfl (t := 2) rfl (by show va_rf _ = _; rw [hN6]; rfl) dX13_isFit_22 ?_
        refine lv_iload_n hx hb dX13_isFit_25 rfl (lv_at hl 2 rfl) ?_
        obtain ⟨hn7, h⟩ := chk_some h
        refine r_iald hx hb hK hP kb6 hn7 dX13_isFit_26 ?_
        refine lv_isub hx hb dX13_isFit_27 ?_
        refine lv_istore_n (lv' := [(3, .int (z5 - (gI M b6 (ix y1_2)))), (0, .ref (ad y1_0)), (1, .int y1_1), (2, .int y1_2)]) hx hb dX13_isFit_28 rfl hl (by decide) rfl (fun ls hl => ?_)
        refine lv_iload_n hx hb dX13_isFit_29 rfl (lv_at hl 0 rfl) ?_
        refine lv_aload_n hx hb dX13_isFit_30 rfl (lv_at hl 1 rfl) ?_
        rcases hN8 : gR M y1_0 28 with _ | b8
        · exact absurd (oc_n hN8 h) (by simp)
        replace h := oc_s hN8 h
        have kb8 := hT.f ky1_0 (k := 28) (t := 15) (n := 12) rfl hN8
        refine r_get (T := TX13) (v := .ref (ad b8)) hx hb hts in13 hown hK hP ky1_0 (by decide) rfl 28 (by decide) (hts (.fieldLink RX13 27 "StoneWalkModel" "seenOff" "[I") (List.mem_of_getElem? (i := 4) (by decide +kernel))) rfl (t := 2) rfl (by show va_rf _ = _; rw [hN8]; rfl) dX13_isFit_31 ?_
        refine lv_iload_n hx hb dX13_isFit_34 rfl (lv_at hl 3 rfl) ?_
        obtain ⟨hn9, h⟩ := chk_some h
        refine r_iald hx hb hK hP kb8 hn9 dX13_isFit_35 ?_
        refine lv_icmp_gt (tgt := 50) hx hb dX13_isFit_36 rfl (fun c10 => ?_) (fun c10 => ?_)
        · replace h := ite_t c10 h
          refine lv_iconst (v := 0) hx hb dX13_isFit_50 rfl ?_
          exact r_zret hx hb hr hlocks hP hK hD hT hG hS zb_0 (Option.some.inj h) rfl dX13_isFit_51
        · replace h := ite_f c10 h
          refine lv_iload_n hx hb dX13_isFit_39 rfl (lv_at hl 0 rfl) ?_
          refine lv_ineg hx hb dX13_isFit_40 ?_
          refine lv_aload_n hx hb dX13_isFit_41 rfl (lv_at hl 1 rfl) ?_
          rcases hN11 : gR M y1_0 28 with _ | b11
          · exact absurd (oc_n hN11 h) (by simp)
          replace h := oc_s hN11 h
          have kb11 := hT.f ky1_0 (k := 28) (t := 15) (n := 12) rfl hN11
          refine r_get (T := TX13) (v := .ref (ad b11)) hx hb hts in13 hown hK hP ky1_0 (by decide) rfl 28 (by decide) (hts (.fieldLink RX13 27 "StoneWalkModel" "seenOff" "[I") (List.mem_of_getElem? (i := 4) (by decide +kernel))) rfl (t := 2) rfl (by show va_rf _ = _; rw [hN11]; rfl) dX13_isFit_42 ?_
          refine lv_iload_n hx hb dX13_isFit_45 rfl (lv_at hl 3 rfl) ?_
          obtain ⟨hn12, h⟩ := chk_some h
          refine r_iald hx hb hK hP kb11 hn12 dX13_isFit_46 ?_
          refine lv_icmp_le (tgt := 52) hx hb dX13_isFit_47 rfl (fun c13 => ?_) (fun c13 => ?_)
          · replace h := ite_t c13 h
            refine lv_iinc (v := y1_2 + 1) (lv' := [(2, .int (y1_2 + 1)), (3, .int (z5 - (gI M b6 (ix y1_2)))), (0, .ref (ad y1_0)), (1, .int y1_1)]) hx hb dX13_isFit_52 hl (k := 3) rfl rfl (by decide) rfl (fun ls hl => ?_)
            refine lv_goto (tgt := 2) hx hb dX13_isFit_55 rfl ?_
            exact ih1 y1_0 y1_1 (y1_2 + 1) ky1_0 _ _ h hP hD hT hS ls (lv_sub hl [2, 3, 0] rfl)
          · replace h := ite_f c13 h
            refine lv_iconst (v := 0) hx hb dX13_isFit_50 rfl ?_
            exact r_zret hx hb hr hlocks hP hK hD hT hG hS zb_0 (Option.some.inj h) rfl dX13_isFit_51
  exact L1 FU a0 x1 0 k0 _ _ h hP hD hT hS ls (lv_sub hl [1, 2, 0] rfl)
set_option maxHeartbeats 4000000 in
set_option maxRecDepth 100000 in
theorem c_X13_fitting {l : Launch} {D : va_G} {ad : Nat → Nat} {cy : Nat → ClassId} {A : Nat → Prop} {g : CG} {q : SE} (M : MM) (a0 : Nat) (k0 : ok g a0 13 0) {Z : Int32} (h : f_X13_fitting M a0 = some Z) : Met l yX13_fitting wsX13_fitting ({ frames := 3, cells := 0, slots := 0, locals := 75 }) (va_Pc [.ref (ad a0)] (Wd D ad cy A g q M)) (va_Qi (fun r u => r = Z ∧ u = M) (Wd D ad cy A g q) A) 0 0 A := by
  refine Met.ofW (cc := cX13_fitting) (maxL := 3) (ret := (some .int)) (by decide) rfl ?_
  intro p e s m args below meth c s₁ B hml hv
  obtain ⟨rfl, hP, hK, hD, hT, hG⟩ := hv
  have hx := B.exec
  have hb := B.bytes
  have hr := B.returns
  have hts := atoms_spec (ws := wsX13_fitting) B.pre
  have hown : s.vm.findClass RX13 = some m.cls := findClass_of_methodNamed B.named
  have hlocks := B.notSynchronized
  have in12 : ∀ w ∈ u_ws RX12 TX12 48, w ∈ wsX13_fitting := fun w h => List.mem_cons_of_mem _ (List.mem_append_right _ h)
  have in13 : ∀ w ∈ u_ws RX13 TX13 29, w ∈ wsX13_fitting := fun w h => List.mem_cons_of_mem _ (List.mem_append_left _ (List.mem_append_right _ h))
  have hS : va_S A s.heap s.heap [] := va_S.rf
  have hl := lv_entry ([.ref (ad a0)]) (n := 3) (Nat.le_of_ble_eq_true rfl)
  rw [lg_entry_eq]
  generalize (lg_sl ([.ref (ad a0)]) ++ List.replicate (3 - (lg_sl ([.ref (ad a0)])).length) Slot.unset).toArray = ls at hl ⊢
  have hl : lv_has ls 3 [(0, .ref (ad a0))] := hl
  unfold f_X13_fitting at h
  refine lv_iconst (v := 0) hx hb dX13_fitting_0 rfl ?_
  refine lv_istore_n (lv' := [(1, .int 0), (0, .ref (ad a0))]) hx hb dX13_fitting_1 rfl hl (by decide) rfl (fun ls hl => ?_)
  refine lv_iconst (v := 0) hx hb dX13_fitting_2 rfl ?_
  refine lv_istore_n (lv' := [(2, .int 0), (1, .int 0), (0, .ref (ad a0))]) hx hb dX13_fitting_3 rfl hl (by decide) rfl (fun ls hl => ?_)
  have L1 : ∀ n1 : Nat, ∀ (y1_0 : Nat) (y1_1 : Int32) (y1_2 : Int32) (ky1_0 : ok g y1_0 13 0) (H : Heap) (locs : List Loc), f_X13_fitting_L4 n1 M y1_0 y1_1 y1_2 = some Z → va_P D vwCl (wd ad cy g M) H → va_D A (wd ad cy g M) → WT g M → va_S A s.heap H locs → ∀ (ls : Array Slot), lv_has ls 3 [(0, .ref (ad y1_0)), (1, .int y1_1), (2, .int y1_2)] → W p l e ((headSpec wsX13_fitting ({ frames := 3, cells := 0, slots := 0, locals := 75 })).room) s m (([.ref (ad a0)] : List Value).toArray) below meth c H locs 0 0 (MQ below (va_Qi (fun r u => r = Z ∧ u = M) (Wd D ad cy A g q) A) ([.ref (ad a0)]).toArray s 0 0 A) (F0 m 4 ls []) := by
    intro n1
    induction n1 with
    | zero => intro y1_0 y1_1 y1_2 ky1_0 H locs h; exact absurd h (by simp [f_X13_fitting_L4])
    | succ n1 ih1 =>
      intro y1_0 y1_1 y1_2 ky1_0 H locs h hP hD hT hS ls hl
      rw [f_X13_fitting_L4] at h
      refine lv_iload_n hx hb dX13_fitting_4 rfl (lv_at hl 2 rfl) ?_
      refine lv_aload_n hx hb dX13_fitting_5 rfl (lv_at hl 0 rfl) ?_
      rcases hN2 : gR M y1_0 3 with _ | b2
      · replace h := oc_n hN2 h
        refine r_get (T := TX13) (v := .null) hx hb hts in13 hown hK hP ky1_0 (by decide) rfl 3 (by decide) (hts (.fieldLink RX13 431 "StoneWalkModel" "island" "LStoneWalkModel$Island;") (List.mem_of_getElem? (i := 1) (by decide +kernel))) rfl (t := 2) rfl (by show va_rf _ = _; rw [hN2]; rfl) dX13_fitting_6 ?_
        exact absurd h (by simp)
      · replace h := oc_s hN2 h
        have kb2 := hT.f ky1_0 (k := 3) (t := 12) (n := 0) rfl hN2
        refine r_get (T := TX13) (v := .ref (ad b2)) hx hb hts in13 hown hK hP ky1_0 (by decide) rfl 3 (by decide) (hts (.fieldLink RX13 431 "StoneWalkModel" "island" "LStoneWalkModel$Island;") (List.mem_of_getElem? (i := 1) (by decide +kernel))) rfl (t := 2) rfl (by show va_rf _ = _; rw [hN2]; rfl) dX13_fitting_6 ?_
        refine r_getN (T := TX12) (v := .int (gI M b2 5)) hx hb hts in12 hown hK hP kb2 (by decide) rfl 5 (by decide) (hG.2.2.1 ("StoneWalkModel", 371, "StoneWalkModel$Island", "stories", "I", "StoneWalkModel") (List.mem_of_getElem? (i := 36) rfl)) rfl (t := 0) rfl rfl dX13_fitting_9 ?_
        refine lv_icmp_ge (tgt := 39) hx hb dX13_fitting_12 rfl (fun c3 => ?_) (fun c3 => ?_)
        · replace h := ite_t c3 h
          refine lv_iload_n hx hb dX13_fitting_39 rfl (lv_at hl 1 rfl) ?_
          exact r_iret hx hb hr hlocks hP hK hD hT hG hS (Option.some.inj h) rfl dX13_fitting_40
        · replace h := ite_f c3 h
          refine lv_iload_n hx hb dX13_fitting_15 rfl (lv_at hl 1 rfl) ?_
          refine lv_aload_n hx hb dX13_fitting_16 rfl (lv_at hl 0 rfl) ?_
          refine lv_iload_n hx hb dX13_fitting_17 rfl (lv_at hl 2 rfl) ?_
          obtain ⟨z4, h4, h⟩ := ob_some h
          refine k_z (va_runV (As := [.int y1_2]) (rest := [.int y1_1]) ⟨hx, hb, hml, hown, hts⟩ (c_X13_isFit (l := l) M y1_0 y1_2 ky1_0 h4) (cwV 1 hts gX13_fitting_X13_isFit rfl rfl rfl hdV_X13_isFit ⟨Nat.le_of_ble_eq_true rfl, Nat.le_of_ble_eq_true rfl⟩) (pV (T := TX13) hP hK hD hT hG hS ky1_0 (by decide) rfl) rfl rfl hl.1 rfl (lv_room (Nat.le_of_ble_eq_true rfl)) dX13_fitting_18 ⟨Nat.zero_le _, Nat.zero_le _⟩) hS (fun H locs hz4 hP hD hT hS => ?_)
          refine lv_if_eq (tgt := 30) hx hb dX13_fitting_21 rfl (fun c5 => ?_) (fun c5 => ?_)
          · replace h := ite_t c5 h
            refine lv_iconst (v := 0) hx hb dX13_fitting_30 rfl ?_
            refine lv_ior hx hb dX13_fitting_31 ?_
            refine lv_istore_n (lv' := [(1, .int (y1_1 ||| 0)), (0, .ref (ad y1_0)), (2, .int y1_2)]) hx hb dX13_fitting_32 rfl hl (by decide) rfl (fun ls hl => ?_)
            refine lv_iinc (v := y1_2 + 1) (lv' := [(2, .int (y1_2 + 1)), (1, .int (y1_1 ||| 0)), (0, .ref (ad y1_0))]) hx hb dX13_fitting_33 hl (k := 2) rfl rfl (by decide) rfl (fun ls hl => ?_)
            refine lv_goto (tgt := 4) hx hb dX13_fitting_36 rfl ?_
            exact ih1 y1_0 (y1_1 ||| 0) (y1_2 + 1) ky1_0 _ _ h hP hD hT hS ls (lv_sub hl [2, 1, 0] rfl)
          · replace h := ite_f c5 h
            refine lv_iconst (v := 1) hx hb dX13_fitting_24 rfl ?_
            refine lv_iload_n hx hb dX13_fitting_25 rfl (lv_at hl 2 rfl) ?_
            refine lv_ishl hx hb dX13_fitting_26 ?_
            refine lv_goto (tgt := 31) hx hb dX13_fitting_27 rfl ?_
            refine lv_ior hx hb dX13_fitting_31 ?_
            refine lv_istore_n (lv' := [(1, .int (y1_1 ||| (1 <<< (y1_2 &&& 31)))), (0, .ref (ad y1_0)), (2, .int y1_2)]) hx hb dX13_fitting_32 rfl hl (by decide) rfl (fun ls hl => ?_)
            refine lv_iinc (v := y1_2 + 1) (lv' := [(2, .int (y1_2 + 1)), (1, .int (y1_1 ||| (1 <<< (y1_2 &&& 31)))), (0, .ref (ad y1_0))]) hx hb dX13_fitting_33 hl (k := 2) rfl rfl (by decide) rfl (fun ls hl => ?_)
            refine lv_goto (tgt := 4) hx hb dX13_fitting_36 rfl ?_
            exact ih1 y1_0 (y1_1 ||| (1 <<< (y1_2 &&& 31))) (y1_2 + 1) ky1_0 _ _ h hP hD hT hS ls (lv_sub hl [2, 1, 0] rfl)
  exact L1 FU a0 0 0 k0 _ _ h hP hD hT hS ls (lv_sub hl [2, 1, 0] rfl)
set_option maxHeartbeats 4000000 in
set_option maxRecDepth 100000 in
theorem c_X13_fits {l : Launch} {D : va_G} {ad : Nat → Nat} {cy : Nat → ClassId} {A : Nat → Prop} {g : CG} {q : SE} (M : MM) (a0 : Nat) (k0 : ok g a0 13 0) {Z : (Int32 × MM)} (h : f_X13_fits M a0 = some Z) : Met l yX13_fits wsX13_fits ({ frames := 4, cells := 0, slots := 0, locals := 97 }) (va_Pc [.ref (ad a0)] (Wd D ad cy A g q M)) (va_Qi (fun r u => r = Z.1 ∧ u = Z.2) (Wd D ad cy A g q) A) 0 0 A := by
  refine Met.ofW (cc := cX13_fits) (maxL := 1) (ret := (some .int)) (by decide) rfl ?_
  intro p e s m args below meth c s₁ B hml hv
  obtain ⟨rfl, hP, hK, hD, hT, hG⟩ := hv
  have hx := B.exec
  have hb := B.bytes
  have hr := B.returns
  have hts := atoms_spec (ws := wsX13_fits) B.pre
  have hown : s.vm.findClass RX13 = some m.cls := findClass_of_methodNamed B.named
  have hlocks := B.notSynchronized
  have in12 : ∀ w ∈ u_ws RX12 TX12 48, w ∈ wsX13_fits := fun w h => List.mem_cons_of_mem _ (List.mem_append_right _ h)
  have in13 : ∀ w ∈ u_ws RX13 TX13 29, w ∈ wsX13_fits := fun w h => List.mem_cons_of_mem _ (List.mem_append_left _ (List.mem_append_right _ h))
  have hS : va_S A s.heap s.heap [] := va_S.rf
  have hl := lv_entry ([.ref (ad a0)]) (n := 1) (Nat.le_of_ble_eq_true rfl)
  rw [lg_entry_eq]
  generalize (lg_sl ([.ref (ad a0)]) ++ List.replicate (1 - (lg_sl ([.ref (ad a0)])).length) Slot.unset).toArray = ls at hl ⊢
  have hl : lv_has ls 1 [(0, .ref (ad a0))] := hl
  unfold f_X13_fits at h
  refine lv_aload_n hx hb dX13_fits_0 rfl (lv_at hl 0 rfl) ?_
  refine lv_iconst (v := 0) hx hb dX13_fits_1 rfl ?_
  refine r_putI (T := TX13) (ty := .int) (v := 0) hx hb hts in13 tyX13 tyX13_ok nmX13 hown hK hP hD hT hS k0 (by decide) rfl 0 (by decide) (hts (.fieldLink RX13 30 "StoneWalkModel" "thrown" "I") (List.mem_of_getElem? (i := 1) (by decide +kernel))) rfl rfl (tyX13_ok 0 (by decide)) rfl rfl rfl dX13_fits_2 (fun H locs hP hD hT hS => ?_)
  generalize pI M a0 0 0 = Mg1 at h hP hD hT ⊢
  refine lv_aload_n hx hb dX13_fits_5 rfl (lv_at hl 0 rfl) ?_
  rcases hN1 : gR Mg1 a0 3 with _ | b1
  · replace h := oc_n hN1 h
    refine r_get (T := TX13) (v := .null) hx hb hts in13 hown hK hP k0 (by decide) rfl 3 (by decide) (hts (.fieldLink RX13 431 "StoneWalkModel" "island" "LStoneWalkModel$Island;") (List.mem_of_getElem? (i := 2) (by decide +kernel))) rfl (t := 2) rfl (by show va_rf _ = _; rw [hN1]; rfl) dX13_fits_6 ?_
    refine lv_ifnonnullN hx hb dX13_fits_9 ?_
    refine lv_aload_n hx hb dX13_fits_12 rfl (lv_at hl 0 rfl) ?_
    refine lv_iconst (v := 1) hx hb dX13_fits_13 rfl ?_
    obtain ⟨z2, h2, h⟩ := ob_some h
    refine k_i (va_runV (As := [.int 1]) (rest := []) ⟨hx, hb, hml, hown, hts⟩ (c_X13_refused (l := l) Mg1 a0 1 k0 h2) (cwV 1 hts gX13_fits_X13_refused rfl rfl rfl hdV_X13_refused ⟨Nat.le_of_ble_eq_true rfl, Nat.le_of_ble_eq_true rfl⟩) (pV (T := TX13) hP hK hD hT hG hS k0 (by decide) rfl) rfl rfl hl.1 rfl (lv_room (Nat.le_of_ble_eq_true rfl)) dX13_fits_14 ⟨Nat.zero_le _, Nat.zero_le _⟩) hS (fun H locs hP hD hT hS => ?_)
    have hZ := Option.some.inj h
    have hZ1 := congrArg Prod.fst hZ
    have hZ2 := congrArg Prod.snd hZ
    exact r_iret hx hb hr hlocks hP hK hD hT hG hS hZ1 hZ2 dX13_fits_17
  · replace h := oc_s hN1 h
    have kb1 := hT.f k0 (k := 3) (t := 12) (n := 0) rfl hN1
    refine r_get (T := TX13) (v := .ref (ad b1)) hx hb hts in13 hown hK hP k0 (by decide) rfl 3 (by decide) (hts (.fieldLink RX13 431 "StoneWalkModel" "island" "LStoneWalkModel$Island;") (List.mem_of_getElem? (i := 2) (by decide +kernel))) rfl (t := 2) rfl (by show va_rf _ = _; rw [hN1]; rfl) dX13_fits_6 ?_
    refine lv_ifnonnull (tgt := 18) hx hb dX13_fits_9 rfl ?_
    refine lv_aload_n hx hb dX13_fits_18 rfl (lv_at hl 0 rfl) ?_
    rcases hN3 : gR Mg1 a0 3 with _ | b3
    · replace h := oc_n hN3 h
      refine r_get (T := TX13) (v := .null) hx hb hts in13 hown hK hP k0 (by decide) rfl 3 (by decide) (hts (.fieldLink RX13 431 "StoneWalkModel" "island" "LStoneWalkModel$Island;") (List.mem_of_getElem? (i := 2) (by decide +kernel))) rfl (t := 2) rfl (by show va_rf _ = _; rw [hN3]; rfl) dX13_fits_19 ?_
      exact absurd h (by simp)
    · replace h := oc_s hN3 h
      have kb3 := hT.f k0 (k := 3) (t := 12) (n := 0) rfl hN3
      refine r_get (T := TX13) (v := .ref (ad b3)) hx hb hts in13 hown hK hP k0 (by decide) rfl 3 (by decide) (hts (.fieldLink RX13 431 "StoneWalkModel" "island" "LStoneWalkModel$Island;") (List.mem_of_getElem? (i := 2) (by decide +kernel))) rfl (t := 2) rfl (by show va_rf _ = _; rw [hN3]; rfl) dX13_fits_19 ?_
      refine r_getN (T := TX12) (v := .int (gI Mg1 b3 27)) hx hb hts in12 hown hK hP kb3 (by decide) rfl 27 (by decide) (hG.2.2.1 ("StoneWalkModel", 343, "StoneWalkModel$Island", "trees", "I", "StoneWalkModel") (List.mem_of_getElem? (i := 28) rfl)) rfl (t := 0) rfl rfl dX13_fits_22 ?_
      refine lv_iconst (v := (-1)) hx hb dX13_fits_25 rfl ?_
      refine lv_icmp_ne (tgt := 38) hx hb dX13_fits_26 rfl (fun c4 => ?_) (fun c4 => ?_)
      · replace h := ite_f c4 h
        refine lv_aload_n hx hb dX13_fits_38 rfl (lv_at hl 0 rfl) ?_
        refine lv_aload_n hx hb dX13_fits_39 rfl (lv_at hl 0 rfl) ?_
        obtain ⟨z5, h5, h⟩ := ob_some h
        refine k_i (va_runV (As := []) (rest := [.ref (ad a0)]) ⟨hx, hb, hml, hown, hts⟩ (c_X13_fitting (l := l) Mg1 a0 k0 h5) (cwV 0 hts gX13_fits_X13_fitting rfl rfl rfl hdV_X13_fitting ⟨Nat.le_of_ble_eq_true rfl, Nat.le_of_ble_eq_true rfl⟩) (pV (T := TX13) hP hK hD hT hG hS k0 (by decide) rfl) rfl rfl hl.1 rfl (lv_room (Nat.le_of_ble_eq_true rfl)) dX13_fits_40 ⟨Nat.zero_le _, Nat.zero_le _⟩) hS (fun H locs hP hD hT hS => ?_)
        obtain ⟨z6, h6, h⟩ := ob_some h
        refine k_i (va_runV (As := [.int z5]) (rest := []) ⟨hx, hb, hml, hown, hts⟩ (c_X13_done (l := l) Mg1 a0 z5 k0 h6) (cwV 1 hts gX13_fits_X13_done rfl rfl rfl hdV_X13_done ⟨Nat.le_of_ble_eq_true rfl, Nat.le_of_ble_eq_true rfl⟩) (pV (T := TX13) hP hK hD hT hG hS k0 (by decide) rfl) rfl rfl hl.1 rfl (lv_room (Nat.le_of_ble_eq_true rfl)) dX13_fits_43 ⟨Nat.zero_le _, Nat.zero_le _⟩) hS (fun H locs hP hD hT hS => ?_)
        have hZ := Option.some.inj h
        have hZ1 := congrArg Prod.fst hZ
        have hZ2 := congrArg Prod.snd hZ
        exact r_iret hx hb hr hlocks hP hK hD hT hG hS hZ1 hZ2 dX13_fits_46
      · replace h := ite_t c4 h
        refine lv_aload_n hx hb dX13_fits_29 rfl (lv_at hl 0 rfl) ?_
        refine lv_bipush (v := 6) hx hb dX13_fits_30 rfl ?_
        obtain ⟨z7, h7, h⟩ := ob_some h
        refine k_i (va_runV (As := [.int 6]) (rest := []) ⟨hx, hb, hml, hown, hts⟩ (c_X13_refused (l := l) Mg1 a0 6 k0 h7) (cwV 1 hts gX13_fits_X13_refused rfl rfl rfl hdV_X13_refused ⟨Nat.le_of_ble_eq_true rfl, Nat.le_of_ble_eq_true rfl⟩) (pV (T := TX13) hP hK hD hT hG hS k0 (by decide) rfl) rfl rfl hl.1 rfl (lv_room (Nat.le_of_ble_eq_true rfl)) dX13_fits_32 ⟨Nat.zero_le _, Nat.zero_le _⟩) hS (fun H locs hP hD hT hS => ?_)
        refine lv_goto (tgt := 46) hx hb dX13_fits_35 rfl ?_
        have hZ := Option.some.inj h
        have hZ1 := congrArg Prod.fst hZ
        have hZ2 := congrArg Prod.snd hZ
        exact r_iret hx hb hr hlocks hP hK hD hT hG hS hZ1 hZ2 dX13_fits_46
set_option maxHeartbeats 4000000 in
set_option maxRecDepth 100000 in
theorem c_X13_weight {l : Launch} {D : va_G} {ad : Nat → Nat} {cy : Nat → ClassId} {A : Nat → Prop} {g : CG} {q : SE} (M : MM) (a0 : Nat) (k0 : ok g a0 13 0) {Z : (Int32 × MM)} (h : f_X13_weight M a0 = some Z) : Met l yX13_weight wsX13_weight ({ frames := 3, cells := 0, slots := 0, locals := 75 }) (va_Pc [.ref (ad a0)] (Wd D ad cy A g q M)) (va_Qi (fun r u => r = Z.1 ∧ u = Z.2) (Wd D ad cy A g q) A) 0 0 A := by
  refine Met.ofW (cc := cX13_weight) (maxL := 3) (ret := (some .int)) (by decide) rfl ?_
  intro p e s m args below meth c s₁ B hml hv
  obtain ⟨rfl, hP, hK, hD, hT, hG⟩ := hv
  have hx := B.exec
  have hb := B.bytes
  have hr := B.returns
  have hts := atoms_spec (ws := wsX13_weight) B.pre
  have hown : s.vm.findClass RX13 = some m.cls := findClass_of_methodNamed B.named
  have hlocks := B.notSynchronized
  have in12 : ∀ w ∈ u_ws RX12 TX12 48, w ∈ wsX13_weight := fun w h => List.mem_cons_of_mem _ (List.mem_append_right _ h)
  have in13 : ∀ w ∈ u_ws RX13 TX13 29, w ∈ wsX13_weight := fun w h => List.mem_cons_of_mem _ (List.mem_append_left _ (List.mem_append_right _ h))
  have hS : va_S A s.heap s.heap [] := va_S.rf
  have hl := lv_entry ([.ref (ad a0)]) (n := 3) (Nat.le_of_ble_eq_true rfl)
  rw [lg_entry_eq]
  generalize (lg_sl ([.ref (ad a0)]) ++ List.replicate (3 - (lg_sl ([.ref (ad a0)])).length) Slot.unset).toArray = ls at hl ⊢
  have hl : lv_has ls 3 [(0, .ref (ad a0))] := hl
  unfold f_X13_weight at h
  refine lv_aload_n hx hb dX13_weight_0 rfl (lv_at hl 0 rfl) ?_
  refine lv_iconst (v := 0) hx hb dX13_weight_1 rfl ?_
  refine r_putI (T := TX13) (ty := .int) (v := 0) hx hb hts in13 tyX13 tyX13_ok nmX13 hown hK hP hD hT hS k0 (by decide) rfl 0 (by decide) (hts (.fieldLink RX13 30 "StoneWalkModel" "thrown" "I") (List.mem_of_getElem? (i := 1) (by decide +kernel))) rfl rfl (tyX13_ok 0 (by decide)) rfl rfl rfl dX13_weight_2 (fun H locs hP hD hT hS => ?_)
  generalize pI M a0 0 0 = Mg1 at h hP hD hT ⊢
  refine lv_aload_n hx hb dX13_weight_5 rfl (lv_at hl 0 rfl) ?_
  rcases hN1 : gR Mg1 a0 3 with _ | b1
  · replace h := oc_n hN1 h
    refine r_get (T := TX13) (v := .null) hx hb hts in13 hown hK hP k0 (by decide) rfl 3 (by decide) (hts (.fieldLink RX13 431 "StoneWalkModel" "island" "LStoneWalkModel$Island;") (List.mem_of_getElem? (i := 2) (by decide +kernel))) rfl (t := 2) rfl (by show va_rf _ = _; rw [hN1]; rfl) dX13_weight_6 ?_
    refine lv_ifnonnullN hx hb dX13_weight_9 ?_
    refine lv_aload_n hx hb dX13_weight_12 rfl (lv_at hl 0 rfl) ?_
    refine lv_iconst (v := 1) hx hb dX13_weight_13 rfl ?_
    obtain ⟨z2, h2, h⟩ := ob_some h
    refine k_i (va_runV (As := [.int 1]) (rest := []) ⟨hx, hb, hml, hown, hts⟩ (c_X13_refused (l := l) Mg1 a0 1 k0 h2) (cwV 1 hts gX13_weight_X13_refused rfl rfl rfl hdV_X13_refused ⟨Nat.le_of_ble_eq_true rfl, Nat.le_of_ble_eq_true rfl⟩) (pV (T := TX13) hP hK hD hT hG hS k0 (by decide) rfl) rfl rfl hl.1 rfl (lv_room (Nat.le_of_ble_eq_true rfl)) dX13_weight_14 ⟨Nat.zero_le _, Nat.zero_le _⟩) hS (fun H locs hP hD hT hS => ?_)
    have hZ := Option.some.inj h
    have hZ1 := congrArg Prod.fst hZ
    have hZ2 := congrArg Prod.snd hZ
    exact r_iret hx hb hr hlocks hP hK hD hT hG hS hZ1 hZ2 dX13_weight_17
  · replace h := oc_s hN1 h
    have kb1 := hT.f k0 (k := 3) (t := 12) (n := 0) rfl hN1
    refine r_get (T := TX13) (v := .ref (ad b1)) hx hb hts in13 hown hK hP k0 (by decide) rfl 3 (by decide) (hts (.fieldLink RX13 431 "StoneWalkModel" "island" "LStoneWalkModel$Island;") (List.mem_of_getElem? (i := 2) (by decide +kernel))) rfl (t := 2) rfl (by show va_rf _ = _; rw [hN1]; rfl) dX13_weight_6 ?_
    refine lv_ifnonnull (tgt := 18) hx hb dX13_weight_9 rfl ?_
    refine lv_aload_n hx hb dX13_weight_18 rfl (lv_at hl 0 rfl) ?_
    rcases hN3 : gR Mg1 a0 3 with _ | b3
    · replace h := oc_n hN3 h
      refine r_get (T := TX13) (v := .null) hx hb hts in13 hown hK hP k0 (by decide) rfl 3 (by decide) (hts (.fieldLink RX13 431 "StoneWalkModel" "island" "LStoneWalkModel$Island;") (List.mem_of_getElem? (i := 2) (by decide +kernel))) rfl (t := 2) rfl (by show va_rf _ = _; rw [hN3]; rfl) dX13_weight_19 ?_
      exact absurd h (by simp)
    · replace h := oc_s hN3 h
      have kb3 := hT.f k0 (k := 3) (t := 12) (n := 0) rfl hN3
      refine r_get (T := TX13) (v := .ref (ad b3)) hx hb hts in13 hown hK hP k0 (by decide) rfl 3 (by decide) (hts (.fieldLink RX13 431 "StoneWalkModel" "island" "LStoneWalkModel$Island;") (List.mem_of_getElem? (i := 2) (by decide +kernel))) rfl (t := 2) rfl (by show va_rf _ = _; rw [hN3]; rfl) dX13_weight_19 ?_
      refine r_getN (T := TX12) (v := .int (gI Mg1 b3 27)) hx hb hts in12 hown hK hP kb3 (by decide) rfl 27 (by decide) (hG.2.2.1 ("StoneWalkModel", 343, "StoneWalkModel$Island", "trees", "I", "StoneWalkModel") (List.mem_of_getElem? (i := 28) rfl)) rfl (t := 0) rfl rfl dX13_weight_22 ?_
      refine lv_iconst (v := (-1)) hx hb dX13_weight_25 rfl ?_
      refine lv_icmp_ne (tgt := 36) hx hb dX13_weight_26 rfl (fun c4 => ?_) (fun c4 => ?_)
      · replace h := ite_f c4 h
        refine lv_iconst (v := 0) hx hb dX13_weight_36 rfl ?_
        refine lv_istore_n (lv' := [(1, .int 0), (0, .ref (ad a0))]) hx hb dX13_weight_37 rfl hl (by decide) rfl (fun ls hl => ?_)
        refine lv_iconst (v := 0) hx hb dX13_weight_38 rfl ?_
        refine lv_istore_n (lv' := [(2, .int 0), (1, .int 0), (0, .ref (ad a0))]) hx hb dX13_weight_39 rfl hl (by decide) rfl (fun ls hl => ?_)
        have L5 : ∀ n5 : Nat, ∀ (M5 : MM) (y5_0 : Nat) (y5_1 : Int32) (y5_2 : Int32) (ky5_0 : ok g y5_0 13 0) (H : Heap) (locs : List Loc), f_X13_weight_L40 n5 M5 y5_0 y5_1 y5_2 = some Z → va_P D vwCl (wd ad cy g M5) H → va_D A (wd ad cy g M5) → WT g M5 → va_S A s.heap H locs → ∀ (ls : Array Slot), lv_has ls 3 [(0, .ref (ad y5_0)), (1, .int y5_1), (2, .int y5_2)] → W p l e ((headSpec wsX13_weight ({ frames := 3, cells := 0, slots := 0, locals := 75 })).room) s m (([.ref (ad a0)] : List Value).toArray) below meth c H locs 0 0 (MQ below (va_Qi (fun r u => r = Z.1 ∧ u = Z.2) (Wd D ad cy A g q) A) ([.ref (ad a0)]).toArray s 0 0 A) (F0 m 40 ls []) := by
          intro n5
          induction n5 with
          | zero => intro M5 y5_0 y5_1 y5_2 ky5_0 H locs h; exact absurd h (by simp [f_X13_weight_L40])
          | succ n5 ih5 =>
            intro M5 y5_0 y5_1 y5_2 ky5_0 H locs h hP hD hT hS ls hl
            rw [f_X13_weight_L40] at h
            refine lv_iload_n hx hb dX13_weight_40 rfl (lv_at hl 2 rfl) ?_
            refine lv_aload_n hx hb dX13_weight_41 rfl (lv_at hl 0 rfl) ?_
            rcases hN6 : gR M5 y5_0 3 with _ | b6
            · replace h := oc_n hN6 h
              refine r_get (T := TX13) (v := .null) hx hb hts in13 hown hK hP ky5_0 (by decide) rfl 3 (by decide) (hts (.fieldLink RX13 431 "StoneWalkModel" "island" "LStoneWalkModel$Island;") (List.mem_of_getElem? (i := 2) (by decide +kernel))) rfl (t := 2) rfl (by show va_rf _ = _; rw [hN6]; rfl) dX13_weight_42 ?_
              exact absurd h (by simp)
            · replace h := oc_s hN6 h
              have kb6 := hT.f ky5_0 (k := 3) (t := 12) (n := 0) rfl hN6
              refine r_get (T := TX13) (v := .ref (ad b6)) hx hb hts in13 hown hK hP ky5_0 (by decide) rfl 3 (by decide) (hts (.fieldLink RX13 431 "StoneWalkModel" "island" "LStoneWalkModel$Island;") (List.mem_of_getElem? (i := 2) (by decide +kernel))) rfl (t := 2) rfl (by show va_rf _ = _; rw [hN6]; rfl) dX13_weight_42 ?_
              refine r_getN (T := TX12) (v := .int (gI M5 b6 5)) hx hb hts in12 hown hK hP kb6 (by decide) rfl 5 (by decide) (hG.2.2.1 ("StoneWalkModel", 371, "StoneWalkModel$Island", "stories", "I", "StoneWalkModel") (List.mem_of_getElem? (i := 36) rfl)) rfl (t := 0) rfl rfl dX13_weight_45 ?_
              refine lv_icmp_ge (tgt := 81) hx hb dX13_weight_48 rfl (fun c7 => ?_) (fun c7 => ?_)
              · replace h := ite_t c7 h
                refine lv_aload_n hx hb dX13_weight_81 rfl (lv_at hl 0 rfl) ?_
                refine lv_iload_n hx hb dX13_weight_82 rfl (lv_at hl 1 rfl) ?_
                obtain ⟨z8, h8, h⟩ := ob_some h
                refine k_i (va_runV (As := [.int y5_1]) (rest := []) ⟨hx, hb, hml, hown, hts⟩ (c_X13_done (l := l) M5 y5_0 y5_1 ky5_0 h8) (cwV 1 hts gX13_weight_X13_done rfl rfl rfl hdV_X13_done ⟨Nat.le_of_ble_eq_true rfl, Nat.le_of_ble_eq_true rfl⟩) (pV (T := TX13) hP hK hD hT hG hS ky5_0 (by decide) rfl) rfl rfl hl.1 rfl (lv_room (Nat.le_of_ble_eq_true rfl)) dX13_weight_83 ⟨Nat.zero_le _, Nat.zero_le _⟩) hS (fun H locs hP hD hT hS => ?_)
                have hZ := Option.some.inj h
                have hZ1 := congrArg Prod.fst hZ
                have hZ2 := congrArg Prod.snd hZ
                exact r_iret hx hb hr hlocks hP hK hD hT hG hS hZ1 hZ2 dX13_weight_86
              · replace h := ite_f c7 h
                refine lv_iload_n hx hb dX13_weight_51 rfl (lv_at hl 1 rfl) ?_
                refine lv_aload_n hx hb dX13_weight_52 rfl (lv_at hl 0 rfl) ?_
                refine lv_iload_n hx hb dX13_weight_53 rfl (lv_at hl 2 rfl) ?_
                obtain ⟨z9, h9, h⟩ := ob_some h
                refine k_z (va_runV (As := [.int y5_2]) (rest := [.int y5_1]) ⟨hx, hb, hml, hown, hts⟩ (c_X13_isFit (l := l) M5 y5_0 y5_2 ky5_0 h9) (cwV 1 hts gX13_weight_X13_isFit rfl rfl rfl hdV_X13_isFit ⟨Nat.le_of_ble_eq_true rfl, Nat.le_of_ble_eq_true rfl⟩) (pV (T := TX13) hP hK hD hT hG hS ky5_0 (by decide) rfl) rfl rfl hl.1 rfl (lv_room (Nat.le_of_ble_eq_true rfl)) dX13_weight_54 ⟨Nat.zero_le _, Nat.zero_le _⟩) hS (fun H locs hz9 hP hD hT hS => ?_)
                refine lv_if_eq (tgt := 72) hx hb dX13_weight_57 rfl (fun c10 => ?_) (fun c10 => ?_)
                · replace h := ite_t c10 h
                  refine lv_iconst (v := 0) hx hb dX13_weight_72 rfl ?_
                  refine lv_iadd hx hb dX13_weight_73 ?_
                  refine lv_istore_n (lv' := [(1, .int (y5_1 + 0)), (0, .ref (ad y5_0)), (2, .int y5_2)]) hx hb dX13_weight_74 rfl hl (by decide) rfl (fun ls hl => ?_)
                  refine lv_iinc (v := y5_2 + 1) (lv' := [(2, .int (y5_2 + 1)), (1, .int (y5_1 + 0)), (0, .ref (ad y5_0))]) hx hb dX13_weight_75 hl (k := 2) rfl rfl (by decide) rfl (fun ls hl => ?_)
                  refine lv_goto (tgt := 40) hx hb dX13_weight_78 rfl ?_
                  exact ih5 M5 y5_0 (y5_1 + 0) (y5_2 + 1) ky5_0 _ _ h hP hD hT hS ls (lv_sub hl [2, 1, 0] rfl)
                · replace h := ite_f c10 h
                  refine lv_aload_n hx hb dX13_weight_60 rfl (lv_at hl 0 rfl) ?_
                  rcases hN11 : gR M5 y5_0 3 with _ | b11
                  · replace h := oc_n hN11 h
                    refine r_get (T := TX13) (v := .null) hx hb hts in13 hown hK hP ky5_0 (by decide) rfl 3 (by decide) (hts (.fieldLink RX13 431 "StoneWalkModel" "island" "LStoneWalkModel$Island;") (List.mem_of_getElem? (i := 2) (by decide +kernel))) rfl (t := 2) rfl (by show va_rf _ = _; rw [hN11]; rfl) dX13_weight_61 ?_
                    exact absurd h (by simp)
                  · replace h := oc_s hN11 h
                    have kb11 := hT.f ky5_0 (k := 3) (t := 12) (n := 0) rfl hN11
                    refine r_get (T := TX13) (v := .ref (ad b11)) hx hb hts in13 hown hK hP ky5_0 (by decide) rfl 3 (by decide) (hts (.fieldLink RX13 431 "StoneWalkModel" "island" "LStoneWalkModel$Island;") (List.mem_of_getElem? (i := 2) (by decide +kernel))) rfl (t := 2) rfl (by show va_rf _ = _; rw [hN11]; rfl) dX13_weight_61 ?_
                    rcases hN12 : gR M5 b11 35 with _ | b12
                    · exact absurd (oc_n hN12 h) (by simp)
                    replace h := oc_s hN12 h
                    have kb12 := hT.f kb11 (k := 35) (t := 15) (n := 5) rfl hN12
                    refine r_getN (T := TX12) (v := .ref (ad b12)) hx hb hts in12 hown hK hP kb11 (by decide) rfl 35 (by decide) (hG.2.2.1 ("StoneWalkModel", 382, "StoneWalkModel$Island", "storyWeighs", "[I", "StoneWalkModel") (List.mem_of_getElem? (i := 37) rfl)) rfl (t := 2) rfl (by show va_rf _ = _; rw [hN12]; rfl) dX13_weight_64 ?_
                    refine lv_iload_n hx hb dX13_weight_67 rfl (lv_at hl 2 rfl) ?_
                    obtain ⟨hn13, h⟩ := chk_some h
                    refine r_iald hx hb hK hP kb12 hn13 dX13_weight_68 ?_
                    refine lv_goto (tgt := 73) hx hb dX13_weight_69 rfl ?_
                    refine lv_iadd hx hb dX13_weight_73 ?_
                    refine lv_istore_n (lv' := [(1, .int (y5_1 + (gI M5 b12 (ix y5_2)))), (0, .ref (ad y5_0)), (2, .int y5_2)]) hx hb dX13_weight_74 rfl hl (by decide) rfl (fun ls hl => ?_)
                    refine lv_iinc (v := y5_2 + 1) (lv' := [(2, .int (y5_2 + 1)), (1, .int (y5_1 + (gI M5 b12 (ix y5_2)))), (0, .ref (ad y5_0))]) hx hb dX13_weight_75 hl (k := 2) rfl rfl (by decide) rfl (fun ls hl => ?_)
                    refine lv_goto (tgt := 40) hx hb dX13_weight_78 rfl ?_
                    exact ih5 M5 y5_0 (y5_1 + (gI M5 b12 (ix y5_2))) (y5_2 + 1) ky5_0 _ _ h hP hD hT hS ls (lv_sub hl [2, 1, 0] rfl)
        exact L5 FU Mg1 a0 0 0 k0 _ _ h hP hD hT hS ls (lv_sub hl [2, 1, 0] rfl)
      · replace h := ite_t c4 h
        refine lv_aload_n hx hb dX13_weight_29 rfl (lv_at hl 0 rfl) ?_
        refine lv_bipush (v := 6) hx hb dX13_weight_30 rfl ?_
        obtain ⟨z14, h14, h⟩ := ob_some h
        refine k_i (va_runV (As := [.int 6]) (rest := []) ⟨hx, hb, hml, hown, hts⟩ (c_X13_refused (l := l) Mg1 a0 6 k0 h14) (cwV 1 hts gX13_weight_X13_refused rfl rfl rfl hdV_X13_refused ⟨Nat.le_of_ble_eq_true rfl, Nat.le_of_ble_eq_true rfl⟩) (pV (T := TX13) hP hK hD hT hG hS k0 (by decide) rfl) rfl rfl hl.1 rfl (lv_room (Nat.le_of_ble_eq_true rfl)) dX13_weight_32 ⟨Nat.zero_le _, Nat.zero_le _⟩) hS (fun H locs hP hD hT hS => ?_)
        have hZ := Option.some.inj h
        have hZ1 := congrArg Prod.fst hZ
        have hZ2 := congrArg Prod.snd hZ
        exact r_iret hx hb hr hlocks hP hK hD hT hG hS hZ1 hZ2 dX13_weight_35
set_option maxHeartbeats 4000000 in
set_option maxRecDepth 100000 in
theorem c_X13_gone {l : Launch} {D : va_G} {ad : Nat → Nat} {cy : Nat → ClassId} {A : Nat → Prop} {g : CG} {q : SE} (M : MM) (a0 : Nat) (x1 : Int32) (k0 : ok g a0 13 0) {Z : (Int32 × MM)} (h : f_X13_gone M a0 x1 = some Z) : Met l yX13_gone wsX13_gone ({ frames := 2, cells := 0, slots := 0, locals := 52 }) (va_Pc [.ref (ad a0), .int x1] (Wd D ad cy A g q M)) (va_Qi (fun r u => r = Z.1 ∧ u = Z.2) (Wd D ad cy A g q) A) 0 0 A := by
  refine Met.ofW (cc := cX13_gone) (maxL := 3) (ret := (some .int)) (by decide) rfl ?_
  intro p e s m args below meth c s₁ B hml hv
  obtain ⟨rfl, hP, hK, hD, hT, hG⟩ := hv
  have hx := B.exec
  have hb := B.bytes
  have hr := B.returns
  have hts := atoms_spec (ws := wsX13_gone) B.pre
  have hown : s.vm.findClass RX13 = some m.cls := findClass_of_methodNamed B.named
  have hlocks := B.notSynchronized
  have in12 : ∀ w ∈ u_ws RX12 TX12 48, w ∈ wsX13_gone := fun w h => List.mem_cons_of_mem _ (List.mem_append_right _ h)
  have in13 : ∀ w ∈ u_ws RX13 TX13 29, w ∈ wsX13_gone := fun w h => List.mem_cons_of_mem _ (List.mem_append_left _ (List.mem_append_right _ h))
  have hS : va_S A s.heap s.heap [] := va_S.rf
  have hl := lv_entry ([.ref (ad a0), .int x1]) (n := 3) (Nat.le_of_ble_eq_true rfl)
  rw [lg_entry_eq]
  generalize (lg_sl ([.ref (ad a0), .int x1]) ++ List.replicate (3 - (lg_sl ([.ref (ad a0), .int x1])).length) Slot.unset).toArray = ls at hl ⊢
  have hl : lv_has ls 3 [(0, .ref (ad a0)), (1, .int x1)] := hl
  unfold f_X13_gone at h
  refine lv_aload_n hx hb dX13_gone_0 rfl (lv_at hl 0 rfl) ?_
  refine lv_iconst (v := 0) hx hb dX13_gone_1 rfl ?_
  refine r_putI (T := TX13) (ty := .int) (v := 0) hx hb hts in13 tyX13 tyX13_ok nmX13 hown hK hP hD hT hS k0 (by decide) rfl 0 (by decide) (hts (.fieldLink RX13 30 "StoneWalkModel" "thrown" "I") (List.mem_of_getElem? (i := 1) (by decide +kernel))) rfl rfl (tyX13_ok 0 (by decide)) rfl rfl rfl dX13_gone_2 (fun H locs hP hD hT hS => ?_)
  generalize pI M a0 0 0 = Mg1 at h hP hD hT ⊢
  refine lv_aload_n hx hb dX13_gone_5 rfl (lv_at hl 0 rfl) ?_
  refine lv_iload_n hx hb dX13_gone_6 rfl (lv_at hl 1 rfl) ?_
  obtain ⟨z1, h1, h⟩ := ob_some h
  refine k_z (va_runV (As := [.int x1]) (rest := []) ⟨hx, hb, hml, hown, hts⟩ (c_X13_isStory (l := l) Mg1 a0 x1 k0 h1) (cwV 1 hts gX13_gone_X13_isStory rfl rfl rfl hdV_X13_isStory ⟨Nat.le_of_ble_eq_true rfl, Nat.le_of_ble_eq_true rfl⟩) (pV (T := TX13) hP hK hD hT hG hS k0 (by decide) rfl) rfl rfl hl.1 rfl (lv_room (Nat.le_of_ble_eq_true rfl)) dX13_gone_7 ⟨Nat.zero_le _, Nat.zero_le _⟩) hS (fun H locs hz1 hP hD hT hS => ?_)
  refine lv_if_ne (tgt := 19) hx hb dX13_gone_10 rfl (fun c2 => ?_) (fun c2 => ?_)
  · replace h := ite_f c2 h
    refine lv_aload_n hx hb dX13_gone_19 rfl (lv_at hl 0 rfl) ?_
    rcases hN3 : gR Mg1 a0 3 with _ | b3
    · replace h := oc_n hN3 h
      refine r_get (T := TX13) (v := .null) hx hb hts in13 hown hK hP k0 (by decide) rfl 3 (by decide) (hts (.fieldLink RX13 431 "StoneWalkModel" "island" "LStoneWalkModel$Island;") (List.mem_of_getElem? (i := 2) (by decide +kernel))) rfl (t := 2) rfl (by show va_rf _ = _; rw [hN3]; rfl) dX13_gone_20 ?_
      exact absurd h (by simp)
    · replace h := oc_s hN3 h
      have kb3 := hT.f k0 (k := 3) (t := 12) (n := 0) rfl hN3
      refine r_get (T := TX13) (v := .ref (ad b3)) hx hb hts in13 hown hK hP k0 (by decide) rfl 3 (by decide) (hts (.fieldLink RX13 431 "StoneWalkModel" "island" "LStoneWalkModel$Island;") (List.mem_of_getElem? (i := 2) (by decide +kernel))) rfl (t := 2) rfl (by show va_rf _ = _; rw [hN3]; rfl) dX13_gone_20 ?_
      refine r_getN (T := TX12) (v := .int (gI Mg1 b3 27)) hx hb hts in12 hown hK hP kb3 (by decide) rfl 27 (by decide) (hG.2.2.1 ("StoneWalkModel", 343, "StoneWalkModel$Island", "trees", "I", "StoneWalkModel") (List.mem_of_getElem? (i := 28) rfl)) rfl (t := 0) rfl rfl dX13_gone_23 ?_
      refine lv_iconst (v := (-1)) hx hb dX13_gone_26 rfl ?_
      refine lv_icmp_ne (tgt := 37) hx hb dX13_gone_27 rfl (fun c4 => ?_) (fun c4 => ?_)
      · replace h := ite_f c4 h
        refine lv_iconst (v := 0) hx hb dX13_gone_37 rfl ?_
        refine lv_istore_n (lv' := [(2, .int 0), (0, .ref (ad a0)), (1, .int x1)]) hx hb dX13_gone_38 rfl hl (by decide) rfl (fun ls hl => ?_)
        have L5 : ∀ n5 : Nat, ∀ (M5 : MM) (y5_0 : Nat) (y5_1 : Int32) (y5_2 : Int32) (ky5_0 : ok g y5_0 13 0) (H : Heap) (locs : List Loc), f_X13_gone_L39 n5 M5 y5_0 y5_1 y5_2 = some Z → va_P D vwCl (wd ad cy g M5) H → va_D A (wd ad cy g M5) → WT g M5 → va_S A s.heap H locs → ∀ (ls : Array Slot), lv_has ls 3 [(0, .ref (ad y5_0)), (1, .int y5_1), (2, .int y5_2)] → W p l e ((headSpec wsX13_gone ({ frames := 2, cells := 0, slots := 0, locals := 52 })).room) s m (([.ref (ad a0), .int x1] : List Value).toArray) below meth c H locs 0 0 (MQ below (va_Qi (fun r u => r = Z.1 ∧ u = Z.2) (Wd D ad cy A g q) A) ([.ref (ad a0), .int x1]).toArray s 0 0 A) (F0 m 39 ls []) := by
          intro n5
          induction n5 with
          | zero => intro M5 y5_0 y5_1 y5_2 ky5_0 H locs h; exact absurd h (by simp [f_X13_gone_L39])
          | succ n5 ih5 =>
            intro M5 y5_0 y5_1 y5_2 ky5_0 H locs h hP hD hT hS ls hl
            rw [f_X13_gone_L39] at h
            refine lv_iload_n hx hb dX13_gone_39 rfl (lv_at hl 2 rfl) ?_
            refine lv_bipush (v := 100) hx hb dX13_gone_40 rfl ?_
            refine lv_icmp_ge (tgt := 68) hx hb dX13_gone_42 rfl (fun c6 => ?_) (fun c6 => ?_)
            · replace h := ite_t c6 h
              refine lv_aload_n hx hb dX13_gone_68 rfl (lv_at hl 0 rfl) ?_
              refine lv_bipush (v := (-2)) hx hb dX13_gone_69 rfl ?_
              obtain ⟨z7, h7, h⟩ := ob_some h
              refine k_i (va_runV (As := [.int (-2)]) (rest := []) ⟨hx, hb, hml, hown, hts⟩ (c_X13_done (l := l) M5 y5_0 (-2) ky5_0 h7) (cwV 1 hts gX13_gone_X13_done rfl rfl rfl hdV_X13_done ⟨Nat.le_of_ble_eq_true rfl, Nat.le_of_ble_eq_true rfl⟩) (pV (T := TX13) hP hK hD hT hG hS ky5_0 (by decide) rfl) rfl rfl hl.1 rfl (lv_room (Nat.le_of_ble_eq_true rfl)) dX13_gone_71 ⟨Nat.zero_le _, Nat.zero_le _⟩) hS (fun H locs hP hD hT hS => ?_)
              have hZ := Option.some.inj h
              have hZ1 := congrArg Prod.fst hZ
              have hZ2 := congrArg Prod.snd hZ
              exact r_iret hx hb hr hlocks hP hK hD hT hG hS hZ1 hZ2 dX13_gone_74
            · replace h := ite_f c6 h
              refine lv_aload_n hx hb dX13_gone_45 rfl (lv_at hl 0 rfl) ?_
              refine lv_iload_n hx hb dX13_gone_46 rfl (lv_at hl 1 rfl) ?_
              refine lv_iload_n hx hb dX13_gone_47 rfl (lv_at hl 2 rfl) ?_
              obtain ⟨z8, h8, h⟩ := ob_some h
              refine k_i (va_runV (As := [.int y5_1, .int y5_2]) (rest := []) ⟨hx, hb, hml, hown, hts⟩ (c_X13_treesIn (l := l) M5 y5_0 y5_1 y5_2 ky5_0 h8) (cwV 2 hts gX13_gone_X13_treesIn rfl rfl rfl hdV_X13_treesIn ⟨Nat.le_of_ble_eq_true rfl, Nat.le_of_ble_eq_true rfl⟩) (pV (T := TX13) hP hK hD hT hG hS ky5_0 (by decide) rfl) rfl rfl hl.1 rfl (lv_room (Nat.le_of_ble_eq_true rfl)) dX13_gone_48 ⟨Nat.zero_le _, Nat.zero_le _⟩) hS (fun H locs hP hD hT hS => ?_)
              refine lv_bipush (v := 10) hx hb dX13_gone_51 rfl ?_
              refine lv_icmp_ge (tgt := 62) hx hb dX13_gone_53 rfl (fun c9 => ?_) (fun c9 => ?_)
              · replace h := ite_t c9 h
                refine lv_iinc (v := y5_2 + 1) (lv' := [(2, .int (y5_2 + 1)), (0, .ref (ad y5_0)), (1, .int y5_1)]) hx hb dX13_gone_62 hl (k := 2) rfl rfl (by decide) rfl (fun ls hl => ?_)
                refine lv_goto (tgt := 39) hx hb dX13_gone_65 rfl ?_
                exact ih5 M5 y5_0 y5_1 (y5_2 + 1) ky5_0 _ _ h hP hD hT hS ls (lv_sub hl [1, 2, 0] rfl)
              · replace h := ite_f c9 h
                refine lv_aload_n hx hb dX13_gone_56 rfl (lv_at hl 0 rfl) ?_
                refine lv_iload_n hx hb dX13_gone_57 rfl (lv_at hl 2 rfl) ?_
                obtain ⟨z10, h10, h⟩ := ob_some h
                refine k_i (va_runV (As := [.int y5_2]) (rest := []) ⟨hx, hb, hml, hown, hts⟩ (c_X13_done (l := l) M5 y5_0 y5_2 ky5_0 h10) (cwV 1 hts gX13_gone_X13_done rfl rfl rfl hdV_X13_done ⟨Nat.le_of_ble_eq_true rfl, Nat.le_of_ble_eq_true rfl⟩) (pV (T := TX13) hP hK hD hT hG hS ky5_0 (by decide) rfl) rfl rfl hl.1 rfl (lv_room (Nat.le_of_ble_eq_true rfl)) dX13_gone_58 ⟨Nat.zero_le _, Nat.zero_le _⟩) hS (fun H locs hP hD hT hS => ?_)
                have hZ := Option.some.inj h
                have hZ1 := congrArg Prod.fst hZ
                have hZ2 := congrArg Prod.snd hZ
                exact r_iret hx hb hr hlocks hP hK hD hT hG hS hZ1 hZ2 dX13_gone_61
        exact L5 FU Mg1 a0 x1 0 k0 _ _ h hP hD hT hS ls (lv_sub hl [1, 2, 0] rfl)
      · replace h := ite_t c4 h
        refine lv_aload_n hx hb dX13_gone_30 rfl (lv_at hl 0 rfl) ?_
        refine lv_bipush (v := 6) hx hb dX13_gone_31 rfl ?_
        obtain ⟨z11, h11, h⟩ := ob_some h
        refine k_i (va_runV (As := [.int 6]) (rest := []) ⟨hx, hb, hml, hown, hts⟩ (c_X13_refused (l := l) Mg1 a0 6 k0 h11) (cwV 1 hts gX13_gone_X13_refused rfl rfl rfl hdV_X13_refused ⟨Nat.le_of_ble_eq_true rfl, Nat.le_of_ble_eq_true rfl⟩) (pV (T := TX13) hP hK hD hT hG hS k0 (by decide) rfl) rfl rfl hl.1 rfl (lv_room (Nat.le_of_ble_eq_true rfl)) dX13_gone_33 ⟨Nat.zero_le _, Nat.zero_le _⟩) hS (fun H locs hP hD hT hS => ?_)
        have hZ := Option.some.inj h
        have hZ1 := congrArg Prod.fst hZ
        have hZ2 := congrArg Prod.snd hZ
        exact r_iret hx hb hr hlocks hP hK hD hT hG hS hZ1 hZ2 dX13_gone_36
  · replace h := ite_t c2 h
    refine lv_aload_n hx hb dX13_gone_13 rfl (lv_at hl 0 rfl) ?_
    refine lv_iconst (v := 1) hx hb dX13_gone_14 rfl ?_
    obtain ⟨z12, h12, h⟩ := ob_some h
    refine k_i (va_runV (As := [.int 1]) (rest := []) ⟨hx, hb, hml, hown, hts⟩ (c_X13_refused (l := l) Mg1 a0 1 k0 h12) (cwV 1 hts gX13_gone_X13_refused rfl rfl rfl hdV_X13_refused ⟨Nat.le_of_ble_eq_true rfl, Nat.le_of_ble_eq_true rfl⟩) (pV (T := TX13) hP hK hD hT hG hS k0 (by decide) rfl) rfl rfl hl.1 rfl (lv_room (Nat.le_of_ble_eq_true rfl)) dX13_gone_15 ⟨Nat.zero_le _, Nat.zero_le _⟩) hS (fun H locs hP hD hT hS => ?_)
    have hZ := Option.some.inj h
    have hZ1 := congrArg Prod.fst hZ
    have hZ2 := congrArg Prod.snd hZ
    exact r_iret hx hb hr hlocks hP hK hD hT hG hS hZ1 hZ2 dX13_gone_18
set_option maxHeartbeats 4000000 in
set_option maxRecDepth 100000 in
theorem c_X13_dig {l : Launch} {D : va_G} {ad : Nat → Nat} {cy : Nat → ClassId} {A : Nat → Prop} {g : CG} {q : SE} (M : MM) (a0 : Nat) (k0 : ok g a0 13 0) {Z : (Int32 × MM)} (h : f_X13_dig M a0 = some Z) : Met l yX13_dig wsX13_dig ({ frames := 4, cells := 0, slots := 0, locals := 97 }) (va_Pc [.ref (ad a0)] (Wd D ad cy A g q M)) (va_Qi (fun r u => r = Z.1 ∧ u = Z.2) (Wd D ad cy A g q) A) 0 0 A := by
  refine Met.ofW (cc := cX13_dig) (maxL := 9) (ret := (some .int)) (by decide) rfl ?_
  intro p e s m args below meth c s₁ B hml hv
  obtain ⟨rfl, hP, hK, hD, hT, hG⟩ := hv
  have hx := B.exec
  have hb := B.bytes
  have hr := B.returns
  have hts := atoms_spec (ws := wsX13_dig) B.pre
  have hown : s.vm.findClass RX13 = some m.cls := findClass_of_methodNamed B.named
  have hlocks := B.notSynchronized
  have in12 : ∀ w ∈ u_ws RX12 TX12 48, w ∈ wsX13_dig := fun w h => List.mem_cons_of_mem _ (List.mem_append_right _ h)
  have in13 : ∀ w ∈ u_ws RX13 TX13 29, w ∈ wsX13_dig := fun w h => List.mem_cons_of_mem _ (List.mem_append_left _ (List.mem_append_right _ h))
  have hS : va_S A s.heap s.heap [] := va_S.rf
  have hl := lv_entry ([.ref (ad a0)]) (n := 9) (Nat.le_of_ble_eq_true rfl)
  rw [lg_entry_eq]
  generalize (lg_sl ([.ref (ad a0)]) ++ List.replicate (9 - (lg_sl ([.ref (ad a0)])).length) Slot.unset).toArray = ls at hl ⊢
  have hl : lv_has ls 9 [(0, .ref (ad a0))] := hl
  unfold f_X13_dig at h
  refine lv_aload_n hx hb dX13_dig_0 rfl (lv_at hl 0 rfl) ?_
  refine lv_iconst (v := 0) hx hb dX13_dig_1 rfl ?_
  refine r_putI (T := TX13) (ty := .int) (v := 0) hx hb hts in13 tyX13 tyX13_ok nmX13 hown hK hP hD hT hS k0 (by decide) rfl 0 (by decide) (hts (.fieldLink RX13 30 "StoneWalkModel" "thrown" "I") (List.mem_of_getElem? (i := 1) (by decide +kernel))) rfl rfl (tyX13_ok 0 (by decide)) rfl rfl rfl dX13_dig_2 (fun H locs hP hD hT hS => ?_)
  generalize pI M a0 0 0 = Mg1 at h hP hD hT ⊢
  refine lv_aload_n hx hb dX13_dig_5 rfl (lv_at hl 0 rfl) ?_
  rcases hN1 : gR Mg1 a0 3 with _ | b1
  · replace h := oc_n hN1 h
    refine r_get (T := TX13) (v := .null) hx hb hts in13 hown hK hP k0 (by decide) rfl 3 (by decide) (hts (.fieldLink RX13 431 "StoneWalkModel" "island" "LStoneWalkModel$Island;") (List.mem_of_getElem? (i := 2) (by decide +kernel))) rfl (t := 2) rfl (by show va_rf _ = _; rw [hN1]; rfl) dX13_dig_6 ?_
    refine lv_ifnonnullN hx hb dX13_dig_9 ?_
    refine lv_aload_n hx hb dX13_dig_12 rfl (lv_at hl 0 rfl) ?_
    refine lv_iconst (v := 1) hx hb dX13_dig_13 rfl ?_
    obtain ⟨z2, h2, h⟩ := ob_some h
    refine k_i (va_runV (As := [.int 1]) (rest := []) ⟨hx, hb, hml, hown, hts⟩ (c_X13_refused (l := l) Mg1 a0 1 k0 h2) (cwV 1 hts gX13_dig_X13_refused rfl rfl rfl hdV_X13_refused ⟨Nat.le_of_ble_eq_true rfl, Nat.le_of_ble_eq_true rfl⟩) (pV (T := TX13) hP hK hD hT hG hS k0 (by decide) rfl) rfl rfl hl.1 rfl (lv_room (Nat.le_of_ble_eq_true rfl)) dX13_dig_14 ⟨Nat.zero_le _, Nat.zero_le _⟩) hS (fun H locs hP hD hT hS => ?_)
    have hZ := Option.some.inj h
    have hZ1 := congrArg Prod.fst hZ
    have hZ2 := congrArg Prod.snd hZ
    exact r_iret hx hb hr hlocks hP hK hD hT hG hS hZ1 hZ2 dX13_dig_17
  · replace h := oc_s hN1 h
    have kb1 := hT.f k0 (k := 3) (t := 12) (n := 0) rfl hN1
    refine r_get (T := TX13) (v := .ref (ad b1)) hx hb hts in13 hown hK hP k0 (by decide) rfl 3 (by decide) (hts (.fieldLink RX13 431 "StoneWalkModel" "island" "LStoneWalkModel$Island;") (List.mem_of_getElem? (i := 2) (by decide +kernel))) rfl (t := 2) rfl (by show va_rf _ = _; rw [hN1]; rfl) dX13_dig_6 ?_
    refine lv_ifnonnull (tgt := 18) hx hb dX13_dig_9 rfl ?_
    refine lv_aload_n hx hb dX13_dig_18 rfl (lv_at hl 0 rfl) ?_
    rcases hN3 : gR Mg1 a0 3 with _ | b3
    · replace h := oc_n hN3 h
      refine r_get (T := TX13) (v := .null) hx hb hts in13 hown hK hP k0 (by decide) rfl 3 (by decide) (hts (.fieldLink RX13 431 "StoneWalkModel" "island" "LStoneWalkModel$Island;") (List.mem_of_getElem? (i := 2) (by decide +kernel))) rfl (t := 2) rfl (by show va_rf _ = _; rw [hN3]; rfl) dX13_dig_19 ?_
      exact absurd h (by simp)
    · replace h := oc_s hN3 h
      have kb3 := hT.f k0 (k := 3) (t := 12) (n := 0) rfl hN3
      refine r_get (T := TX13) (v := .ref (ad b3)) hx hb hts in13 hown hK hP k0 (by decide) rfl 3 (by decide) (hts (.fieldLink RX13 431 "StoneWalkModel" "island" "LStoneWalkModel$Island;") (List.mem_of_getElem? (i := 2) (by decide +kernel))) rfl (t := 2) rfl (by show va_rf _ = _; rw [hN3]; rfl) dX13_dig_19 ?_
      refine r_getN (T := TX12) (v := .int (gI Mg1 b3 27)) hx hb hts in12 hown hK hP kb3 (by decide) rfl 27 (by decide) (hG.2.2.1 ("StoneWalkModel", 343, "StoneWalkModel$Island", "trees", "I", "StoneWalkModel") (List.mem_of_getElem? (i := 28) rfl)) rfl (t := 0) rfl rfl dX13_dig_22 ?_
      refine lv_iconst (v := (-1)) hx hb dX13_dig_25 rfl ?_
      refine lv_icmp_eq (tgt := 36) hx hb dX13_dig_26 rfl (fun c4 => ?_) (fun c4 => ?_)
      · replace h := ite_t c4 h
        refine lv_aload_n hx hb dX13_dig_36 rfl (lv_at hl 0 rfl) ?_
        refine lv_bipush (v := 6) hx hb dX13_dig_37 rfl ?_
        obtain ⟨z5, h5, h⟩ := ob_some h
        refine k_i (va_runV (As := [.int 6]) (rest := []) ⟨hx, hb, hml, hown, hts⟩ (c_X13_refused (l := l) Mg1 a0 6 k0 h5) (cwV 1 hts gX13_dig_X13_refused rfl rfl rfl hdV_X13_refused ⟨Nat.le_of_ble_eq_true rfl, Nat.le_of_ble_eq_true rfl⟩) (pV (T := TX13) hP hK hD hT hG hS k0 (by decide) rfl) rfl rfl hl.1 rfl (lv_room (Nat.le_of_ble_eq_true rfl)) dX13_dig_39 ⟨Nat.zero_le _, Nat.zero_le _⟩) hS (fun H locs hP hD hT hS => ?_)
        have hZ := Option.some.inj h
        have hZ1 := congrArg Prod.fst hZ
        have hZ2 := congrArg Prod.snd hZ
        exact r_iret hx hb hr hlocks hP hK hD hT hG hS hZ1 hZ2 dX13_dig_42
      · replace h := ite_f c4 h
        refine lv_aload_n hx hb dX13_dig_29 rfl (lv_at hl 0 rfl) ?_
        obtain ⟨z6, h6, h⟩ := ob_some h
        refine k_i (va_runV (As := []) (rest := []) ⟨hx, hb, hml, hown, hts⟩ (c_X13_fitting (l := l) Mg1 a0 k0 h6) (cwV 0 hts gX13_dig_X13_fitting rfl rfl rfl hdV_X13_fitting ⟨Nat.le_of_ble_eq_true rfl, Nat.le_of_ble_eq_true rfl⟩) (pV (T := TX13) hP hK hD hT hG hS k0 (by decide) rfl) rfl rfl hl.1 rfl (lv_room (Nat.le_of_ble_eq_true rfl)) dX13_dig_30 ⟨Nat.zero_le _, Nat.zero_le _⟩) hS (fun H locs hP hD hT hS => ?_)
        refine lv_if_ne (tgt := 43) hx hb dX13_dig_33 rfl (fun c7 => ?_) (fun c7 => ?_)
        · replace h := ite_f c7 h
          refine lv_aload_n hx hb dX13_dig_43 rfl (lv_at hl 0 rfl) ?_
          obtain ⟨z8, h8, h⟩ := ob_some h
          refine k_i (va_runV (As := []) (rest := []) ⟨hx, hb, hml, hown, hts⟩ (c_X13_fitting (l := l) Mg1 a0 k0 h8) (cwV 0 hts gX13_dig_X13_fitting rfl rfl rfl hdV_X13_fitting ⟨Nat.le_of_ble_eq_true rfl, Nat.le_of_ble_eq_true rfl⟩) (pV (T := TX13) hP hK hD hT hG hS k0 (by decide) rfl) rfl rfl hl.1 rfl (lv_room (Nat.le_of_ble_eq_true rfl)) dX13_dig_44 ⟨Nat.zero_le _, Nat.zero_le _⟩) hS (fun H locs hP hD hT hS => ?_)
          refine lv_istore_n (lv' := [(1, .int z8), (0, .ref (ad a0))]) hx hb dX13_dig_47 rfl hl (by decide) rfl (fun ls hl => ?_)
          refine lv_iconst (v := 0) hx hb dX13_dig_48 rfl ?_
          refine lv_istore_n (lv' := [(2, .int 0), (1, .int z8), (0, .ref (ad a0))]) hx hb dX13_dig_49 rfl hl (by decide) rfl (fun ls hl => ?_)
          refine lv_iconst (v := (-1)) hx hb dX13_dig_50 rfl ?_
          refine lv_istore_n (lv' := [(3, .int (-1)), (2, .int 0), (1, .int z8), (0, .ref (ad a0))]) hx hb dX13_dig_51 rfl hl (by decide) rfl (fun ls hl => ?_)
          refine lv_iconst (v := 0) hx hb dX13_dig_52 rfl ?_
          refine lv_istore (lv' := [(4, .int 0), (3, .int (-1)), (2, .int 0), (1, .int z8), (0, .ref (ad a0))]) hx hb dX13_dig_53 hl (by decide) rfl (fun ls hl => ?_)
          have L9 : ∀ n9 : Nat, ∀ (M9 : MM) (y9_0 : Nat) (y9_1 : Int32) (y9_2 : Int32) (y9_3 : Int32) (y9_4 : Int32) (ky9_0 : ok g y9_0 13 0) (H : Heap) (locs : List Loc), f_X13_dig_L55 n9 M9 y9_0 y9_1 y9_2 y9_3 y9_4 = some Z → va_P D vwCl (wd ad cy g M9) H → va_D A (wd ad cy g M9) → WT g M9 → va_S A s.heap H locs → ∀ (ls : Array Slot), lv_has ls 9 [(0, .ref (ad y9_0)), (1, .int y9_1), (2, .int y9_2), (3, .int y9_3), (4, .int y9_4)] → W p l e ((headSpec wsX13_dig ({ frames := 4, cells := 0, slots := 0, locals := 97 })).room) s m (([.ref (ad a0)] : List Value).toArray) below meth c H locs 0 0 (MQ below (va_Qi (fun r u => r = Z.1 ∧ u = Z.2) (Wd D ad cy A g q) A) ([.ref (ad a0)]).toArray s 0 0 A) (F0 m 55 ls []) := by
            intro n9
            induction n9 with
            | zero => intro M9 y9_0 y9_1 y9_2 y9_3 y9_4 ky9_0 H locs h; exact absurd h (by simp [f_X13_dig_L55])
            | succ n9 ih9 =>
              intro M9 y9_0 y9_1 y9_2 y9_3 y9_4 ky9_0 H locs h hP hD hT hS ls hl
              rw [f_X13_dig_L55] at h
              refine lv_iload hx hb dX13_dig_55 (lv_at hl 4 rfl) ?_
              refine lv_bipush (v := 100) hx hb dX13_dig_57 rfl ?_
              refine lv_icmp_ge (tgt := 172) hx hb dX13_dig_59 rfl (fun c10 => ?_) (fun c10 => ?_)
              · replace h := ite_t c10 h
                refine lv_aload_n hx hb dX13_dig_172 rfl (lv_at hl 0 rfl) ?_
                refine lv_iload_n hx hb dX13_dig_173 rfl (lv_at hl 2 rfl) ?_
                obtain ⟨z11, h11, h⟩ := ob_some h
                refine k_i (va_runV (As := [.int y9_2]) (rest := []) ⟨hx, hb, hml, hown, hts⟩ (c_X13_done (l := l) M9 y9_0 y9_2 ky9_0 h11) (cwV 1 hts gX13_dig_X13_done rfl rfl rfl hdV_X13_done ⟨Nat.le_of_ble_eq_true rfl, Nat.le_of_ble_eq_true rfl⟩) (pV (T := TX13) hP hK hD hT hG hS ky9_0 (by decide) rfl) rfl rfl hl.1 rfl (lv_room (Nat.le_of_ble_eq_true rfl)) dX13_dig_174 ⟨Nat.zero_le _, Nat.zero_le _⟩) hS (fun H locs hP hD hT hS => ?_)
                have hZ := Option.some.inj h
                have hZ1 := congrArg Prod.fst hZ
                have hZ2 := congrArg Prod.snd hZ
                exact r_iret hx hb hr hlocks hP hK hD hT hG hS hZ1 hZ2 dX13_dig_177
              · replace h := ite_f c10 h
                refine lv_sipush (v := 9999) hx hb dX13_dig_62 rfl ?_
                refine lv_istore (lv' := [(5, .int 9999), (0, .ref (ad y9_0)), (1, .int y9_1), (2, .int y9_2), (3, .int y9_3), (4, .int y9_4)]) hx hb dX13_dig_65 hl (by decide) rfl (fun ls hl => ?_)
                refine lv_iconst (v := 0) hx hb dX13_dig_67 rfl ?_
                refine lv_istore (lv' := [(6, .int 0), (5, .int 9999), (0, .ref (ad y9_0)), (1, .int y9_1), (2, .int y9_2), (3, .int y9_3), (4, .int y9_4)]) hx hb dX13_dig_68 hl (by decide) rfl (fun ls hl => ?_)
                refine lv_iconst (v := 0) hx hb dX13_dig_70 rfl ?_
                refine lv_istore (lv' := [(7, .int 0), (6, .int 0), (5, .int 9999), (0, .ref (ad y9_0)), (1, .int y9_1), (2, .int y9_2), (3, .int y9_3), (4, .int y9_4)]) hx hb dX13_dig_71 hl (by decide) rfl (fun ls hl => ?_)
                have L12 : ∀ n12 : Nat, ∀ (M12 : MM) (y12_0 : Nat) (y12_1 : Int32) (y12_2 : Int32) (y12_3 : Int32) (y12_4 : Int32) (y12_5 : Int32) (y12_6 : Int32) (y12_7 : Int32) (ky12_0 : ok g y12_0 13 0) (H : Heap) (locs : List Loc), f_X13_dig_L73 (fun M y9_0 y9_1 y9_2 y9_3 y9_4 => f_X13_dig_L55 n9 M y9_0 y9_1 y9_2 y9_3 y9_4) n12 M12 y12_0 y12_1 y12_2 y12_3 y12_4 y12_5 y12_6 y12_7 = some Z → va_P D vwCl (wd ad cy g M12) H → va_D A (wd ad cy g M12) → WT g M12 → va_S A s.heap H locs → ∀ (ls : Array Slot), lv_has ls 9 [(0, .ref (ad y12_0)), (1, .int y12_1), (2, .int y12_2), (3, .int y12_3), (4, .int y12_4), (5, .int y12_5), (6, .int y12_6), (7, .int y12_7)] → W p l e ((headSpec wsX13_dig ({ frames := 4, cells := 0, slots := 0, locals := 97 })).room) s m (([.ref (ad a0)] : List Value).toArray) below meth c H locs 0 0 (MQ below (va_Qi (fun r u => r = Z.1 ∧ u = Z.2) (Wd D ad cy A g q) A) ([.ref (ad a0)]).toArray s 0 0 A) (F0 m 73 ls []) := by
                  intro n12
                  induction n12 with
                  | zero => intro M12 y12_0 y12_1 y12_2 y12_3 y12_4 y12_5 y12_6 y12_7 ky12_0 H locs h; exact absurd h (by simp [f_X13_dig_L73])
                  | succ n12 ih12 =>
                    intro M12 y12_0 y12_1 y12_2 y12_3 y12_4 y12_5 y12_6 y12_7 ky12_0 H locs h hP hD hT hS ls hl
                    rw [f_X13_dig_L73] at h
                    refine lv_iload hx hb dX13_dig_73 (lv_at hl 7 rfl) ?_
                    refine lv_aload_n hx hb dX13_dig_75 rfl (lv_at hl 0 rfl) ?_
                    rcases hN13 : gR M12 y12_0 3 with _ | b13
                    · replace h := oc_n hN13 h
                      refine r_get (T := TX13) (v := .null) hx hb hts in13 hown hK hP ky12_0 (by decide) rfl 3 (by decide) (hts (.fieldLink RX13 431 "StoneWalkModel" "island" "LStoneWalkModel$Island;") (List.mem_of_getElem? (i := 2) (by decide +kernel))) rfl (t := 2) rfl (by show va_rf _ = _; rw [hN13]; rfl) dX13_dig_76 ?_
                      exact absurd h (by simp)
                    · replace h := oc_s hN13 h
                      have kb13 := hT.f ky12_0 (k := 3) (t := 12) (n := 0) rfl hN13
                      refine r_get (T := TX13) (v := .ref (ad b13)) hx hb hts in13 hown hK hP ky12_0 (by decide) rfl 3 (by decide) (hts (.fieldLink RX13 431 "StoneWalkModel" "island" "LStoneWalkModel$Island;") (List.mem_of_getElem? (i := 2) (by decide +kernel))) rfl (t := 2) rfl (by show va_rf _ = _; rw [hN13]; rfl) dX13_dig_76 ?_
                      refine r_getN (T := TX12) (v := .int (gI M12 b13 5)) hx hb hts in12 hown hK hP kb13 (by decide) rfl 5 (by decide) (hG.2.2.1 ("StoneWalkModel", 371, "StoneWalkModel$Island", "stories", "I", "StoneWalkModel") (List.mem_of_getElem? (i := 36) rfl)) rfl (t := 0) rfl rfl dX13_dig_79 ?_
                      refine lv_icmp_ge (tgt := 145) hx hb dX13_dig_82 rfl (fun c14 => ?_) (fun c14 => ?_)
                      · replace h := ite_t c14 h
                        refine lv_iload hx hb dX13_dig_145 (lv_at hl 6 rfl) ?_
                        refine lv_iload hx hb dX13_dig_147 (lv_at hl 5 rfl) ?_
                        refine lv_isub hx hb dX13_dig_149 ?_
                        refine lv_iload_n hx hb dX13_dig_150 rfl (lv_at hl 3 rfl) ?_
                        refine lv_icmp_gt (tgt := 157) hx hb dX13_dig_151 rfl (fun c15 => ?_) (fun c15 => ?_)
                        · replace h := ite_t c15 h
                          refine lv_iload hx hb dX13_dig_157 (lv_at hl 6 rfl) ?_
                          refine lv_iload hx hb dX13_dig_159 (lv_at hl 5 rfl) ?_
                          refine lv_isub hx hb dX13_dig_161 ?_
                          refine lv_istore_n (lv' := [(3, .int (y12_6 - y12_5)), (0, .ref (ad y12_0)), (1, .int y12_1), (2, .int y12_2), (4, .int y12_4), (5, .int y12_5), (6, .int y12_6), (7, .int y12_7)]) hx hb dX13_dig_162 rfl hl (by decide) rfl (fun ls hl => ?_)
                          refine lv_iload hx hb dX13_dig_163 (lv_at hl 4 rfl) ?_
                          refine lv_istore_n (lv' := [(2, .int y12_4), (3, .int (y12_6 - y12_5)), (0, .ref (ad y12_0)), (1, .int y12_1), (4, .int y12_4), (5, .int y12_5), (6, .int y12_6), (7, .int y12_7)]) hx hb dX13_dig_165 rfl hl (by decide) rfl (fun ls hl => ?_)
                          refine lv_iinc (v := y12_4 + 1) (lv' := [(4, .int (y12_4 + 1)), (2, .int y12_4), (3, .int (y12_6 - y12_5)), (0, .ref (ad y12_0)), (1, .int y12_1), (5, .int y12_5), (6, .int y12_6), (7, .int y12_7)]) hx hb dX13_dig_166 hl (k := 4) rfl rfl (by decide) rfl (fun ls hl => ?_)
                          refine lv_goto (tgt := 55) hx hb dX13_dig_169 rfl ?_
                          exact ih9 M12 y12_0 y12_1 y12_4 (y12_6 - y12_5) (y12_4 + 1) ky12_0 _ _ h hP hD hT hS ls (lv_sub hl [3, 4, 1, 2, 0] rfl)
                        · replace h := ite_f c15 h
                          refine lv_goto (tgt := 166) hx hb dX13_dig_154 rfl ?_
                          refine lv_iinc (v := y12_4 + 1) (lv' := [(4, .int (y12_4 + 1)), (0, .ref (ad y12_0)), (1, .int y12_1), (2, .int y12_2), (3, .int y12_3), (5, .int y12_5), (6, .int y12_6), (7, .int y12_7)]) hx hb dX13_dig_166 hl (k := 4) rfl rfl (by decide) rfl (fun ls hl => ?_)
                          refine lv_goto (tgt := 55) hx hb dX13_dig_169 rfl ?_
                          exact ih9 M12 y12_0 y12_1 y12_2 y12_3 (y12_4 + 1) ky12_0 _ _ h hP hD hT hS ls (lv_sub hl [1, 2, 3, 4, 0] rfl)
                      · replace h := ite_f c14 h
                        refine lv_iload_n hx hb dX13_dig_85 rfl (lv_at hl 1 rfl) ?_
                        refine lv_iload hx hb dX13_dig_86 (lv_at hl 7 rfl) ?_
                        refine lv_ishr hx hb dX13_dig_88 ?_
                        refine lv_iconst (v := 1) hx hb dX13_dig_89 rfl ?_
                        refine lv_iand hx hb dX13_dig_90 ?_
                        refine lv_if_ne (tgt := 97) hx hb dX13_dig_91 rfl (fun c16 => ?_) (fun c16 => ?_)
                        · replace h := ite_f c16 h
                          refine lv_aload_n hx hb dX13_dig_97 rfl (lv_at hl 0 rfl) ?_
                          refine lv_iload hx hb dX13_dig_98 (lv_at hl 7 rfl) ?_
                          refine lv_iload hx hb dX13_dig_100 (lv_at hl 4 rfl) ?_
                          obtain ⟨z17, h17, h⟩ := ob_some h
                          refine k_i (va_runV (As := [.int y12_7, .int y12_4]) (rest := []) ⟨hx, hb, hml, hown, hts⟩ (c_X13_treesIn (l := l) M12 y12_0 y12_7 y12_4 ky12_0 h17) (cwV 2 hts gX13_dig_X13_treesIn rfl rfl rfl hdV_X13_treesIn ⟨Nat.le_of_ble_eq_true rfl, Nat.le_of_ble_eq_true rfl⟩) (pV (T := TX13) hP hK hD hT hG hS ky12_0 (by decide) rfl) rfl rfl hl.1 rfl (lv_room (Nat.le_of_ble_eq_true rfl)) dX13_dig_102 ⟨Nat.zero_le _, Nat.zero_le _⟩) hS (fun H locs hP hD hT hS => ?_)
                          refine lv_istore (lv' := [(8, .int z17), (0, .ref (ad y12_0)), (1, .int y12_1), (2, .int y12_2), (3, .int y12_3), (4, .int y12_4), (5, .int y12_5), (6, .int y12_6), (7, .int y12_7)]) hx hb dX13_dig_105 hl (by decide) rfl (fun ls hl => ?_)
                          refine lv_iload hx hb dX13_dig_107 (lv_at hl 0 rfl) ?_
                          refine lv_iload hx hb dX13_dig_109 (lv_at hl 6 rfl) ?_
                          refine lv_icmp_ge (tgt := 119) hx hb dX13_dig_111 rfl (fun c18 => ?_) (fun c18 => ?_)
                          · replace h := ite_t c18 h
                            refine lv_iload hx hb dX13_dig_119 (lv_at hl 6 rfl) ?_
                            refine lv_istore (lv' := [(5, .int y12_5), (8, .int z17), (0, .ref (ad y12_0)), (1, .int y12_1), (2, .int y12_2), (3, .int y12_3), (4, .int y12_4), (6, .int y12_6), (7, .int y12_7)]) hx hb dX13_dig_121 hl (by decide) rfl (fun ls hl => ?_)
                            refine lv_iload hx hb dX13_dig_123 (lv_at hl 1 rfl) ?_
                            refine lv_iload hx hb dX13_dig_125 (lv_at hl 7 rfl) ?_
                            refine lv_icmp_le (tgt := 135) hx hb dX13_dig_127 rfl (fun c19 => ?_) (fun c19 => ?_)
                            · replace h := ite_t c19 h
                              refine lv_iload hx hb dX13_dig_135 (lv_at hl 7 rfl) ?_
                              refine lv_istore (lv' := [(6, .int y12_6), (5, .int y12_5), (8, .int z17), (0, .ref (ad y12_0)), (1, .int y12_1), (2, .int y12_2), (3, .int y12_3), (4, .int y12_4), (7, .int y12_7)]) hx hb dX13_dig_137 hl (by decide) rfl (fun ls hl => ?_)
                              refine lv_iinc (v := y12_7 + 1) (lv' := [(7, .int (y12_7 + 1)), (6, .int y12_6), (5, .int y12_5), (8, .int z17), (0, .ref (ad y12_0)), (1, .int y12_1), (2, .int y12_2), (3, .int y12_3), (4, .int y12_4)]) hx hb dX13_dig_139 hl (k := 8) rfl rfl (by decide) rfl (fun ls hl => ?_)
                              refine lv_goto (tgt := 73) hx hb dX13_dig_142 rfl ?_
                              exact ih12 M12 y12_0 y12_1 y12_2 y12_3 y12_4 y12_5 y12_6 (y12_7 + 1) ky12_0 _ _ h hP hD hT hS ls (lv_sub hl [4, 5, 6, 7, 8, 2, 1, 0] rfl)
                            · replace h := ite_f c19 h
                              refine lv_iload hx hb dX13_dig_130 (lv_at hl 1 rfl) ?_
                              refine lv_goto (tgt := 137) hx hb dX13_dig_132 rfl ?_
                              refine lv_istore (lv' := [(6, .int z17), (5, .int y12_5), (8, .int z17), (0, .ref (ad y12_0)), (1, .int y12_1), (2, .int y12_2), (3, .int y12_3), (4, .int y12_4), (7, .int y12_7)]) hx hb dX13_dig_137 hl (by decide) rfl (fun ls hl => ?_)
                              refine lv_iinc (v := y12_7 + 1) (lv' := [(7, .int (y12_7 + 1)), (6, .int z17), (5, .int y12_5), (8, .int z17), (0, .ref (ad y12_0)), (1, .int y12_1), (2, .int y12_2), (3, .int y12_3), (4, .int y12_4)]) hx hb dX13_dig_139 hl (k := 8) rfl rfl (by decide) rfl (fun ls hl => ?_)
                              refine lv_goto (tgt := 73) hx hb dX13_dig_142 rfl ?_
                              exact ih12 M12 y12_0 y12_1 y12_2 y12_3 y12_4 y12_5 z17 (y12_7 + 1) ky12_0 _ _ h hP hD hT hS ls (lv_sub hl [4, 5, 6, 7, 8, 2, 1, 0] rfl)
                          · replace h := ite_f c18 h
                            refine lv_iload hx hb dX13_dig_114 (lv_at hl 0 rfl) ?_
                            refine lv_goto (tgt := 121) hx hb dX13_dig_116 rfl ?_
                            refine lv_istore (lv' := [(5, .int z17), (8, .int z17), (0, .ref (ad y12_0)), (1, .int y12_1), (2, .int y12_2), (3, .int y12_3), (4, .int y12_4), (6, .int y12_6), (7, .int y12_7)]) hx hb dX13_dig_121 hl (by decide) rfl (fun ls hl => ?_)
                            refine lv_iload hx hb dX13_dig_123 (lv_at hl 1 rfl) ?_
                            refine lv_iload hx hb dX13_dig_125 (lv_at hl 7 rfl) ?_
                            refine lv_icmp_le (tgt := 135) hx hb dX13_dig_127 rfl (fun c20 => ?_) (fun c20 => ?_)
                            · replace h := ite_t c20 h
                              refine lv_iload hx hb dX13_dig_135 (lv_at hl 7 rfl) ?_
                              refine lv_istore (lv' := [(6, .int y12_6), (5, .int z17), (8, .int z17), (0, .ref (ad y12_0)), (1, .int y12_1), (2, .int y12_2), (3, .int y12_3), (4, .int y12_4), (7, .int y12_7)]) hx hb dX13_dig_137 hl (by decide) rfl (fun ls hl => ?_)
                              refine lv_iinc (v := y12_7 + 1) (lv' := [(7, .int (y12_7 + 1)), (6, .int y12_6), (5, .int z17), (8, .int z17), (0, .ref (ad y12_0)), (1, .int y12_1), (2, .int y12_2), (3, .int y12_3), (4, .int y12_4)]) hx hb dX13_dig_139 hl (k := 8) rfl rfl (by decide) rfl (fun ls hl => ?_)
                              refine lv_goto (tgt := 73) hx hb dX13_dig_142 rfl ?_
                              exact ih12 M12 y12_0 y12_1 y12_2 y12_3 y12_4 z17 y12_6 (y12_7 + 1) ky12_0 _ _ h hP hD hT hS ls (lv_sub hl [4, 5, 6, 7, 8, 2, 1, 0] rfl)
                            · replace h := ite_f c20 h
                              refine lv_iload hx hb dX13_dig_130 (lv_at hl 1 rfl) ?_
                              refine lv_goto (tgt := 137) hx hb dX13_dig_132 rfl ?_
                              refine lv_istore (lv' := [(6, .int z17), (5, .int z17), (8, .int z17), (0, .ref (ad y12_0)), (1, .int y12_1), (2, .int y12_2), (3, .int y12_3), (4, .int y12_4), (7, .int y12_7)]) hx hb dX13_dig_137 hl (by decide) rfl (fun ls hl => ?_)
                              refine lv_iinc (v := y12_7 + 1) (lv' := [(7, .int (y12_7 + 1)), (6, .int z17), (5, .int z17), (8, .int z17), (0, .ref (ad y12_0)), (1, .int y12_1), (2, .int y12_2), (3, .int y12_3), (4, .int y12_4)]) hx hb dX13_dig_139 hl (k := 8) rfl rfl (by decide) rfl (fun ls hl => ?_)
                              refine lv_goto (tgt := 73) hx hb dX13_dig_142 rfl ?_
                              exact ih12 M12 y12_0 y12_1 y12_2 y12_3 y12_4 z17 z17 (y12_7 + 1) ky12_0 _ _ h hP hD hT hS ls (lv_sub hl [4, 5, 6, 7, 8, 2, 1, 0] rfl)
                        · replace h := ite_t c16 h
                          refine lv_goto (tgt := 139) hx hb dX13_dig_94 rfl ?_
                          refine lv_iinc (v := y12_7 + 1) (lv' := [(7, .int (y12_7 + 1)), (0, .ref (ad y12_0)), (1, .int y12_1), (2, .int y12_2), (3, .int y12_3), (4, .int y12_4), (5, .int y12_5), (6, .int y12_6)]) hx hb dX13_dig_139 hl (k := 7) rfl rfl (by decide) rfl (fun ls hl => ?_)
                          refine lv_goto (tgt := 73) hx hb dX13_dig_142 rfl ?_
                          exact ih12 M12 y12_0 y12_1 y12_2 y12_3 y12_4 y12_5 y12_6 (y12_7 + 1) ky12_0 _ _ h hP hD hT hS ls (lv_sub hl [1, 2, 3, 4, 5, 6, 7, 0] rfl)
                exact L12 FU M9 y9_0 y9_1 y9_2 y9_3 y9_4 9999 0 0 ky9_0 _ _ h hP hD hT hS ls (lv_sub hl [3, 4, 5, 6, 7, 2, 1, 0] rfl)
          exact L9 FU Mg1 a0 z8 0 (-1) 0 k0 _ _ h hP hD hT hS ls (lv_sub hl [4, 3, 2, 1, 0] rfl)
        · replace h := ite_t c7 h
          refine lv_aload_n hx hb dX13_dig_36 rfl (lv_at hl 0 rfl) ?_
          refine lv_bipush (v := 6) hx hb dX13_dig_37 rfl ?_
          obtain ⟨z21, h21, h⟩ := ob_some h
          refine k_i (va_runV (As := [.int 6]) (rest := []) ⟨hx, hb, hml, hown, hts⟩ (c_X13_refused (l := l) Mg1 a0 6 k0 h21) (cwV 1 hts gX13_dig_X13_refused rfl rfl rfl hdV_X13_refused ⟨Nat.le_of_ble_eq_true rfl, Nat.le_of_ble_eq_true rfl⟩) (pV (T := TX13) hP hK hD hT hG hS k0 (by decide) rfl) rfl rfl hl.1 rfl (lv_room (Nat.le_of_ble_eq_true rfl)) dX13_dig_39 ⟨Nat.zero_le _, Nat.zero_le _⟩) hS (fun H locs hP hD hT hS => ?_)
          have hZ := Option.some.inj h
          have hZ1 := congrArg Prod.fst hZ
          have hZ2 := congrArg Prod.snd hZ
          exact r_iret hx hb hr hlocks hP hK hD hT hG hS hZ1 hZ2 dX13_dig_42
set_option maxHeartbeats 4000000 in
set_option maxRecDepth 100000 in
theorem c_X13_lived {l : Launch} {D : va_G} {ad : Nat → Nat} {cy : Nat → ClassId} {A : Nat → Prop} {g : CG} {q : SE} (M : MM) (a0 : Nat) (x1 : Int32) (k0 : ok g a0 13 0) {Z : (Int32 × MM)} (h : f_X13_lived M a0 x1 = some Z) : Met l yX13_lived wsX13_lived ({ frames := 1, cells := 0, slots := 0, locals := 21 }) (va_Pc [.ref (ad a0), .int x1] (Wd D ad cy A g q M)) (va_Qi (fun r u => r = Z.1 ∧ u = Z.2) (Wd D ad cy A g q) A) 0 0 A := by
  refine Met.ofW (cc := cX13_lived) (maxL := 4) (ret := (some .int)) (by decide) rfl ?_
  intro p e s m args below meth c s₁ B hml hv
  obtain ⟨rfl, hP, hK, hD, hT, hG⟩ := hv
  have hx := B.exec
  have hb := B.bytes
  have hr := B.returns
  have hts := atoms_spec (ws := wsX13_lived) B.pre
  have hown : s.vm.findClass RX13 = some m.cls := findClass_of_methodNamed B.named
  have hlocks := B.notSynchronized
  have in12 : ∀ w ∈ u_ws RX12 TX12 48, w ∈ wsX13_lived := fun w h => List.mem_cons_of_mem _ (List.mem_append_right _ h)
  have in13 : ∀ w ∈ u_ws RX13 TX13 29, w ∈ wsX13_lived := fun w h => List.mem_cons_of_mem _ (List.mem_append_left _ (List.mem_append_right _ h))
  have hS : va_S A s.heap s.heap [] := va_S.rf
  have hl := lv_entry ([.ref (ad a0), .int x1]) (n := 4) (Nat.le_of_ble_eq_true rfl)
  rw [lg_entry_eq]
  generalize (lg_sl ([.ref (ad a0), .int x1]) ++ List.replicate (4 - (lg_sl ([.ref (ad a0), .int x1])).length) Slot.unset).toArray = ls at hl ⊢
  have hl : lv_has ls 4 [(0, .ref (ad a0)), (1, .int x1)] := hl
  unfold f_X13_lived at h
  refine lv_aload_n hx hb dX13_lived_0 rfl (lv_at hl 0 rfl) ?_
  refine lv_iconst (v := 0) hx hb dX13_lived_1 rfl ?_
  refine r_putI (T := TX13) (ty := .int) (v := 0) hx hb hts in13 tyX13 tyX13_ok nmX13 hown hK hP hD hT hS k0 (by decide) rfl 0 (by decide) (hts (.fieldLink RX13 30 "StoneWalkModel" "thrown" "I") (List.mem_of_getElem? (i := 1) (by decide +kernel))) rfl rfl (tyX13_ok 0 (by decide)) rfl rfl rfl dX13_lived_2 (fun H locs hP hD hT hS => ?_)
  generalize pI M a0 0 0 = Mg1 at h hP hD hT ⊢
  refine lv_aload_n hx hb dX13_lived_5 rfl (lv_at hl 0 rfl) ?_
  rcases hN1 : gR Mg1 a0 3 with _ | b1
  · replace h := oc_n hN1 h
    refine r_get (T := TX13) (v := .null) hx hb hts in13 hown hK hP k0 (by decide) rfl 3 (by decide) (hts (.fieldLink RX13 431 "StoneWalkModel" "island" "LStoneWalkModel$Island;") (List.mem_of_getElem? (i := 2) (by decide +kernel))) rfl (t := 2) rfl (by show va_rf _ = _; rw [hN1]; rfl) dX13_lived_6 ?_
    refine lv_ifnonnullN hx hb dX13_lived_9 ?_
    refine lv_aload_n hx hb dX13_lived_12 rfl (lv_at hl 0 rfl) ?_
    refine lv_iconst (v := 1) hx hb dX13_lived_13 rfl ?_
    obtain ⟨z2, h2, h⟩ := ob_some h
    refine k_i (va_runV (As := [.int 1]) (rest := []) ⟨hx, hb, hml, hown, hts⟩ (c_X13_refused (l := l) Mg1 a0 1 k0 h2) (cwV 1 hts gX13_lived_X13_refused rfl rfl rfl hdV_X13_refused ⟨Nat.le_of_ble_eq_true rfl, Nat.le_of_ble_eq_true rfl⟩) (pV (T := TX13) hP hK hD hT hG hS k0 (by decide) rfl) rfl rfl hl.1 rfl (lv_room (Nat.le_of_ble_eq_true rfl)) dX13_lived_14 ⟨Nat.zero_le _, Nat.zero_le _⟩) hS (fun H locs hP hD hT hS => ?_)
    have hZ := Option.some.inj h
    have hZ1 := congrArg Prod.fst hZ
    have hZ2 := congrArg Prod.snd hZ
    exact r_iret hx hb hr hlocks hP hK hD hT hG hS hZ1 hZ2 dX13_lived_17
  · replace h := oc_s hN1 h
    have kb1 := hT.f k0 (k := 3) (t := 12) (n := 0) rfl hN1
    refine r_get (T := TX13) (v := .ref (ad b1)) hx hb hts in13 hown hK hP k0 (by decide) rfl 3 (by decide) (hts (.fieldLink RX13 431 "StoneWalkModel" "island" "LStoneWalkModel$Island;") (List.mem_of_getElem? (i := 2) (by decide +kernel))) rfl (t := 2) rfl (by show va_rf _ = _; rw [hN1]; rfl) dX13_lived_6 ?_
    refine lv_ifnonnull (tgt := 18) hx hb dX13_lived_9 rfl ?_
    refine lv_aload_n hx hb dX13_lived_18 rfl (lv_at hl 0 rfl) ?_
    rcases hN3 : gR Mg1 a0 3 with _ | b3
    · replace h := oc_n hN3 h
      refine r_get (T := TX13) (v := .null) hx hb hts in13 hown hK hP k0 (by decide) rfl 3 (by decide) (hts (.fieldLink RX13 431 "StoneWalkModel" "island" "LStoneWalkModel$Island;") (List.mem_of_getElem? (i := 2) (by decide +kernel))) rfl (t := 2) rfl (by show va_rf _ = _; rw [hN3]; rfl) dX13_lived_19 ?_
      exact absurd h (by simp)
    · replace h := oc_s hN3 h
      have kb3 := hT.f k0 (k := 3) (t := 12) (n := 0) rfl hN3
      refine r_get (T := TX13) (v := .ref (ad b3)) hx hb hts in13 hown hK hP k0 (by decide) rfl 3 (by decide) (hts (.fieldLink RX13 431 "StoneWalkModel" "island" "LStoneWalkModel$Island;") (List.mem_of_getElem? (i := 2) (by decide +kernel))) rfl (t := 2) rfl (by show va_rf _ = _; rw [hN3]; rfl) dX13_lived_19 ?_
      refine r_getN (T := TX12) (v := .int (gI Mg1 b3 30)) hx hb hts in12 hown hK hP kb3 (by decide) rfl 30 (by decide) (hG.2.2.1 ("StoneWalkModel", 353, "StoneWalkModel$Island", "fields", "I", "StoneWalkModel") (List.mem_of_getElem? (i := 31) rfl)) rfl (t := 0) rfl rfl dX13_lived_22 ?_
      refine lv_iconst (v := (-1)) hx hb dX13_lived_25 rfl ?_
      refine lv_icmp_eq (tgt := 40) hx hb dX13_lived_26 rfl (fun c4 => ?_) (fun c4 => ?_)
      · replace h := ite_t c4 h
        refine lv_aload_n hx hb dX13_lived_40 rfl (lv_at hl 0 rfl) ?_
        refine lv_bipush (v := 6) hx hb dX13_lived_41 rfl ?_
        obtain ⟨z5, h5, h⟩ := ob_some h
        refine k_i (va_runV (As := [.int 6]) (rest := []) ⟨hx, hb, hml, hown, hts⟩ (c_X13_refused (l := l) Mg1 a0 6 k0 h5) (cwV 1 hts gX13_lived_X13_refused rfl rfl rfl hdV_X13_refused ⟨Nat.le_of_ble_eq_true rfl, Nat.le_of_ble_eq_true rfl⟩) (pV (T := TX13) hP hK hD hT hG hS k0 (by decide) rfl) rfl rfl hl.1 rfl (lv_room (Nat.le_of_ble_eq_true rfl)) dX13_lived_43 ⟨Nat.zero_le _, Nat.zero_le _⟩) hS (fun H locs hP hD hT hS => ?_)
        have hZ := Option.some.inj h
        have hZ1 := congrArg Prod.fst hZ
        have hZ2 := congrArg Prod.snd hZ
        exact r_iret hx hb hr hlocks hP hK hD hT hG hS hZ1 hZ2 dX13_lived_46
      · replace h := ite_f c4 h
        refine lv_aload_n hx hb dX13_lived_29 rfl (lv_at hl 0 rfl) ?_
        rcases hN6 : gR Mg1 a0 3 with _ | b6
        · replace h := oc_n hN6 h
          refine r_get (T := TX13) (v := .null) hx hb hts in13 hown hK hP k0 (by decide) rfl 3 (by decide) (hts (.fieldLink RX13 431 "StoneWalkModel" "island" "LStoneWalkModel$Island;") (List.mem_of_getElem? (i := 2) (by decide +kernel))) rfl (t := 2) rfl (by show va_rf _ = _; rw [hN6]; rfl) dX13_lived_30 ?_
          exact absurd h (by simp)
        · replace h := oc_s hN6 h
          have kb6 := hT.f k0 (k := 3) (t := 12) (n := 0) rfl hN6
          refine r_get (T := TX13) (v := .ref (ad b6)) hx hb hts in13 hown hK hP k0 (by decide) rfl 3 (by decide) (hts (.fieldLink RX13 431 "StoneWalkModel" "island" "LStoneWalkModel$Island;") (List.mem_of_getElem? (i := 2) (by decide +kernel))) rfl (t := 2) rfl (by show va_rf _ = _; rw [hN6]; rfl) dX13_lived_30 ?_
          refine r_getN (T := TX12) (v := .int (gI Mg1 b6 32)) hx hb hts in12 hown hK hP kb6 (by decide) rfl 32 (by decide) (hG.2.2.1 ("StoneWalkModel", 359, "StoneWalkModel$Island", "houses", "I", "StoneWalkModel") (List.mem_of_getElem? (i := 33) rfl)) rfl (t := 0) rfl rfl dX13_lived_33 ?_
          refine lv_iconst (v := (-1)) hx hb dX13_lived_36 rfl ?_
          refine lv_icmp_ne (tgt := 47) hx hb dX13_lived_37 rfl (fun c7 => ?_) (fun c7 => ?_)
          · replace h := ite_f c7 h
            refine lv_aload_n hx hb dX13_lived_47 rfl (lv_at hl 0 rfl) ?_
            rcases hN8 : gR Mg1 a0 3 with _ | b8
            · replace h := oc_n hN8 h
              refine r_get (T := TX13) (v := .null) hx hb hts in13 hown hK hP k0 (by decide) rfl 3 (by decide) (hts (.fieldLink RX13 431 "StoneWalkModel" "island" "LStoneWalkModel$Island;") (List.mem_of_getElem? (i := 2) (by decide +kernel))) rfl (t := 2) rfl (by show va_rf _ = _; rw [hN8]; rfl) dX13_lived_48 ?_
              exact absurd h (by simp)
            · replace h := oc_s hN8 h
              have kb8 := hT.f k0 (k := 3) (t := 12) (n := 0) rfl hN8
              refine r_get (T := TX13) (v := .ref (ad b8)) hx hb hts in13 hown hK hP k0 (by decide) rfl 3 (by decide) (hts (.fieldLink RX13 431 "StoneWalkModel" "island" "LStoneWalkModel$Island;") (List.mem_of_getElem? (i := 2) (by decide +kernel))) rfl (t := 2) rfl (by show va_rf _ = _; rw [hN8]; rfl) dX13_lived_48 ?_
              refine r_getN (T := TX12) (v := .int (gI Mg1 b8 30)) hx hb hts in12 hown hK hP kb8 (by decide) rfl 30 (by decide) (hG.2.2.1 ("StoneWalkModel", 353, "StoneWalkModel$Island", "fields", "I", "StoneWalkModel") (List.mem_of_getElem? (i := 31) rfl)) rfl (t := 0) rfl rfl dX13_lived_51 ?_
              refine lv_aload_n hx hb dX13_lived_54 rfl (lv_at hl 0 rfl) ?_
              rcases hN9 : gR Mg1 a0 3 with _ | b9
              · replace h := oc_n hN9 h
                refine r_get (T := TX13) (v := .null) hx hb hts in13 hown hK hP k0 (by decide) rfl 3 (by decide) (hts (.fieldLink RX13 431 "StoneWalkModel" "island" "LStoneWalkModel$Island;") (List.mem_of_getElem? (i := 2) (by decide +kernel))) rfl (t := 2) rfl (by show va_rf _ = _; rw [hN9]; rfl) dX13_lived_55 ?_
                exact absurd h (by simp)
              · replace h := oc_s hN9 h
                have kb9 := hT.f k0 (k := 3) (t := 12) (n := 0) rfl hN9
                refine r_get (T := TX13) (v := .ref (ad b9)) hx hb hts in13 hown hK hP k0 (by decide) rfl 3 (by decide) (hts (.fieldLink RX13 431 "StoneWalkModel" "island" "LStoneWalkModel$Island;") (List.mem_of_getElem? (i := 2) (by decide +kernel))) rfl (t := 2) rfl (by show va_rf _ = _; rw [hN9]; rfl) dX13_lived_55 ?_
                refine r_getN (T := TX12) (v := .int (gI Mg1 b9 31)) hx hb hts in12 hown hK hP kb9 (by decide) rfl 31 (by decide) (hG.2.2.1 ("StoneWalkModel", 357, "StoneWalkModel$Island", "feeds", "I", "StoneWalkModel") (List.mem_of_getElem? (i := 32) rfl)) rfl (t := 0) rfl rfl dX13_lived_58 ?_
                refine lv_imul hx hb dX13_lived_61 ?_
                refine lv_istore_n (lv' := [(2, .int ((gI Mg1 b8 30) * (gI Mg1 b9 31))), (0, .ref (ad a0)), (1, .int x1)]) hx hb dX13_lived_62 rfl hl (by decide) rfl (fun ls hl => ?_)
                refine lv_aload_n hx hb dX13_lived_63 rfl (lv_at hl 1 rfl) ?_
                rcases hN10 : gR Mg1 a0 3 with _ | b10
                · replace h := oc_n hN10 h
                  refine r_get (T := TX13) (v := .null) hx hb hts in13 hown hK hP k0 (by decide) rfl 3 (by decide) (hts (.fieldLink RX13 431 "StoneWalkModel" "island" "LStoneWalkModel$Island;") (List.mem_of_getElem? (i := 2) (by decide +kernel))) rfl (t := 2) rfl (by show va_rf _ = _; rw [hN10]; rfl) dX13_lived_64 ?_
                  exact absurd h (by simp)
                · replace h := oc_s hN10 h
                  have kb10 := hT.f k0 (k := 3) (t := 12) (n := 0) rfl hN10
                  refine r_get (T := TX13) (v := .ref (ad b10)) hx hb hts in13 hown hK hP k0 (by decide) rfl 3 (by decide) (hts (.fieldLink RX13 431 "StoneWalkModel" "island" "LStoneWalkModel$Island;") (List.mem_of_getElem? (i := 2) (by decide +kernel))) rfl (t := 2) rfl (by show va_rf _ = _; rw [hN10]; rfl) dX13_lived_64 ?_
                  refine r_getN (T := TX12) (v := .int (gI Mg1 b10 32)) hx hb hts in12 hown hK hP kb10 (by decide) rfl 32 (by decide) (hG.2.2.1 ("StoneWalkModel", 359, "StoneWalkModel$Island", "houses", "I", "StoneWalkModel") (List.mem_of_getElem? (i := 33) rfl)) rfl (t := 0) rfl rfl dX13_lived_67 ?_
                  refine lv_iload_n hx hb dX13_lived_70 rfl (lv_at hl 2 rfl) ?_
                  refine lv_if_eq (tgt := 84) hx hb dX13_lived_71 rfl (fun c11 => ?_) (fun c11 => ?_)
                  · replace h := ite_t c11 h
                    refine lv_aload_n hx hb dX13_lived_84 rfl (lv_at hl 1 rfl) ?_
                    rcases hN12 : gR Mg1 a0 3 with _ | b12
                    · replace h := oc_n hN12 h
                      refine r_get (T := TX13) (v := .null) hx hb hts in13 hown hK hP k0 (by decide) rfl 3 (by decide) (hts (.fieldLink RX13 431 "StoneWalkModel" "island" "LStoneWalkModel$Island;") (List.mem_of_getElem? (i := 2) (by decide +kernel))) rfl (t := 2) rfl (by show va_rf _ = _; rw [hN12]; rfl) dX13_lived_85 ?_
                      exact absurd h (by simp)
                    · replace h := oc_s hN12 h
                      have kb12 := hT.f k0 (k := 3) (t := 12) (n := 0) rfl hN12
                      refine r_get (T := TX13) (v := .ref (ad b12)) hx hb hts in13 hown hK hP k0 (by decide) rfl 3 (by decide) (hts (.fieldLink RX13 431 "StoneWalkModel" "island" "LStoneWalkModel$Island;") (List.mem_of_getElem? (i := 2) (by decide +kernel))) rfl (t := 2) rfl (by show va_rf _ = _; rw [hN12]; rfl) dX13_lived_85 ?_
                      refine r_getN (T := TX12) (v := .int (gI Mg1 b12 33)) hx hb hts in12 hown hK hP kb12 (by decide) rfl 33 (by decide) (hG.2.2.1 ("StoneWalkModel", 363, "StoneWalkModel$Island", "least", "I", "StoneWalkModel") (List.mem_of_getElem? (i := 34) rfl)) rfl (t := 0) rfl rfl dX13_lived_88 ?_
                      refine lv_imul hx hb dX13_lived_91 ?_
                      refine lv_istore_n (lv' := [(3, .int ((gI Mg1 b10 32) * (gI Mg1 b12 33))), (2, .int ((gI Mg1 b8 30) * (gI Mg1 b9 31))), (0, .ref (ad a0)), (1, .int x1)]) hx hb dX13_lived_92 rfl hl (by decide) rfl (fun ls hl => ?_)
                      refine lv_aload_n hx hb dX13_lived_93 rfl (lv_at hl 2 rfl) ?_
                      refine lv_iload_n hx hb dX13_lived_94 rfl (lv_at hl 1 rfl) ?_
                      refine lv_iload_n hx hb dX13_lived_95 rfl (lv_at hl 0 rfl) ?_
                      refine lv_icmp_ge (tgt := 103) hx hb dX13_lived_96 rfl (fun c13 => ?_) (fun c13 => ?_)
                      · replace h := ite_t c13 h
                        refine lv_iload_n hx hb dX13_lived_103 rfl (lv_at hl 0 rfl) ?_
                        obtain ⟨z14, h14, h⟩ := ob_some h
                        refine k_i (va_runV (As := [.int ((gI Mg1 b10 32) * (gI Mg1 b12 33))]) (rest := []) ⟨hx, hb, hml, hown, hts⟩ (c_X13_done (l := l) Mg1 a0 ((gI Mg1 b10 32) * (gI Mg1 b12 33)) k0 h14) (cwV 1 hts gX13_lived_X13_done rfl rfl rfl hdV_X13_done ⟨Nat.le_of_ble_eq_true rfl, Nat.le_of_ble_eq_true rfl⟩) (pV (T := TX13) hP hK hD hT hG hS k0 (by decide) rfl) rfl rfl hl.1 rfl (lv_room (Nat.le_of_ble_eq_true rfl)) dX13_lived_104 ⟨Nat.zero_le _, Nat.zero_le _⟩) hS (fun H locs hP hD hT hS => ?_)
                        have hZ := Option.some.inj h
                        have hZ1 := congrArg Prod.fst hZ
                        have hZ2 := congrArg Prod.snd hZ
                        exact r_iret hx hb hr hlocks hP hK hD hT hG hS hZ1 hZ2 dX13_lived_107
                      · replace h := ite_f c13 h
                        refine lv_iload_n hx hb dX13_lived_99 rfl (lv_at hl 1 rfl) ?_
                        refine lv_goto (tgt := 104) hx hb dX13_lived_100 rfl ?_
                        obtain ⟨z15, h15, h⟩ := ob_some h
                        refine k_i (va_runV (As := [.int ((gI Mg1 b8 30) * (gI Mg1 b9 31))]) (rest := []) ⟨hx, hb, hml, hown, hts⟩ (c_X13_done (l := l) Mg1 a0 ((gI Mg1 b8 30) * (gI Mg1 b9 31)) k0 h15) (cwV 1 hts gX13_lived_X13_done rfl rfl rfl hdV_X13_done ⟨Nat.le_of_ble_eq_true rfl, Nat.le_of_ble_eq_true rfl⟩) (pV (T := TX13) hP hK hD hT hG hS k0 (by decide) rfl) rfl rfl hl.1 rfl (lv_room (Nat.le_of_ble_eq_true rfl)) dX13_lived_104 ⟨Nat.zero_le _, Nat.zero_le _⟩) hS (fun H locs hP hD hT hS => ?_)
                        have hZ := Option.some.inj h
                        have hZ1 := congrArg Prod.fst hZ
                        have hZ2 := congrArg Prod.snd hZ
                        exact r_iret hx hb hr hlocks hP hK hD hT hG hS hZ1 hZ2 dX13_lived_107
                  · replace h := ite_f c11 h
                    refine lv_aload_n hx hb dX13_lived_74 rfl (lv_at hl 1 rfl) ?_
                    rcases hN16 : gR Mg1 a0 3 with _ | b16
                    · replace h := oc_n hN16 h
                      refine r_get (T := TX13) (v := .null) hx hb hts in13 hown hK hP k0 (by decide) rfl 3 (by decide) (hts (.fieldLink RX13 431 "StoneWalkModel" "island" "LStoneWalkModel$Island;") (List.mem_of_getElem? (i := 2) (by decide +kernel))) rfl (t := 2) rfl (by show va_rf _ = _; rw [hN16]; rfl) dX13_lived_75 ?_
                      exact absurd h (by simp)
                    · replace h := oc_s hN16 h
                      have kb16 := hT.f k0 (k := 3) (t := 12) (n := 0) rfl hN16
                      refine r_get (T := TX13) (v := .ref (ad b16)) hx hb hts in13 hown hK hP k0 (by decide) rfl 3 (by decide) (hts (.fieldLink RX13 431 "StoneWalkModel" "island" "LStoneWalkModel$Island;") (List.mem_of_getElem? (i := 2) (by decide +kernel))) rfl (t := 2) rfl (by show va_rf _ = _; rw [hN16]; rfl) dX13_lived_75 ?_
                      refine r_getN (T := TX12) (v := .int (gI Mg1 b16 34)) hx hb hts in12 hown hK hP kb16 (by decide) rfl 34 (by decide) (hG.2.2.1 ("StoneWalkModel", 368, "StoneWalkModel$Island", "most", "I", "StoneWalkModel") (List.mem_of_getElem? (i := 35) rfl)) rfl (t := 0) rfl rfl dX13_lived_78 ?_
                      refine lv_goto (tgt := 91) hx hb dX13_lived_81 rfl ?_
                      refine lv_imul hx hb dX13_lived_91 ?_
                      refine lv_istore_n (lv' := [(3, .int ((gI Mg1 b10 32) * (gI Mg1 b16 34))), (2, .int ((gI Mg1 b8 30) * (gI Mg1 b9 31))), (0, .ref (ad a0)), (1, .int x1)]) hx hb dX13_lived_92 rfl hl (by decide) rfl (fun ls hl => ?_)
                      refine lv_aload_n hx hb dX13_lived_93 rfl (lv_at hl 2 rfl) ?_
                      refine lv_iload_n hx hb dX13_lived_94 rfl (lv_at hl 1 rfl) ?_
                      refine lv_iload_n hx hb dX13_lived_95 rfl (lv_at hl 0 rfl) ?_
                      refine lv_icmp_ge (tgt := 103) hx hb dX13_lived_96 rfl (fun c17 => ?_) (fun c17 => ?_)
                      · replace h := ite_t c17 h
                        refine lv_iload_n hx hb dX13_lived_103 rfl (lv_at hl 0 rfl) ?_
                        obtain ⟨z18, h18, h⟩ := ob_some h
                        refine k_i (va_runV (As := [.int ((gI Mg1 b10 32) * (gI Mg1 b16 34))]) (rest := []) ⟨hx, hb, hml, hown, hts⟩ (c_X13_done (l := l) Mg1 a0 ((gI Mg1 b10 32) * (gI Mg1 b16 34)) k0 h18) (cwV 1 hts gX13_lived_X13_done rfl rfl rfl hdV_X13_done ⟨Nat.le_of_ble_eq_true rfl, Nat.le_of_ble_eq_true rfl⟩) (pV (T := TX13) hP hK hD hT hG hS k0 (by decide) rfl) rfl rfl hl.1 rfl (lv_room (Nat.le_of_ble_eq_true rfl)) dX13_lived_104 ⟨Nat.zero_le _, Nat.zero_le _⟩) hS (fun H locs hP hD hT hS => ?_)
                        have hZ := Option.some.inj h
                        have hZ1 := congrArg Prod.fst hZ
                        have hZ2 := congrArg Prod.snd hZ
                        exact r_iret hx hb hr hlocks hP hK hD hT hG hS hZ1 hZ2 dX13_lived_107
                      · replace h := ite_f c17 h
                        refine lv_iload_n hx hb dX13_lived_99 rfl (lv_at hl 1 rfl) ?_
                        refine lv_goto (tgt := 104) hx hb dX13_lived_100 rfl ?_
                        obtain ⟨z19, h19, h⟩ := ob_some h
                        refine k_i (va_runV (As := [.int ((gI Mg1 b8 30) * (gI Mg1 b9 31))]) (rest := []) ⟨hx, hb, hml, hown, hts⟩ (c_X13_done (l := l) Mg1 a0 ((gI Mg1 b8 30) * (gI Mg1 b9 31)) k0 h19) (cwV 1 hts gX13_lived_X13_done rfl rfl rfl hdV_X13_done ⟨Nat.le_of_ble_eq_true rfl, Nat.le_of_ble_eq_true rfl⟩) (pV (T := TX13) hP hK hD hT hG hS k0 (by decide) rfl) rfl rfl hl.1 rfl (lv_room (Nat.le_of_ble_eq_true rfl)) dX13_lived_104 ⟨Nat.zero_le _, Nat.zero_le _⟩) hS (fun H locs hP hD hT hS => ?_)
                        have hZ := Option.some.inj h
                        have hZ1 := congrArg Prod.fst hZ
                        have hZ2 := congrArg Prod.snd hZ
                        exact r_iret hx hb hr hlocks hP hK hD hT hG hS hZ1 hZ2 dX13_lived_107
          · replace h := ite_t c7 h
            refine lv_aload_n hx hb dX13_lived_40 rfl (lv_at hl 0 rfl) ?_
            refine lv_bipush (v := 6) hx hb dX13_lived_41 rfl ?_
            obtain ⟨z20, h20, h⟩ := ob_some h
            refine k_i (va_runV (As := [.int 6]) (rest := []) ⟨hx, hb, hml, hown, hts⟩ (c_X13_refused (l := l) Mg1 a0 6 k0 h20) (cwV 1 hts gX13_lived_X13_refused rfl rfl rfl hdV_X13_refused ⟨Nat.le_of_ble_eq_true rfl, Nat.le_of_ble_eq_true rfl⟩) (pV (T := TX13) hP hK hD hT hG hS k0 (by decide) rfl) rfl rfl hl.1 rfl (lv_room (Nat.le_of_ble_eq_true rfl)) dX13_lived_43 ⟨Nat.zero_le _, Nat.zero_le _⟩) hS (fun H locs hP hD hT hS => ?_)
            have hZ := Option.some.inj h
            have hZ1 := congrArg Prod.fst hZ
            have hZ2 := congrArg Prod.snd hZ
            exact r_iret hx hb hr hlocks hP hK hD hT hG hS hZ1 hZ2 dX13_lived_46
