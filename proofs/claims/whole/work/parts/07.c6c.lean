set_option maxHeartbeats 4000000 in
set_option maxRecDepth 100000 in
theorem c_X13_hangs {l : Launch} {D : va_G} {ad : Nat → Nat} {cy : Nat → ClassId} {A : Nat → Prop} {g : CG} {q : SE} (M : MM) (a0 : Nat) (k0 : ok g a0 13 0) {Z : (Int32 × MM)} (h : f_X13_hangs M a0 = some Z) : Met l yX13_hangs wsX13_hangs ({ frames := 4, cells := 0, slots := 0, locals := 98 }) (va_Pc [.ref (ad a0)] (Wd D ad cy A g q M)) (va_Qi (fun r u => r = Z.1 ∧ u = Z.2) (Wd D ad cy A g q) A) 0 0 A := by
  refine Met.ofW (cc := cX13_hangs) (maxL := 3) (ret := (some .int)) (by decide) rfl ?_
  intro p e s m args below meth c s₁ B hml hv
  obtain ⟨rfl, hP, hK, hD, hT, hG⟩ := hv
  have hx := B.exec
  have hb := B.bytes
  have hr := B.returns
  have hts := atoms_spec (ws := wsX13_hangs) B.pre
  have hown : s.vm.findClass RX13 = some m.cls := findClass_of_methodNamed B.named
  have hlocks := B.notSynchronized
  have in12 : ∀ w ∈ u_ws RX12 TX12 48, w ∈ wsX13_hangs := fun w h => List.mem_cons_of_mem _ (List.mem_append_right _ h)
  have in13 : ∀ w ∈ u_ws RX13 TX13 29, w ∈ wsX13_hangs := fun w h => List.mem_cons_of_mem _ (List.mem_append_left _ (List.mem_append_right _ h))
  have hS : va_S A s.heap s.heap [] := va_S.rf
  have hl := lv_entry ([.ref (ad a0)]) (n := 3) (Nat.le_of_ble_eq_true rfl)
  rw [lg_entry_eq]
  generalize (lg_sl ([.ref (ad a0)]) ++ List.replicate (3 - (lg_sl ([.ref (ad a0)])).length) Slot.unset).toArray = ls at hl ⊢
  have hl : lv_has ls 3 [(0, .ref (ad a0))] := hl
  unfold f_X13_hangs at h
  refine lv_aload_n hx hb dX13_hangs_0 rfl (lv_at hl 0 rfl) ?_
  refine lv_iconst (v := 0) hx hb dX13_hangs_1 rfl ?_
  refine r_putI (T := TX13) (ty := .int) (v := 0) hx hb hts in13 tyX13 tyX13_ok nmX13 hown hK hP hD hT hS k0 (by decide) rfl 0 (by decide) (hts (.fieldLink RX13 30 "StoneWalkModel" "thrown" "I") (List.mem_of_getElem? (i := 1) (by decide +kernel))) rfl rfl (tyX13_ok 0 (by decide)) rfl rfl rfl dX13_hangs_2 (fun H locs hP hD hT hS => ?_)
  generalize pI M a0 0 0 = Mg1 at h hP hD hT ⊢
  refine lv_aload_n hx hb dX13_hangs_5 rfl (lv_at hl 0 rfl) ?_
  rcases hN1 : gR Mg1 a0 3 with _ | b1
  · replace h := oc_n hN1 h
    refine r_get (T := TX13) (v := .null) hx hb hts in13 hown hK hP k0 (by decide) rfl 3 (by decide) (hts (.fieldLink RX13 431 "StoneWalkModel" "island" "LStoneWalkModel$Island;") (List.mem_of_getElem? (i := 2) (by decide +kernel))) rfl (t := 2) rfl (by show va_rf _ = _; rw [hN1]; rfl) dX13_hangs_6 ?_
    refine lv_ifnonnullN hx hb dX13_hangs_9 ?_
    refine lv_aload_n hx hb dX13_hangs_12 rfl (lv_at hl 0 rfl) ?_
    refine lv_iconst (v := 1) hx hb dX13_hangs_13 rfl ?_
    obtain ⟨z2, h2, h⟩ := ob_some h
    refine k_i (va_runV (As := [.int 1]) (rest := []) ⟨hx, hb, hml, hown, hts⟩ (c_X13_refused (l := l) Mg1 a0 1 k0 h2) (cwV 1 hts gX13_hangs_X13_refused rfl rfl rfl hdV_X13_refused ⟨Nat.le_of_ble_eq_true rfl, Nat.le_of_ble_eq_true rfl⟩) (pV (T := TX13) hP hK hD hT hG hS k0 (by decide) rfl) rfl rfl hl.1 rfl (lv_room (Nat.le_of_ble_eq_true rfl)) dX13_hangs_14 ⟨Nat.zero_le _, Nat.zero_le _⟩) hS (fun H locs hP hD hT hS => ?_)
    have hZ := Option.some.inj h
    have hZ1 := congrArg Prod.fst hZ
    have hZ2 := congrArg Prod.snd hZ
    exact r_iret hx hb hr hlocks hP hK hD hT hG hS hZ1 hZ2 dX13_hangs_17
  · replace h := oc_s hN1 h
    have kb1 := hT.f k0 (k := 3) (t := 12) (n := 0) rfl hN1
    refine r_get (T := TX13) (v := .ref (ad b1)) hx hb hts in13 hown hK hP k0 (by decide) rfl 3 (by decide) (hts (.fieldLink RX13 431 "StoneWalkModel" "island" "LStoneWalkModel$Island;") (List.mem_of_getElem? (i := 2) (by decide +kernel))) rfl (t := 2) rfl (by show va_rf _ = _; rw [hN1]; rfl) dX13_hangs_6 ?_
    refine lv_ifnonnull (tgt := 18) hx hb dX13_hangs_9 rfl ?_
    refine lv_aload_n hx hb dX13_hangs_18 rfl (lv_at hl 0 rfl) ?_
    refine lv_iconst (v := (-1)) hx hb dX13_hangs_19 rfl ?_
    obtain ⟨z3, h3, h⟩ := ob_some h
    refine k_i (va_runV (As := [.int (-1)]) (rest := []) ⟨hx, hb, hml, hown, hts⟩ (c_X13_likeliestOf (l := l) Mg1 a0 (-1) k0 h3) (cwV 1 hts gX13_hangs_X13_likeliestOf rfl rfl rfl hdV_X13_likeliestOf ⟨Nat.le_of_ble_eq_true rfl, Nat.le_of_ble_eq_true rfl⟩) (pV (T := TX13) hP hK hD hT hG hS k0 (by decide) rfl) rfl rfl hl.1 rfl (lv_room (Nat.le_of_ble_eq_true rfl)) dX13_hangs_20 ⟨Nat.zero_le _, Nat.zero_le _⟩) hS (fun H locs hP hD hT hS => ?_)
    refine lv_istore_n (lv' := [(1, .int z3), (0, .ref (ad a0))]) hx hb dX13_hangs_23 rfl hl (by decide) rfl (fun ls hl => ?_)
    refine lv_iconst (v := 0) hx hb dX13_hangs_24 rfl ?_
    refine lv_istore_n (lv' := [(2, .int 0), (1, .int z3), (0, .ref (ad a0))]) hx hb dX13_hangs_25 rfl hl (by decide) rfl (fun ls hl => ?_)
    have L4 : ∀ n4 : Nat, ∀ (M4 : MM) (y4_0 : Nat) (y4_1 : Int32) (y4_2 : Int32) (ky4_0 : ok g y4_0 13 0) (H : Heap) (locs : List Loc), f_X13_hangs_L26 n4 M4 y4_0 y4_1 y4_2 = some Z → va_P D vwCl (wd ad cy g M4) H → va_D A (wd ad cy g M4) → WT g M4 → va_S A s.heap H locs → ∀ (ls : Array Slot), lv_has ls 3 [(0, .ref (ad y4_0)), (1, .int y4_1), (2, .int y4_2)] → W p l e ((headSpec wsX13_hangs ({ frames := 4, cells := 0, slots := 0, locals := 98 })).room) s m (([.ref (ad a0)] : List Value).toArray) below meth c H locs 0 0 (MQ below (va_Qi (fun r u => r = Z.1 ∧ u = Z.2) (Wd D ad cy A g q) A) ([.ref (ad a0)]).toArray s 0 0 A) (F0 m 26 ls []) := by
      intro n4
      induction n4 with
      | zero => intro M4 y4_0 y4_1 y4_2 ky4_0 H locs h; exact absurd h (by simp [f_X13_hangs_L26])
      | succ n4 ih4 =>
        intro M4 y4_0 y4_1 y4_2 ky4_0 H locs h hP hD hT hS ls hl
        rw [f_X13_hangs_L26] at h
        refine lv_iload_n hx hb dX13_hangs_26 rfl (lv_at hl 2 rfl) ?_
        refine lv_aload_n hx hb dX13_hangs_27 rfl (lv_at hl 0 rfl) ?_
        rcases hN5 : gR M4 y4_0 3 with _ | b5
        · replace h := oc_n hN5 h
          refine r_get (T := TX13) (v := .null) hx hb hts in13 hown hK hP ky4_0 (by decide) rfl 3 (by decide) (hts (.fieldLink RX13 431 "StoneWalkModel" "island" "LStoneWalkModel$Island;") (List.mem_of_getElem? (i := 2) (by decide +kernel))) rfl (t := 2) rfl (by show va_rf _ = _; rw [hN5]; rfl) dX13_hangs_28 ?_
          exact absurd h (by simp)
        · replace h := oc_s hN5 h
          have kb5 := hT.f ky4_0 (k := 3) (t := 12) (n := 0) rfl hN5
          refine r_get (T := TX13) (v := .ref (ad b5)) hx hb hts in13 hown hK hP ky4_0 (by decide) rfl 3 (by decide) (hts (.fieldLink RX13 431 "StoneWalkModel" "island" "LStoneWalkModel$Island;") (List.mem_of_getElem? (i := 2) (by decide +kernel))) rfl (t := 2) rfl (by show va_rf _ = _; rw [hN5]; rfl) dX13_hangs_28 ?_
          refine r_getN (T := TX12) (v := .int (gI M4 b5 2)) hx hb hts in12 hown hK hP kb5 (by decide) rfl 2 (by decide) (hG.2.2.1 ("StoneWalkModel", 191, "StoneWalkModel$Island", "statues", "I", "StoneWalkModel") (List.mem_of_getElem? (i := 7) rfl)) rfl (t := 0) rfl rfl dX13_hangs_31 ?_
          refine lv_icmp_ge (tgt := 71) hx hb dX13_hangs_34 rfl (fun c6 => ?_) (fun c6 => ?_)
          · replace h := ite_t c6 h
            refine lv_aload_n hx hb dX13_hangs_71 rfl (lv_at hl 0 rfl) ?_
            refine lv_bipush (v := (-2)) hx hb dX13_hangs_72 rfl ?_
            obtain ⟨z7, h7, h⟩ := ob_some h
            refine k_i (va_runV (As := [.int (-2)]) (rest := []) ⟨hx, hb, hml, hown, hts⟩ (c_X13_done (l := l) M4 y4_0 (-2) ky4_0 h7) (cwV 1 hts gX13_hangs_X13_done rfl rfl rfl hdV_X13_done ⟨Nat.le_of_ble_eq_true rfl, Nat.le_of_ble_eq_true rfl⟩) (pV (T := TX13) hP hK hD hT hG hS ky4_0 (by decide) rfl) rfl rfl hl.1 rfl (lv_room (Nat.le_of_ble_eq_true rfl)) dX13_hangs_74 ⟨Nat.zero_le _, Nat.zero_le _⟩) hS (fun H locs hP hD hT hS => ?_)
            have hZ := Option.some.inj h
            have hZ1 := congrArg Prod.fst hZ
            have hZ2 := congrArg Prod.snd hZ
            exact r_iret hx hb hr hlocks hP hK hD hT hG hS hZ1 hZ2 dX13_hangs_77
          · replace h := ite_f c6 h
            refine lv_aload_n hx hb dX13_hangs_37 rfl (lv_at hl 0 rfl) ?_
            rcases hN8 : gR M4 y4_0 3 with _ | b8
            · replace h := oc_n hN8 h
              refine r_get (T := TX13) (v := .null) hx hb hts in13 hown hK hP ky4_0 (by decide) rfl 3 (by decide) (hts (.fieldLink RX13 431 "StoneWalkModel" "island" "LStoneWalkModel$Island;") (List.mem_of_getElem? (i := 2) (by decide +kernel))) rfl (t := 2) rfl (by show va_rf _ = _; rw [hN8]; rfl) dX13_hangs_38 ?_
              exact absurd h (by simp)
            · replace h := oc_s hN8 h
              have kb8 := hT.f ky4_0 (k := 3) (t := 12) (n := 0) rfl hN8
              refine r_get (T := TX13) (v := .ref (ad b8)) hx hb hts in13 hown hK hP ky4_0 (by decide) rfl 3 (by decide) (hts (.fieldLink RX13 431 "StoneWalkModel" "island" "LStoneWalkModel$Island;") (List.mem_of_getElem? (i := 2) (by decide +kernel))) rfl (t := 2) rfl (by show va_rf _ = _; rw [hN8]; rfl) dX13_hangs_38 ?_
              rcases hN9 : gR M4 b8 18 with _ | b9
              · exact absurd (oc_n hN9 h) (by simp)
              replace h := oc_s hN9 h
              have kb9 := hT.f kb8 (k := 18) (t := 15) (n := 10) rfl hN9
              refine r_getN (T := TX12) (v := .ref (ad b9)) hx hb hts in12 hown hK hP kb8 (by decide) rfl 18 (by decide) (hG.2.2.1 ("StoneWalkModel", 307, "StoneWalkModel$Island", "sort", "[I", "StoneWalkModel") (List.mem_of_getElem? (i := 18) rfl)) rfl (t := 2) rfl (by show va_rf _ = _; rw [hN9]; rfl) dX13_hangs_41 ?_
              refine lv_iload_n hx hb dX13_hangs_44 rfl (lv_at hl 2 rfl) ?_
              obtain ⟨hn10, h⟩ := chk_some h
              refine r_iald hx hb hK hP kb9 hn10 dX13_hangs_45 ?_
              refine lv_iconst (v := 5) hx hb dX13_hangs_46 rfl ?_
              refine lv_icmp_ne (tgt := 65) hx hb dX13_hangs_47 rfl (fun c11 => ?_) (fun c11 => ?_)
              · replace h := ite_f c11 h
                refine lv_iinc (v := y4_2 + 1) (lv' := [(2, .int (y4_2 + 1)), (0, .ref (ad y4_0)), (1, .int y4_1)]) hx hb dX13_hangs_65 hl (k := 2) rfl rfl (by decide) rfl (fun ls hl => ?_)
                refine lv_goto (tgt := 26) hx hb dX13_hangs_68 rfl ?_
                exact ih4 M4 y4_0 y4_1 (y4_2 + 1) ky4_0 _ _ h hP hD hT hS ls (lv_sub hl [1, 2, 0] rfl)
              · replace h := ite_t c11 h
                refine lv_aload_n hx hb dX13_hangs_50 rfl (lv_at hl 0 rfl) ?_
                refine lv_iload_n hx hb dX13_hangs_51 rfl (lv_at hl 2 rfl) ?_
                obtain ⟨z12, h12, h⟩ := ob_some h
                refine k_i (va_runV (As := [.int y4_2]) (rest := []) ⟨hx, hb, hml, hown, hts⟩ (c_X13_likeliestOf (l := l) M4 y4_0 y4_2 ky4_0 h12) (cwV 1 hts gX13_hangs_X13_likeliestOf rfl rfl rfl hdV_X13_likeliestOf ⟨Nat.le_of_ble_eq_true rfl, Nat.le_of_ble_eq_true rfl⟩) (pV (T := TX13) hP hK hD hT hG hS ky4_0 (by decide) rfl) rfl rfl hl.1 rfl (lv_room (Nat.le_of_ble_eq_true rfl)) dX13_hangs_52 ⟨Nat.zero_le _, Nat.zero_le _⟩) hS (fun H locs hP hD hT hS => ?_)
                refine lv_iload_n hx hb dX13_hangs_55 rfl (lv_at hl 1 rfl) ?_
                refine lv_icmp_eq (tgt := 65) hx hb dX13_hangs_56 rfl (fun c13 => ?_) (fun c13 => ?_)
                · replace h := ite_t c13 h
                  refine lv_iinc (v := y4_2 + 1) (lv' := [(2, .int (y4_2 + 1)), (0, .ref (ad y4_0)), (1, .int y4_1)]) hx hb dX13_hangs_65 hl (k := 2) rfl rfl (by decide) rfl (fun ls hl => ?_)
                  refine lv_goto (tgt := 26) hx hb dX13_hangs_68 rfl ?_
                  exact ih4 M4 y4_0 y4_1 (y4_2 + 1) ky4_0 _ _ h hP hD hT hS ls (lv_sub hl [1, 2, 0] rfl)
                · replace h := ite_f c13 h
                  refine lv_aload_n hx hb dX13_hangs_59 rfl (lv_at hl 0 rfl) ?_
                  refine lv_iload_n hx hb dX13_hangs_60 rfl (lv_at hl 2 rfl) ?_
                  obtain ⟨z14, h14, h⟩ := ob_some h
                  refine k_i (va_runV (As := [.int y4_2]) (rest := []) ⟨hx, hb, hml, hown, hts⟩ (c_X13_done (l := l) M4 y4_0 y4_2 ky4_0 h14) (cwV 1 hts gX13_hangs_X13_done rfl rfl rfl hdV_X13_done ⟨Nat.le_of_ble_eq_true rfl, Nat.le_of_ble_eq_true rfl⟩) (pV (T := TX13) hP hK hD hT hG hS ky4_0 (by decide) rfl) rfl rfl hl.1 rfl (lv_room (Nat.le_of_ble_eq_true rfl)) dX13_hangs_61 ⟨Nat.zero_le _, Nat.zero_le _⟩) hS (fun H locs hP hD hT hS => ?_)
                  have hZ := Option.some.inj h
                  have hZ1 := congrArg Prod.fst hZ
                  have hZ2 := congrArg Prod.snd hZ
                  exact r_iret hx hb hr hlocks hP hK hD hT hG hS hZ1 hZ2 dX13_hangs_64
    exact L4 FU Mg1 a0 z3 0 k0 _ _ h hP hD hT hS ls (lv_sub hl [2, 1, 0] rfl)
set_option maxHeartbeats 4000000 in
set_option maxRecDepth 100000 in
theorem c_X13_tryout {l : Launch} {D : va_G} {ad : Nat → Nat} {cy : Nat → ClassId} {A : Nat → Prop} {g : CG} {q : SE} (M : MM) (a0 : Nat) (k0 : ok g a0 13 0) {Z : (Int32 × MM)} (h : f_X13_tryout M a0 = some Z) : Met l yX13_tryout wsX13_tryout ({ frames := 3, cells := 0, slots := 0, locals := 75 }) (va_Pc [.ref (ad a0)] (Wd D ad cy A g q M)) (va_Qi (fun r u => r = Z.1 ∧ u = Z.2) (Wd D ad cy A g q) A) 0 0 A := by
  refine Met.ofW (cc := cX13_tryout) (maxL := 11) (ret := (some .int)) (by decide) rfl ?_
  intro p e s m args below meth c s₁ B hml hv
  obtain ⟨rfl, hP, hK, hD, hT, hG⟩ := hv
  have hx := B.exec
  have hb := B.bytes
  have hr := B.returns
  have hts := atoms_spec (ws := wsX13_tryout) B.pre
  have hown : s.vm.findClass RX13 = some m.cls := findClass_of_methodNamed B.named
  have hlocks := B.notSynchronized
  have in12 : ∀ w ∈ u_ws RX12 TX12 48, w ∈ wsX13_tryout := fun w h => List.mem_cons_of_mem _ (List.mem_append_right _ h)
  have in13 : ∀ w ∈ u_ws RX13 TX13 29, w ∈ wsX13_tryout := fun w h => List.mem_cons_of_mem _ (List.mem_append_left _ (List.mem_append_right _ h))
  have hS : va_S A s.heap s.heap [] := va_S.rf
  have hl := lv_entry ([.ref (ad a0)]) (n := 11) (Nat.le_of_ble_eq_true rfl)
  rw [lg_entry_eq]
  generalize (lg_sl ([.ref (ad a0)]) ++ List.replicate (11 - (lg_sl ([.ref (ad a0)])).length) Slot.unset).toArray = ls at hl ⊢
  have hl : lv_has ls 11 [(0, .ref (ad a0))] := hl
  unfold f_X13_tryout at h
  refine lv_aload_n hx hb dX13_tryout_0 rfl (lv_at hl 0 rfl) ?_
  refine lv_iconst (v := 0) hx hb dX13_tryout_1 rfl ?_
  refine r_putI (T := TX13) (ty := .int) (v := 0) hx hb hts in13 tyX13 tyX13_ok nmX13 hown hK hP hD hT hS k0 (by decide) rfl 0 (by decide) (hts (.fieldLink RX13 30 "StoneWalkModel" "thrown" "I") (List.mem_of_getElem? (i := 1) (by decide +kernel))) rfl rfl (tyX13_ok 0 (by decide)) rfl rfl rfl dX13_tryout_2 (fun H locs hP hD hT hS => ?_)
  generalize pI M a0 0 0 = Mg1 at h hP hD hT ⊢
  refine lv_aload_n hx hb dX13_tryout_5 rfl (lv_at hl 0 rfl) ?_
  rcases hN1 : gR Mg1 a0 3 with _ | b1
  · replace h := oc_n hN1 h
    refine r_get (T := TX13) (v := .null) hx hb hts in13 hown hK hP k0 (by decide) rfl 3 (by decide) (hts (.fieldLink RX13 431 "StoneWalkModel" "island" "LStoneWalkModel$Island;") (List.mem_of_getElem? (i := 2) (by decide +kernel))) rfl (t := 2) rfl (by show va_rf _ = _; rw [hN1]; rfl) dX13_tryout_6 ?_
    refine lv_ifnonnullN hx hb dX13_tryout_9 ?_
    refine lv_aload_n hx hb dX13_tryout_12 rfl (lv_at hl 0 rfl) ?_
    refine lv_iconst (v := 1) hx hb dX13_tryout_13 rfl ?_
    obtain ⟨z2, h2, h⟩ := ob_some h
    refine k_i (va_runV (As := [.int 1]) (rest := []) ⟨hx, hb, hml, hown, hts⟩ (c_X13_refused (l := l) Mg1 a0 1 k0 h2) (cwV 1 hts gX13_tryout_X13_refused rfl rfl rfl hdV_X13_refused ⟨Nat.le_of_ble_eq_true rfl, Nat.le_of_ble_eq_true rfl⟩) (pV (T := TX13) hP hK hD hT hG hS k0 (by decide) rfl) rfl rfl hl.1 rfl (lv_room (Nat.le_of_ble_eq_true rfl)) dX13_tryout_14 ⟨Nat.zero_le _, Nat.zero_le _⟩) hS (fun H locs hP hD hT hS => ?_)
    have hZ := Option.some.inj h
    have hZ1 := congrArg Prod.fst hZ
    have hZ2 := congrArg Prod.snd hZ
    exact r_iret hx hb hr hlocks hP hK hD hT hG hS hZ1 hZ2 dX13_tryout_17
  · replace h := oc_s hN1 h
    have kb1 := hT.f k0 (k := 3) (t := 12) (n := 0) rfl hN1
    refine r_get (T := TX13) (v := .ref (ad b1)) hx hb hts in13 hown hK hP k0 (by decide) rfl 3 (by decide) (hts (.fieldLink RX13 431 "StoneWalkModel" "island" "LStoneWalkModel$Island;") (List.mem_of_getElem? (i := 2) (by decide +kernel))) rfl (t := 2) rfl (by show va_rf _ = _; rw [hN1]; rfl) dX13_tryout_6 ?_
    refine lv_ifnonnull (tgt := 18) hx hb dX13_tryout_9 rfl ?_
    refine lv_aload_n hx hb dX13_tryout_18 rfl (lv_at hl 0 rfl) ?_
    rcases hN3 : gR Mg1 a0 3 with _ | b3
    · replace h := oc_n hN3 h
      refine r_get (T := TX13) (v := .null) hx hb hts in13 hown hK hP k0 (by decide) rfl 3 (by decide) (hts (.fieldLink RX13 431 "StoneWalkModel" "island" "LStoneWalkModel$Island;") (List.mem_of_getElem? (i := 2) (by decide +kernel))) rfl (t := 2) rfl (by show va_rf _ = _; rw [hN3]; rfl) dX13_tryout_19 ?_
      exact absurd h (by simp)
    · replace h := oc_s hN3 h
      have kb3 := hT.f k0 (k := 3) (t := 12) (n := 0) rfl hN3
      refine r_get (T := TX13) (v := .ref (ad b3)) hx hb hts in13 hown hK hP k0 (by decide) rfl 3 (by decide) (hts (.fieldLink RX13 431 "StoneWalkModel" "island" "LStoneWalkModel$Island;") (List.mem_of_getElem? (i := 2) (by decide +kernel))) rfl (t := 2) rfl (by show va_rf _ = _; rw [hN3]; rfl) dX13_tryout_19 ?_
      refine r_getN (T := TX12) (v := .int (gI Mg1 b3 7)) hx hb hts in12 hown hK hP kb3 (by decide) rfl 7 (by decide) (hG.2.2.1 ("StoneWalkModel", 409, "StoneWalkModel$Island", "tries", "I", "StoneWalkModel") (List.mem_of_getElem? (i := 44) rfl)) rfl (t := 0) rfl rfl dX13_tryout_22 ?_
      refine lv_if_ne (tgt := 35) hx hb dX13_tryout_25 rfl (fun c4 => ?_) (fun c4 => ?_)
      · replace h := ite_f c4 h
        refine lv_iconst (v := 0) hx hb dX13_tryout_35 rfl ?_
        refine lv_istore_n (lv' := [(1, .int 0), (0, .ref (ad a0))]) hx hb dX13_tryout_36 rfl hl (by decide) rfl (fun ls hl => ?_)
        refine lv_lconst (v := 0) hx hb dX13_tryout_37 rfl ?_
        refine lv_lstore_n (lv' := [(2, .long 0), (1, .int 0), (0, .ref (ad a0))]) hx hb dX13_tryout_38 rfl hl (by decide) rfl (fun ls hl => ?_)
        refine lv_iconst (v := 0) hx hb dX13_tryout_39 rfl ?_
        refine lv_istore (lv' := [(4, .int 0), (2, .long 0), (1, .int 0), (0, .ref (ad a0))]) hx hb dX13_tryout_40 hl (by decide) rfl (fun ls hl => ?_)
        have L5 : ∀ n5 : Nat, ∀ (M5 : MM) (y5_0 : Nat) (y5_1 : Int32) (y5_2 : Int64) (y5_4 : Int32) (ky5_0 : ok g y5_0 13 0) (H : Heap) (locs : List Loc), f_X13_tryout_L42 n5 M5 y5_0 y5_1 y5_2 y5_4 = some Z → va_P D vwCl (wd ad cy g M5) H → va_D A (wd ad cy g M5) → WT g M5 → va_S A s.heap H locs → ∀ (ls : Array Slot), lv_has ls 11 [(0, .ref (ad y5_0)), (1, .int y5_1), (2, .long y5_2), (4, .int y5_4)] → W p l e ((headSpec wsX13_tryout ({ frames := 3, cells := 0, slots := 0, locals := 75 })).room) s m (([.ref (ad a0)] : List Value).toArray) below meth c H locs 0 0 (MQ below (va_Qi (fun r u => r = Z.1 ∧ u = Z.2) (Wd D ad cy A g q) A) ([.ref (ad a0)]).toArray s 0 0 A) (F0 m 42 ls []) := by
          intro n5
          induction n5 with
          | zero => intro M5 y5_0 y5_1 y5_2 y5_4 ky5_0 H locs h; exact absurd h (by simp [f_X13_tryout_L42])
          | succ n5 ih5 =>
            intro M5 y5_0 y5_1 y5_2 y5_4 ky5_0 H locs h hP hD hT hS ls hl
            rw [f_X13_tryout_L42] at h
            refine lv_iload hx hb dX13_tryout_42 (lv_at hl 3 rfl) ?_
            refine lv_aload_n hx hb dX13_tryout_44 rfl (lv_at hl 0 rfl) ?_
            rcases hN6 : gR M5 y5_0 3 with _ | b6
            · replace h := oc_n hN6 h
              refine r_get (T := TX13) (v := .null) hx hb hts in13 hown hK hP ky5_0 (by decide) rfl 3 (by decide) (hts (.fieldLink RX13 431 "StoneWalkModel" "island" "LStoneWalkModel$Island;") (List.mem_of_getElem? (i := 2) (by decide +kernel))) rfl (t := 2) rfl (by show va_rf _ = _; rw [hN6]; rfl) dX13_tryout_45 ?_
              exact absurd h (by simp)
            · replace h := oc_s hN6 h
              have kb6 := hT.f ky5_0 (k := 3) (t := 12) (n := 0) rfl hN6
              refine r_get (T := TX13) (v := .ref (ad b6)) hx hb hts in13 hown hK hP ky5_0 (by decide) rfl 3 (by decide) (hts (.fieldLink RX13 431 "StoneWalkModel" "island" "LStoneWalkModel$Island;") (List.mem_of_getElem? (i := 2) (by decide +kernel))) rfl (t := 2) rfl (by show va_rf _ = _; rw [hN6]; rfl) dX13_tryout_45 ?_
              refine r_getN (T := TX12) (v := .int (gI M5 b6 7)) hx hb hts in12 hown hK hP kb6 (by decide) rfl 7 (by decide) (hG.2.2.1 ("StoneWalkModel", 409, "StoneWalkModel$Island", "tries", "I", "StoneWalkModel") (List.mem_of_getElem? (i := 44) rfl)) rfl (t := 0) rfl rfl dX13_tryout_48 ?_
              refine lv_icmp_ge (tgt := 222) hx hb dX13_tryout_51 rfl (fun c7 => ?_) (fun c7 => ?_)
              · replace h := ite_t c7 h
                refine lv_aload_n hx hb dX13_tryout_222 rfl (lv_at hl 0 rfl) ?_
                refine lv_iload_n hx hb dX13_tryout_223 rfl (lv_at hl 1 rfl) ?_
                obtain ⟨z8, h8, h⟩ := ob_some h
                refine k_i (va_runV (As := [.int y5_1]) (rest := []) ⟨hx, hb, hml, hown, hts⟩ (c_X13_done (l := l) M5 y5_0 y5_1 ky5_0 h8) (cwV 1 hts gX13_tryout_X13_done rfl rfl rfl hdV_X13_done ⟨Nat.le_of_ble_eq_true rfl, Nat.le_of_ble_eq_true rfl⟩) (pV (T := TX13) hP hK hD hT hG hS ky5_0 (by decide) rfl) rfl rfl hl.1 rfl (lv_room (Nat.le_of_ble_eq_true rfl)) dX13_tryout_224 ⟨Nat.zero_le _, Nat.zero_le _⟩) hS (fun H locs hP hD hT hS => ?_)
                have hZ := Option.some.inj h
                have hZ1 := congrArg Prod.fst hZ
                have hZ2 := congrArg Prod.snd hZ
                exact r_iret hx hb hr hlocks hP hK hD hT hG hS hZ1 hZ2 dX13_tryout_227
              · replace h := ite_f c7 h
                refine lv_lconst (v := 0) hx hb dX13_tryout_54 rfl ?_
                refine lv_lstore (lv' := [(5, .long 0), (0, .ref (ad y5_0)), (1, .int y5_1), (2, .long y5_2), (4, .int y5_4)]) hx hb dX13_tryout_55 hl (by decide) rfl (fun ls hl => ?_)
                refine lv_lconst (v := 0) hx hb dX13_tryout_57 rfl ?_
                refine lv_lstore (lv' := [(7, .long 0), (5, .long 0), (0, .ref (ad y5_0)), (1, .int y5_1), (2, .long y5_2), (4, .int y5_4)]) hx hb dX13_tryout_58 hl (by decide) rfl (fun ls hl => ?_)
                refine lv_iconst (v := 0) hx hb dX13_tryout_60 rfl ?_
                refine lv_istore (lv' := [(9, .int 0), (7, .long 0), (5, .long 0), (0, .ref (ad y5_0)), (1, .int y5_1), (2, .long y5_2), (4, .int y5_4)]) hx hb dX13_tryout_61 hl (by decide) rfl (fun ls hl => ?_)
                have L9 : ∀ n9 : Nat, ∀ (M9 : MM) (y9_0 : Nat) (y9_1 : Int32) (y9_2 : Int64) (y9_4 : Int32) (y9_5 : Int64) (y9_7 : Int64) (y9_9 : Int32) (ky9_0 : ok g y9_0 13 0) (H : Heap) (locs : List Loc), f_X13_tryout_L63 (fun M y5_0 y5_1 y5_2 y5_4 => f_X13_tryout_L42 n5 M y5_0 y5_1 y5_2 y5_4) n9 M9 y9_0 y9_1 y9_2 y9_4 y9_5 y9_7 y9_9 = some Z → va_P D vwCl (wd ad cy g M9) H → va_D A (wd ad cy g M9) → WT g M9 → va_S A s.heap H locs → ∀ (ls : Array Slot), lv_has ls 11 [(0, .ref (ad y9_0)), (1, .int y9_1), (2, .long y9_2), (4, .int y9_4), (5, .long y9_5), (7, .long y9_7), (9, .int y9_9)] → W p l e ((headSpec wsX13_tryout ({ frames := 3, cells := 0, slots := 0, locals := 75 })).room) s m (([.ref (ad a0)] : List Value).toArray) below meth c H locs 0 0 (MQ below (va_Qi (fun r u => r = Z.1 ∧ u = Z.2) (Wd D ad cy A g q) A) ([.ref (ad a0)]).toArray s 0 0 A) (F0 m 63 ls []) := by
                  intro n9
                  induction n9 with
                  | zero => intro M9 y9_0 y9_1 y9_2 y9_4 y9_5 y9_7 y9_9 ky9_0 H locs h; exact absurd h (by simp [f_X13_tryout_L63])
                  | succ n9 ih9 =>
                    intro M9 y9_0 y9_1 y9_2 y9_4 y9_5 y9_7 y9_9 ky9_0 H locs h hP hD hT hS ls hl
                    rw [f_X13_tryout_L63] at h
                    refine lv_iload hx hb dX13_tryout_63 (lv_at hl 6 rfl) ?_
                    refine lv_aload_n hx hb dX13_tryout_65 rfl (lv_at hl 0 rfl) ?_
                    rcases hN10 : gR M9 y9_0 3 with _ | b10
                    · replace h := oc_n hN10 h
                      refine r_get (T := TX13) (v := .null) hx hb hts in13 hown hK hP ky9_0 (by decide) rfl 3 (by decide) (hts (.fieldLink RX13 431 "StoneWalkModel" "island" "LStoneWalkModel$Island;") (List.mem_of_getElem? (i := 2) (by decide +kernel))) rfl (t := 2) rfl (by show va_rf _ = _; rw [hN10]; rfl) dX13_tryout_66 ?_
                      exact absurd h (by simp)
                    · replace h := oc_s hN10 h
                      have kb10 := hT.f ky9_0 (k := 3) (t := 12) (n := 0) rfl hN10
                      refine r_get (T := TX13) (v := .ref (ad b10)) hx hb hts in13 hown hK hP ky9_0 (by decide) rfl 3 (by decide) (hts (.fieldLink RX13 431 "StoneWalkModel" "island" "LStoneWalkModel$Island;") (List.mem_of_getElem? (i := 2) (by decide +kernel))) rfl (t := 2) rfl (by show va_rf _ = _; rw [hN10]; rfl) dX13_tryout_66 ?_
                      refine r_getN (T := TX12) (v := .int (gI M9 b10 0)) hx hb hts in12 hown hK hP kb10 (by decide) rfl 0 (by decide) (hG.2.2.1 ("StoneWalkModel", 185, "StoneWalkModel$Island", "ways", "I", "StoneWalkModel") (List.mem_of_getElem? (i := 5) rfl)) rfl (t := 0) rfl rfl dX13_tryout_69 ?_
                      refine lv_icmp_ge (tgt := 178) hx hb dX13_tryout_72 rfl (fun c11 => ?_) (fun c11 => ?_)
                      · replace h := ite_t c11 h
                        refine lv_lload hx hb dX13_tryout_178 (lv_at hl 4 rfl) ?_
                        refine lv_lload hx hb dX13_tryout_180 (lv_at hl 5 rfl) ?_
                        refine W.lcmp hx hb dX13_tryout_182 ?_
                        refine lv_if_le (tgt := 191) hx hb dX13_tryout_183 rfl (fun c12 => ?_) (fun c12 => ?_)
                        · replace h := ite_t c12 h
                          refine lv_lload hx hb dX13_tryout_191 (lv_at hl 5 rfl) ?_
                          refine lv_lstore (lv' := [(9, .long y9_7), (0, .ref (ad y9_0)), (1, .int y9_1), (2, .long y9_2), (4, .int y9_4), (5, .long y9_5), (7, .long y9_7)]) hx hb dX13_tryout_193 hl (by decide) rfl (fun ls hl => ?_)
                          refine lv_iload hx hb dX13_tryout_195 (lv_at hl 4 rfl) ?_
                          refine lv_if_le (tgt := 210) hx hb dX13_tryout_197 rfl (fun c13 => ?_) (fun c13 => ?_)
                          · replace h := ite_t c13 h
                            refine lv_lload hx hb dX13_tryout_210 (lv_at hl 0 rfl) ?_
                            refine lv_lstore_n (lv' := [(2, .long y9_7), (9, .long y9_7), (0, .ref (ad y9_0)), (1, .int y9_1), (4, .int y9_4), (5, .long y9_5), (7, .long y9_7)]) hx hb dX13_tryout_212 rfl hl (by decide) rfl (fun ls hl => ?_)
                            refine lv_iload hx hb dX13_tryout_213 (lv_at hl 4 rfl) ?_
                            refine lv_istore_n (lv' := [(1, .int y9_4), (2, .long y9_7), (9, .long y9_7), (0, .ref (ad y9_0)), (4, .int y9_4), (5, .long y9_5), (7, .long y9_7)]) hx hb dX13_tryout_215 rfl hl (by decide) rfl (fun ls hl => ?_)
                            refine lv_iinc (v := y9_4 + 1) (lv' := [(4, .int (y9_4 + 1)), (1, .int y9_4), (2, .long y9_7), (9, .long y9_7), (0, .ref (ad y9_0)), (5, .long y9_5), (7, .long y9_7)]) hx hb dX13_tryout_216 hl (k := 4) rfl rfl (by decide) rfl (fun ls hl => ?_)
                            refine lv_goto (tgt := 42) hx hb dX13_tryout_219 rfl ?_
                            exact ih5 M9 y9_0 y9_4 y9_7 (y9_4 + 1) ky9_0 _ _ h hP hD hT hS ls (lv_sub hl [4, 1, 2, 0] rfl)
                          · replace h := ite_f c13 h
                            refine lv_lload hx hb dX13_tryout_200 (lv_at hl 0 rfl) ?_
                            refine lv_lload_n hx hb dX13_tryout_202 rfl (lv_at hl 3 rfl) ?_
                            refine W.lcmp hx hb dX13_tryout_203 ?_
                            refine lv_if_lt (tgt := 210) hx hb dX13_tryout_204 rfl (fun c14 => ?_) (fun c14 => ?_)
                            · replace h := ite_t c14 h
                              refine lv_lload hx hb dX13_tryout_210 (lv_at hl 0 rfl) ?_
                              refine lv_lstore_n (lv' := [(2, .long y9_7), (9, .long y9_7), (0, .ref (ad y9_0)), (1, .int y9_1), (4, .int y9_4), (5, .long y9_5), (7, .long y9_7)]) hx hb dX13_tryout_212 rfl hl (by decide) rfl (fun ls hl => ?_)
                              refine lv_iload hx hb dX13_tryout_213 (lv_at hl 4 rfl) ?_
                              refine lv_istore_n (lv' := [(1, .int y9_4), (2, .long y9_7), (9, .long y9_7), (0, .ref (ad y9_0)), (4, .int y9_4), (5, .long y9_5), (7, .long y9_7)]) hx hb dX13_tryout_215 rfl hl (by decide) rfl (fun ls hl => ?_)
                              refine lv_iinc (v := y9_4 + 1) (lv' := [(4, .int (y9_4 + 1)), (1, .int y9_4), (2, .long y9_7), (9, .long y9_7), (0, .ref (ad y9_0)), (5, .long y9_5), (7, .long y9_7)]) hx hb dX13_tryout_216 hl (k := 4) rfl rfl (by decide) rfl (fun ls hl => ?_)
                              refine lv_goto (tgt := 42) hx hb dX13_tryout_219 rfl ?_
                              exact ih5 M9 y9_0 y9_4 y9_7 (y9_4 + 1) ky9_0 _ _ h hP hD hT hS ls (lv_sub hl [4, 1, 2, 0] rfl)
                            · replace h := ite_f c14 h
                              refine lv_goto (tgt := 216) hx hb dX13_tryout_207 rfl ?_
                              refine lv_iinc (v := y9_4 + 1) (lv' := [(4, .int (y9_4 + 1)), (9, .long y9_7), (0, .ref (ad y9_0)), (1, .int y9_1), (2, .long y9_2), (5, .long y9_5), (7, .long y9_7)]) hx hb dX13_tryout_216 hl (k := 4) rfl rfl (by decide) rfl (fun ls hl => ?_)
                              refine lv_goto (tgt := 42) hx hb dX13_tryout_219 rfl ?_
                              exact ih5 M9 y9_0 y9_1 y9_2 (y9_4 + 1) ky9_0 _ _ h hP hD hT hS ls (lv_sub hl [2, 3, 4, 0] rfl)
                        · replace h := ite_f c12 h
                          refine lv_lload hx hb dX13_tryout_186 (lv_at hl 4 rfl) ?_
                          refine lv_goto (tgt := 193) hx hb dX13_tryout_188 rfl ?_
                          refine lv_lstore (lv' := [(9, .long y9_5), (0, .ref (ad y9_0)), (1, .int y9_1), (2, .long y9_2), (4, .int y9_4), (5, .long y9_5), (7, .long y9_7)]) hx hb dX13_tryout_193 hl (by decide) rfl (fun ls hl => ?_)
                          refine lv_iload hx hb dX13_tryout_195 (lv_at hl 4 rfl) ?_
                          refine lv_if_le (tgt := 210) hx hb dX13_tryout_197 rfl (fun c15 => ?_) (fun c15 => ?_)
                          · replace h := ite_t c15 h
                            refine lv_lload hx hb dX13_tryout_210 (lv_at hl 0 rfl) ?_
                            refine lv_lstore_n (lv' := [(2, .long y9_5), (9, .long y9_5), (0, .ref (ad y9_0)), (1, .int y9_1), (4, .int y9_4), (5, .long y9_5), (7, .long y9_7)]) hx hb dX13_tryout_212 rfl hl (by decide) rfl (fun ls hl => ?_)
                            refine lv_iload hx hb dX13_tryout_213 (lv_at hl 4 rfl) ?_
                            refine lv_istore_n (lv' := [(1, .int y9_4), (2, .long y9_5), (9, .long y9_5), (0, .ref (ad y9_0)), (4, .int y9_4), (5, .long y9_5), (7, .long y9_7)]) hx hb dX13_tryout_215 rfl hl (by decide) rfl (fun ls hl => ?_)
                            refine lv_iinc (v := y9_4 + 1) (lv' := [(4, .int (y9_4 + 1)), (1, .int y9_4), (2, .long y9_5), (9, .long y9_5), (0, .ref (ad y9_0)), (5, .long y9_5), (7, .long y9_7)]) hx hb dX13_tryout_216 hl (k := 4) rfl rfl (by decide) rfl (fun ls hl => ?_)
                            refine lv_goto (tgt := 42) hx hb dX13_tryout_219 rfl ?_
                            exact ih5 M9 y9_0 y9_4 y9_5 (y9_4 + 1) ky9_0 _ _ h hP hD hT hS ls (lv_sub hl [4, 1, 2, 0] rfl)
                          · replace h := ite_f c15 h
                            refine lv_lload hx hb dX13_tryout_200 (lv_at hl 0 rfl) ?_
                            refine lv_lload_n hx hb dX13_tryout_202 rfl (lv_at hl 3 rfl) ?_
                            refine W.lcmp hx hb dX13_tryout_203 ?_
                            refine lv_if_lt (tgt := 210) hx hb dX13_tryout_204 rfl (fun c16 => ?_) (fun c16 => ?_)
                            · replace h := ite_t c16 h
                              refine lv_lload hx hb dX13_tryout_210 (lv_at hl 0 rfl) ?_
                              refine lv_lstore_n (lv' := [(2, .long y9_5), (9, .long y9_5), (0, .ref (ad y9_0)), (1, .int y9_1), (4, .int y9_4), (5, .long y9_5), (7, .long y9_7)]) hx hb dX13_tryout_212 rfl hl (by decide) rfl (fun ls hl => ?_)
                              refine lv_iload hx hb dX13_tryout_213 (lv_at hl 4 rfl) ?_
                              refine lv_istore_n (lv' := [(1, .int y9_4), (2, .long y9_5), (9, .long y9_5), (0, .ref (ad y9_0)), (4, .int y9_4), (5, .long y9_5), (7, .long y9_7)]) hx hb dX13_tryout_215 rfl hl (by decide) rfl (fun ls hl => ?_)
                              refine lv_iinc (v := y9_4 + 1) (lv' := [(4, .int (y9_4 + 1)), (1, .int y9_4), (2, .long y9_5), (9, .long y9_5), (0, .ref (ad y9_0)), (5, .long y9_5), (7, .long y9_7)]) hx hb dX13_tryout_216 hl (k := 4) rfl rfl (by decide) rfl (fun ls hl => ?_)
                              refine lv_goto (tgt := 42) hx hb dX13_tryout_219 rfl ?_
                              exact ih5 M9 y9_0 y9_4 y9_5 (y9_4 + 1) ky9_0 _ _ h hP hD hT hS ls (lv_sub hl [4, 1, 2, 0] rfl)
                            · replace h := ite_f c16 h
                              refine lv_goto (tgt := 216) hx hb dX13_tryout_207 rfl ?_
                              refine lv_iinc (v := y9_4 + 1) (lv' := [(4, .int (y9_4 + 1)), (9, .long y9_5), (0, .ref (ad y9_0)), (1, .int y9_1), (2, .long y9_2), (5, .long y9_5), (7, .long y9_7)]) hx hb dX13_tryout_216 hl (k := 4) rfl rfl (by decide) rfl (fun ls hl => ?_)
                              refine lv_goto (tgt := 42) hx hb dX13_tryout_219 rfl ?_
                              exact ih5 M9 y9_0 y9_1 y9_2 (y9_4 + 1) ky9_0 _ _ h hP hD hT hS ls (lv_sub hl [2, 3, 4, 0] rfl)
                      · replace h := ite_f c11 h
                        refine lv_aload_n hx hb dX13_tryout_75 rfl (lv_at hl 0 rfl) ?_
                        rcases hN17 : gR M9 y9_0 3 with _ | b17
                        · replace h := oc_n hN17 h
                          refine r_get (T := TX13) (v := .null) hx hb hts in13 hown hK hP ky9_0 (by decide) rfl 3 (by decide) (hts (.fieldLink RX13 431 "StoneWalkModel" "island" "LStoneWalkModel$Island;") (List.mem_of_getElem? (i := 2) (by decide +kernel))) rfl (t := 2) rfl (by show va_rf _ = _; rw [hN17]; rfl) dX13_tryout_76 ?_
                          exact absurd h (by simp)
                        · replace h := oc_s hN17 h
                          have kb17 := hT.f ky9_0 (k := 3) (t := 12) (n := 0) rfl hN17
                          refine r_get (T := TX13) (v := .ref (ad b17)) hx hb hts in13 hown hK hP ky9_0 (by decide) rfl 3 (by decide) (hts (.fieldLink RX13 431 "StoneWalkModel" "island" "LStoneWalkModel$Island;") (List.mem_of_getElem? (i := 2) (by decide +kernel))) rfl (t := 2) rfl (by show va_rf _ = _; rw [hN17]; rfl) dX13_tryout_76 ?_
                          rcases hN18 : gR M9 b17 9 with _ | b18
                          · exact absurd (oc_n hN18 h) (by simp)
                          replace h := oc_s hN18 h
                          have kb18 := hT.f kb17 (k := 9) (t := 15) (n := 4) rfl hN18
                          refine r_getN (T := TX12) (v := .ref (ad b18)) hx hb hts in12 hown hK hP kb17 (by decide) rfl 9 (by decide) (hG.2.2.1 ("StoneWalkModel", 247, "StoneWalkModel$Island", "kind", "[I", "StoneWalkModel") (List.mem_of_getElem? (i := 8) rfl)) rfl (t := 2) rfl (by show va_rf _ = _; rw [hN18]; rfl) dX13_tryout_79 ?_
                          refine lv_iload hx hb dX13_tryout_82 (lv_at hl 6 rfl) ?_
                          obtain ⟨hn19, h⟩ := chk_some h
                          refine r_iald hx hb hK hP kb18 hn19 dX13_tryout_84 ?_
                          refine lv_aload_n hx hb dX13_tryout_85 rfl (lv_at hl 0 rfl) ?_
                          rcases hN20 : gR M9 y9_0 3 with _ | b20
                          · replace h := oc_n hN20 h
                            refine r_get (T := TX13) (v := .null) hx hb hts in13 hown hK hP ky9_0 (by decide) rfl 3 (by decide) (hts (.fieldLink RX13 431 "StoneWalkModel" "island" "LStoneWalkModel$Island;") (List.mem_of_getElem? (i := 2) (by decide +kernel))) rfl (t := 2) rfl (by show va_rf _ = _; rw [hN20]; rfl) dX13_tryout_86 ?_
                            exact absurd h (by simp)
                          · replace h := oc_s hN20 h
                            have kb20 := hT.f ky9_0 (k := 3) (t := 12) (n := 0) rfl hN20
                            refine r_get (T := TX13) (v := .ref (ad b20)) hx hb hts in13 hown hK hP ky9_0 (by decide) rfl 3 (by decide) (hts (.fieldLink RX13 431 "StoneWalkModel" "island" "LStoneWalkModel$Island;") (List.mem_of_getElem? (i := 2) (by decide +kernel))) rfl (t := 2) rfl (by show va_rf _ = _; rw [hN20]; rfl) dX13_tryout_86 ?_
                            rcases hN21 : gR M9 b20 40 with _ | b21
                            · exact absurd (oc_n hN21 h) (by simp)
                            replace h := oc_s hN21 h
                            have kb21 := hT.f kb20 (k := 40) (t := 15) (n := 5) rfl hN21
                            refine r_getN (T := TX12) (v := .ref (ad b21)) hx hb hts in12 hown hK hP kb20 (by decide) rfl 40 (by decide) (hG.2.2.1 ("StoneWalkModel", 412, "StoneWalkModel$Island", "tryTons", "[I", "StoneWalkModel") (List.mem_of_getElem? (i := 45) rfl)) rfl (t := 2) rfl (by show va_rf _ = _; rw [hN21]; rfl) dX13_tryout_89 ?_
                            refine lv_iload hx hb dX13_tryout_92 (lv_at hl 3 rfl) ?_
                            obtain ⟨hn22, h⟩ := chk_some h
                            refine r_iald hx hb hK hP kb21 hn22 dX13_tryout_94 ?_
                            refine lv_aload_n hx hb dX13_tryout_95 rfl (lv_at hl 0 rfl) ?_
                            rcases hN23 : gR M9 y9_0 3 with _ | b23
                            · replace h := oc_n hN23 h
                              refine r_get (T := TX13) (v := .null) hx hb hts in13 hown hK hP ky9_0 (by decide) rfl 3 (by decide) (hts (.fieldLink RX13 431 "StoneWalkModel" "island" "LStoneWalkModel$Island;") (List.mem_of_getElem? (i := 2) (by decide +kernel))) rfl (t := 2) rfl (by show va_rf _ = _; rw [hN23]; rfl) dX13_tryout_96 ?_
                              exact absurd h (by simp)
                            · replace h := oc_s hN23 h
                              have kb23 := hT.f ky9_0 (k := 3) (t := 12) (n := 0) rfl hN23
                              refine r_get (T := TX13) (v := .ref (ad b23)) hx hb hts in13 hown hK hP ky9_0 (by decide) rfl 3 (by decide) (hts (.fieldLink RX13 431 "StoneWalkModel" "island" "LStoneWalkModel$Island;") (List.mem_of_getElem? (i := 2) (by decide +kernel))) rfl (t := 2) rfl (by show va_rf _ = _; rw [hN23]; rfl) dX13_tryout_96 ?_
                              rcases hN24 : gR M9 b23 41 with _ | b24
                              · exact absurd (oc_n hN24 h) (by simp)
                              replace h := oc_s hN24 h
                              have kb24 := hT.f kb23 (k := 41) (t := 15) (n := 5) rfl hN24
                              refine r_getN (T := TX12) (v := .ref (ad b24)) hx hb hts in12 hown hK hP kb23 (by decide) rfl 41 (by decide) (hG.2.2.1 ("StoneWalkModel", 415, "StoneWalkModel$Island", "tryLean", "[I", "StoneWalkModel") (List.mem_of_getElem? (i := 46) rfl)) rfl (t := 2) rfl (by show va_rf _ = _; rw [hN24]; rfl) dX13_tryout_99 ?_
                              refine lv_iload hx hb dX13_tryout_102 (lv_at hl 3 rfl) ?_
                              obtain ⟨hn25, h⟩ := chk_some h
                              refine r_iald hx hb hK hP kb24 hn25 dX13_tryout_104 ?_
                              refine lv_aload_n hx hb dX13_tryout_105 rfl (lv_at hl 0 rfl) ?_
                              rcases hN26 : gR M9 y9_0 3 with _ | b26
                              · replace h := oc_n hN26 h
                                refine r_get (T := TX13) (v := .null) hx hb hts in13 hown hK hP ky9_0 (by decide) rfl 3 (by decide) (hts (.fieldLink RX13 431 "StoneWalkModel" "island" "LStoneWalkModel$Island;") (List.mem_of_getElem? (i := 2) (by decide +kernel))) rfl (t := 2) rfl (by show va_rf _ = _; rw [hN26]; rfl) dX13_tryout_106 ?_
                                exact absurd h (by simp)
                              · replace h := oc_s hN26 h
                                have kb26 := hT.f ky9_0 (k := 3) (t := 12) (n := 0) rfl hN26
                                refine r_get (T := TX13) (v := .ref (ad b26)) hx hb hts in13 hown hK hP ky9_0 (by decide) rfl 3 (by decide) (hts (.fieldLink RX13 431 "StoneWalkModel" "island" "LStoneWalkModel$Island;") (List.mem_of_getElem? (i := 2) (by decide +kernel))) rfl (t := 2) rfl (by show va_rf _ = _; rw [hN26]; rfl) dX13_tryout_106 ?_
                                rcases hN27 : gR M9 b26 42 with _ | b27
                                · exact absurd (oc_n hN27 h) (by simp)
                                replace h := oc_s hN27 h
                                have kb27 := hT.f kb26 (k := 42) (t := 15) (n := 5) rfl hN27
                                refine r_getN (T := TX12) (v := .ref (ad b27)) hx hb hts in12 hown hK hP kb26 (by decide) rfl 42 (by decide) (hG.2.2.1 ("StoneWalkModel", 418, "StoneWalkModel$Island", "tryEdge", "[I", "StoneWalkModel") (List.mem_of_getElem? (i := 47) rfl)) rfl (t := 2) rfl (by show va_rf _ = _; rw [hN27]; rfl) dX13_tryout_109 ?_
                                refine lv_iload hx hb dX13_tryout_112 (lv_at hl 3 rfl) ?_
                                obtain ⟨hn28, h⟩ := chk_some h
                                refine r_iald hx hb hK hP kb27 hn28 dX13_tryout_114 ?_
                                refine lv_aload_n hx hb dX13_tryout_115 rfl (lv_at hl 0 rfl) ?_
                                rcases hN29 : gR M9 y9_0 3 with _ | b29
                                · replace h := oc_n hN29 h
                                  refine r_get (T := TX13) (v := .null) hx hb hts in13 hown hK hP ky9_0 (by decide) rfl 3 (by decide) (hts (.fieldLink RX13 431 "StoneWalkModel" "island" "LStoneWalkModel$Island;") (List.mem_of_getElem? (i := 2) (by decide +kernel))) rfl (t := 2) rfl (by show va_rf _ = _; rw [hN29]; rfl) dX13_tryout_116 ?_
                                  exact absurd h (by simp)
                                · replace h := oc_s hN29 h
                                  have kb29 := hT.f ky9_0 (k := 3) (t := 12) (n := 0) rfl hN29
                                  refine r_get (T := TX13) (v := .ref (ad b29)) hx hb hts in13 hown hK hP ky9_0 (by decide) rfl 3 (by decide) (hts (.fieldLink RX13 431 "StoneWalkModel" "island" "LStoneWalkModel$Island;") (List.mem_of_getElem? (i := 2) (by decide +kernel))) rfl (t := 2) rfl (by show va_rf _ = _; rw [hN29]; rfl) dX13_tryout_116 ?_
                                  rcases hN30 : gR M9 b29 43 with _ | b30
                                  · exact absurd (oc_n hN30 h) (by simp)
                                  replace h := oc_s hN30 h
                                  have kb30 := hT.f kb29 (k := 43) (t := 15) (n := 5) rfl hN30
                                  refine r_getN (T := TX12) (v := .ref (ad b30)) hx hb hts in12 hown hK hP kb29 (by decide) rfl 43 (by decide) (hG.2.2.1 ("StoneWalkModel", 421, "StoneWalkModel$Island", "trySlope", "[I", "StoneWalkModel") (List.mem_of_getElem? (i := 48) rfl)) rfl (t := 2) rfl (by show va_rf _ = _; rw [hN30]; rfl) dX13_tryout_119 ?_
                                  refine lv_iload hx hb dX13_tryout_122 (lv_at hl 3 rfl) ?_
                                  obtain ⟨hn31, h⟩ := chk_some h
                                  refine r_iald hx hb hK hP kb30 hn31 dX13_tryout_124 ?_
                                  obtain ⟨z32, h32, h⟩ := ob_some h
                                  refine k_z (va_runS (As := [.int (gI M9 b18 (ix y9_9)), .int (gI M9 b21 (ix y9_4)), .int (gI M9 b24 (ix y9_4)), .int (gI M9 b27 (ix y9_4)), .int (gI M9 b30 (ix y9_4))]) (rest := []) ⟨hx, hb, hml, hown, hts⟩ (c_X13_canGo (l := l) M9 (gI M9 b18 (ix y9_9)) (gI M9 b21 (ix y9_4)) (gI M9 b24 (ix y9_4)) (gI M9 b27 (ix y9_4)) (gI M9 b30 (ix y9_4)) h32) (va_cwS 5 hts gX13_tryout_X13_canGo rfl rfl rfl hdS_X13_canGo ⟨Nat.le_of_ble_eq_true rfl, Nat.le_of_ble_eq_true rfl⟩) (pS hP hK hD hT hG hS) rfl rfl hl.1 rfl (lv_room (Nat.le_of_ble_eq_true rfl)) dX13_tryout_125 ⟨Nat.zero_le _, Nat.zero_le _⟩) hS (fun H locs hz32 hP hD hT hS => ?_)
                                  refine lv_istore (lv' := [(10, .int z32), (0, .ref (ad y9_0)), (1, .int y9_1), (2, .long y9_2), (4, .int y9_4), (5, .long y9_5), (7, .long y9_7), (9, .int y9_9)]) hx hb dX13_tryout_128 hl (by decide) rfl (fun ls hl => ?_)
                                  refine lv_lload hx hb dX13_tryout_130 (lv_at hl 5 rfl) ?_
                                  refine lv_iload hx hb dX13_tryout_132 (lv_at hl 0 rfl) ?_
                                  refine lv_if_eq (tgt := 147) hx hb dX13_tryout_134 rfl (fun c33 => ?_) (fun c33 => ?_)
                                  · replace h := ite_t c33 h
                                    refine lv_lconst (v := 0) hx hb dX13_tryout_147 rfl ?_
                                    refine lv_ladd hx hb dX13_tryout_148 ?_
                                    refine lv_lstore (lv' := [(5, .long (y9_5 + 0)), (10, .int z32), (0, .ref (ad y9_0)), (1, .int y9_1), (2, .long y9_2), (4, .int y9_4), (7, .long y9_7), (9, .int y9_9)]) hx hb dX13_tryout_149 hl (by decide) rfl (fun ls hl => ?_)
                                    refine lv_lload hx hb dX13_tryout_151 (lv_at hl 6 rfl) ?_
                                    refine lv_iload hx hb dX13_tryout_153 (lv_at hl 1 rfl) ?_
                                    refine lv_if_eq (tgt := 162) hx hb dX13_tryout_155 rfl (fun c34 => ?_) (fun c34 => ?_)
                                    · replace h := ite_t c34 h
                                      refine lv_aload_n hx hb dX13_tryout_162 rfl (lv_at hl 2 rfl) ?_
                                      refine lv_iload hx hb dX13_tryout_163 (lv_at hl 7 rfl) ?_
                                      refine lv_iconst (v := (-1)) hx hb dX13_tryout_165 rfl ?_
                                      obtain ⟨z35, h35, h⟩ := ob_some h
                                      refine k_l (va_runV (As := [.int y9_9, .int (-1)]) (rest := [.long y9_7]) ⟨hx, hb, hml, hown, hts⟩ (c_X13_oddsOf (l := l) M9 y9_0 y9_9 (-1) ky9_0 h35) (cwV 2 hts gX13_tryout_X13_oddsOf rfl rfl rfl hdV_X13_oddsOf ⟨Nat.le_of_ble_eq_true rfl, Nat.le_of_ble_eq_true rfl⟩) (pV (T := TX13) hP hK hD hT hG hS ky9_0 (by decide) rfl) rfl rfl hl.1 rfl (lv_room (Nat.le_of_ble_eq_true rfl)) dX13_tryout_166 ⟨Nat.zero_le _, Nat.zero_le _⟩) hS (fun H locs hP hD hT hS => ?_)
                                      refine lv_ladd hx hb dX13_tryout_169 ?_
                                      refine lv_lstore (lv' := [(7, .long (y9_7 + z35)), (5, .long (y9_5 + 0)), (10, .int z32), (0, .ref (ad y9_0)), (1, .int y9_1), (2, .long y9_2), (4, .int y9_4), (9, .int y9_9)]) hx hb dX13_tryout_170 hl (by decide) rfl (fun ls hl => ?_)
                                      refine lv_iinc (v := y9_9 + 1) (lv' := [(9, .int (y9_9 + 1)), (7, .long (y9_7 + z35)), (5, .long (y9_5 + 0)), (10, .int z32), (0, .ref (ad y9_0)), (1, .int y9_1), (2, .long y9_2), (4, .int y9_4)]) hx hb dX13_tryout_172 hl (k := 7) rfl rfl (by decide) rfl (fun ls hl => ?_)
                                      refine lv_goto (tgt := 63) hx hb dX13_tryout_175 rfl ?_
                                      exact ih9 M9 y9_0 y9_1 y9_2 y9_4 (y9_5 + 0) (y9_7 + z35) (y9_9 + 1) ky9_0 _ _ h hP hD hT hS ls (lv_sub hl [4, 5, 6, 7, 2, 1, 0] rfl)
                                    · replace h := ite_f c34 h
                                      refine lv_lconst (v := 0) hx hb dX13_tryout_158 rfl ?_
                                      refine lv_goto (tgt := 169) hx hb dX13_tryout_159 rfl ?_
                                      refine lv_ladd hx hb dX13_tryout_169 ?_
                                      refine lv_lstore (lv' := [(7, .long (y9_7 + 0)), (5, .long (y9_5 + 0)), (10, .int z32), (0, .ref (ad y9_0)), (1, .int y9_1), (2, .long y9_2), (4, .int y9_4), (9, .int y9_9)]) hx hb dX13_tryout_170 hl (by decide) rfl (fun ls hl => ?_)
                                      refine lv_iinc (v := y9_9 + 1) (lv' := [(9, .int (y9_9 + 1)), (7, .long (y9_7 + 0)), (5, .long (y9_5 + 0)), (10, .int z32), (0, .ref (ad y9_0)), (1, .int y9_1), (2, .long y9_2), (4, .int y9_4)]) hx hb dX13_tryout_172 hl (k := 7) rfl rfl (by decide) rfl (fun ls hl => ?_)
                                      refine lv_goto (tgt := 63) hx hb dX13_tryout_175 rfl ?_
                                      exact ih9 M9 y9_0 y9_1 y9_2 y9_4 (y9_5 + 0) (y9_7 + 0) (y9_9 + 1) ky9_0 _ _ h hP hD hT hS ls (lv_sub hl [4, 5, 6, 7, 2, 1, 0] rfl)
                                  · replace h := ite_f c33 h
                                    refine lv_aload_n hx hb dX13_tryout_137 rfl (lv_at hl 1 rfl) ?_
                                    refine lv_iload hx hb dX13_tryout_138 (lv_at hl 7 rfl) ?_
                                    refine lv_iconst (v := (-1)) hx hb dX13_tryout_140 rfl ?_
                                    obtain ⟨z36, h36, h⟩ := ob_some h
                                    refine k_l (va_runV (As := [.int y9_9, .int (-1)]) (rest := [.long y9_5]) ⟨hx, hb, hml, hown, hts⟩ (c_X13_oddsOf (l := l) M9 y9_0 y9_9 (-1) ky9_0 h36) (cwV 2 hts gX13_tryout_X13_oddsOf rfl rfl rfl hdV_X13_oddsOf ⟨Nat.le_of_ble_eq_true rfl, Nat.le_of_ble_eq_true rfl⟩) (pV (T := TX13) hP hK hD hT hG hS ky9_0 (by decide) rfl) rfl rfl hl.1 rfl (lv_room (Nat.le_of_ble_eq_true rfl)) dX13_tryout_141 ⟨Nat.zero_le _, Nat.zero_le _⟩) hS (fun H locs hP hD hT hS => ?_)
                                    refine lv_goto (tgt := 148) hx hb dX13_tryout_144 rfl ?_
                                    refine lv_ladd hx hb dX13_tryout_148 ?_
                                    refine lv_lstore (lv' := [(5, .long (y9_5 + z36)), (10, .int z32), (0, .ref (ad y9_0)), (1, .int y9_1), (2, .long y9_2), (4, .int y9_4), (7, .long y9_7), (9, .int y9_9)]) hx hb dX13_tryout_149 hl (by decide) rfl (fun ls hl => ?_)
                                    refine lv_lload hx hb dX13_tryout_151 (lv_at hl 6 rfl) ?_
                                    refine lv_iload hx hb dX13_tryout_153 (lv_at hl 1 rfl) ?_
                                    refine lv_if_eq (tgt := 162) hx hb dX13_tryout_155 rfl (fun c37 => ?_) (fun c37 => ?_)
                                    · replace h := ite_t c37 h
                                      refine lv_aload_n hx hb dX13_tryout_162 rfl (lv_at hl 2 rfl) ?_
                                      refine lv_iload hx hb dX13_tryout_163 (lv_at hl 7 rfl) ?_
                                      refine lv_iconst (v := (-1)) hx hb dX13_tryout_165 rfl ?_
                                      obtain ⟨z38, h38, h⟩ := ob_some h
                                      refine k_l (va_runV (As := [.int y9_9, .int (-1)]) (rest := [.long y9_7]) ⟨hx, hb, hml, hown, hts⟩ (c_X13_oddsOf (l := l) M9 y9_0 y9_9 (-1) ky9_0 h38) (cwV 2 hts gX13_tryout_X13_oddsOf rfl rfl rfl hdV_X13_oddsOf ⟨Nat.le_of_ble_eq_true rfl, Nat.le_of_ble_eq_true rfl⟩) (pV (T := TX13) hP hK hD hT hG hS ky9_0 (by decide) rfl) rfl rfl hl.1 rfl (lv_room (Nat.le_of_ble_eq_true rfl)) dX13_tryout_166 ⟨Nat.zero_le _, Nat.zero_le _⟩) hS (fun H locs hP hD hT hS => ?_)
                                      refine lv_ladd hx hb dX13_tryout_169 ?_
                                      refine lv_lstore (lv' := [(7, .long (y9_7 + z38)), (5, .long (y9_5 + z36)), (10, .int z32), (0, .ref (ad y9_0)), (1, .int y9_1), (2, .long y9_2), (4, .int y9_4), (9, .int y9_9)]) hx hb dX13_tryout_170 hl (by decide) rfl (fun ls hl => ?_)
                                      refine lv_iinc (v := y9_9 + 1) (lv' := [(9, .int (y9_9 + 1)), (7, .long (y9_7 + z38)), (5, .long (y9_5 + z36)), (10, .int z32), (0, .ref (ad y9_0)), (1, .int y9_1), (2, .long y9_2), (4, .int y9_4)]) hx hb dX13_tryout_172 hl (k := 7) rfl rfl (by decide) rfl (fun ls hl => ?_)
                                      refine lv_goto (tgt := 63) hx hb dX13_tryout_175 rfl ?_
                                      exact ih9 M9 y9_0 y9_1 y9_2 y9_4 (y9_5 + z36) (y9_7 + z38) (y9_9 + 1) ky9_0 _ _ h hP hD hT hS ls (lv_sub hl [4, 5, 6, 7, 2, 1, 0] rfl)
                                    · replace h := ite_f c37 h
                                      refine lv_lconst (v := 0) hx hb dX13_tryout_158 rfl ?_
                                      refine lv_goto (tgt := 169) hx hb dX13_tryout_159 rfl ?_
                                      refine lv_ladd hx hb dX13_tryout_169 ?_
                                      refine lv_lstore (lv' := [(7, .long (y9_7 + 0)), (5, .long (y9_5 + z36)), (10, .int z32), (0, .ref (ad y9_0)), (1, .int y9_1), (2, .long y9_2), (4, .int y9_4), (9, .int y9_9)]) hx hb dX13_tryout_170 hl (by decide) rfl (fun ls hl => ?_)
                                      refine lv_iinc (v := y9_9 + 1) (lv' := [(9, .int (y9_9 + 1)), (7, .long (y9_7 + 0)), (5, .long (y9_5 + z36)), (10, .int z32), (0, .ref (ad y9_0)), (1, .int y9_1), (2, .long y9_2), (4, .int y9_4)]) hx hb dX13_tryout_172 hl (k := 7) rfl rfl (by decide) rfl (fun ls hl => ?_)
                                      refine lv_goto (tgt := 63) hx hb dX13_tryout_175 rfl ?_
                                      exact ih9 M9 y9_0 y9_1 y9_2 y9_4 (y9_5 + z36) (y9_7 + 0) (y9_9 + 1) ky9_0 _ _ h hP hD hT hS ls (lv_sub hl [4, 5, 6, 7, 2, 1, 0] rfl)
                exact L9 FU M5 y5_0 y5_1 y5_2 y5_4 0 0 0 ky5_0 _ _ h hP hD hT hS ls (lv_sub hl [3, 4, 5, 6, 2, 1, 0] rfl)
        exact L5 FU Mg1 a0 0 0 0 k0 _ _ h hP hD hT hS ls (lv_sub hl [3, 2, 1, 0] rfl)
      · replace h := ite_t c4 h
        refine lv_aload_n hx hb dX13_tryout_28 rfl (lv_at hl 0 rfl) ?_
        refine lv_bipush (v := 6) hx hb dX13_tryout_29 rfl ?_
        obtain ⟨z39, h39, h⟩ := ob_some h
        refine k_i (va_runV (As := [.int 6]) (rest := []) ⟨hx, hb, hml, hown, hts⟩ (c_X13_refused (l := l) Mg1 a0 6 k0 h39) (cwV 1 hts gX13_tryout_X13_refused rfl rfl rfl hdV_X13_refused ⟨Nat.le_of_ble_eq_true rfl, Nat.le_of_ble_eq_true rfl⟩) (pV (T := TX13) hP hK hD hT hG hS k0 (by decide) rfl) rfl rfl hl.1 rfl (lv_room (Nat.le_of_ble_eq_true rfl)) dX13_tryout_31 ⟨Nat.zero_le _, Nat.zero_le _⟩) hS (fun H locs hP hD hT hS => ?_)
        have hZ := Option.some.inj h
        have hZ1 := congrArg Prod.fst hZ
        have hZ2 := congrArg Prod.snd hZ
        exact r_iret hx hb hr hlocks hP hK hD hT hG hS hZ1 hZ2 dX13_tryout_34
set_option maxHeartbeats 4000000 in
set_option maxRecDepth 100000 in
theorem c_X13_people {l : Launch} {D : va_G} {ad : Nat → Nat} {cy : Nat → ClassId} {A : Nat → Prop} {g : CG} {q : SE} (M : MM) (a0 : Nat) (x1 : Int32) (x2 : Int32) (x3 : Int32) (k0 : ok g a0 13 0) {Z : (Int32 × MM)} (h : f_X13_people M a0 x1 x2 x3 = some Z) : Met l yX13_people wsX13_people ({ frames := 1, cells := 0, slots := 0, locals := 22 }) (va_Pc [.ref (ad a0), .int x1, .int x2, .int x3] (Wd D ad cy A g q M)) (va_Qi (fun r u => r = Z.1 ∧ u = Z.2) (Wd D ad cy A g q) A) 0 0 A := by
  refine Met.ofW (cc := cX13_people) (maxL := 8) (ret := (some .int)) (by decide) rfl ?_
  intro p e s m args below meth c s₁ B hml hv
  obtain ⟨rfl, hP, hK, hD, hT, hG⟩ := hv
  have hx := B.exec
  have hb := B.bytes
  have hr := B.returns
  have hts := atoms_spec (ws := wsX13_people) B.pre
  have hown : s.vm.findClass RX13 = some m.cls := findClass_of_methodNamed B.named
  have hlocks := B.notSynchronized
  have in12 : ∀ w ∈ u_ws RX12 TX12 48, w ∈ wsX13_people := fun w h => List.mem_cons_of_mem _ (List.mem_append_right _ h)
  have in13 : ∀ w ∈ u_ws RX13 TX13 29, w ∈ wsX13_people := fun w h => List.mem_cons_of_mem _ (List.mem_append_left _ (List.mem_append_right _ h))
  have hS : va_S A s.heap s.heap [] := va_S.rf
  have hl := lv_entry ([.ref (ad a0), .int x1, .int x2, .int x3]) (n := 8) (Nat.le_of_ble_eq_true rfl)
  rw [lg_entry_eq]
  generalize (lg_sl ([.ref (ad a0), .int x1, .int x2, .int x3]) ++ List.replicate (8 - (lg_sl ([.ref (ad a0), .int x1, .int x2, .int x3])).length) Slot.unset).toArray = ls at hl ⊢
  have hl : lv_has ls 8 [(0, .ref (ad a0)), (1, .int x1), (2, .int x2), (3, .int x3)] := hl
  unfold f_X13_people at h
  refine lv_aload_n hx hb dX13_people_0 rfl (lv_at hl 0 rfl) ?_
  refine lv_iconst (v := 0) hx hb dX13_people_1 rfl ?_
  refine r_putI (T := TX13) (ty := .int) (v := 0) hx hb hts in13 tyX13 tyX13_ok nmX13 hown hK hP hD hT hS k0 (by decide) rfl 0 (by decide) (hts (.fieldLink RX13 30 "StoneWalkModel" "thrown" "I") (List.mem_of_getElem? (i := 1) (by decide +kernel))) rfl rfl (tyX13_ok 0 (by decide)) rfl rfl rfl dX13_people_2 (fun H locs hP hD hT hS => ?_)
  generalize pI M a0 0 0 = Mg1 at h hP hD hT ⊢
  refine lv_aload_n hx hb dX13_people_5 rfl (lv_at hl 0 rfl) ?_
  refine lv_iload_n hx hb dX13_people_6 rfl (lv_at hl 1 rfl) ?_
  obtain ⟨z1, h1, h⟩ := ob_some h
  refine k_z (va_runV (As := [.int x1]) (rest := []) ⟨hx, hb, hml, hown, hts⟩ (c_X13_isWay (l := l) Mg1 a0 x1 k0 h1) (cwV 1 hts gX13_people_X13_isWay rfl rfl rfl hdV_X13_isWay ⟨Nat.le_of_ble_eq_true rfl, Nat.le_of_ble_eq_true rfl⟩) (pV (T := TX13) hP hK hD hT hG hS k0 (by decide) rfl) rfl rfl hl.1 rfl (lv_room (Nat.le_of_ble_eq_true rfl)) dX13_people_7 ⟨Nat.zero_le _, Nat.zero_le _⟩) hS (fun H locs hz1 hP hD hT hS => ?_)
  refine lv_if_ne (tgt := 19) hx hb dX13_people_10 rfl (fun c2 => ?_) (fun c2 => ?_)
  · replace h := ite_f c2 h
    refine lv_iload_n hx hb dX13_people_19 rfl (lv_at hl 2 rfl) ?_
    refine lv_iconst (v := 1) hx hb dX13_people_20 rfl ?_
    refine lv_sipush (v := 400) hx hb dX13_people_21 rfl ?_
    obtain ⟨z3, h3, h⟩ := ob_some h
    refine k_z (va_runS (As := [.int x2, .int 1, .int 400]) (rest := []) ⟨hx, hb, hml, hown, hts⟩ (c_X13_in (l := l) Mg1 x2 1 400 h3) (va_cwS 3 hts gX13_people_X13_in rfl rfl rfl hdS_X13_in ⟨Nat.le_of_ble_eq_true rfl, Nat.le_of_ble_eq_true rfl⟩) (pS hP hK hD hT hG hS) rfl rfl hl.1 rfl (lv_room (Nat.le_of_ble_eq_true rfl)) dX13_people_24 ⟨Nat.zero_le _, Nat.zero_le _⟩) hS (fun H locs hz3 hP hD hT hS => ?_)
    refine lv_if_ne (tgt := 36) hx hb dX13_people_27 rfl (fun c4 => ?_) (fun c4 => ?_)
    · replace h := ite_f c4 h
      refine lv_iconst (v := (-1)) hx hb dX13_people_36 rfl ?_
      refine lv_istore (lv' := [(4, .int (-1)), (0, .ref (ad a0)), (1, .int x1), (2, .int x2), (3, .int x3)]) hx hb dX13_people_37 hl (by decide) rfl (fun ls hl => ?_)
      refine lv_iconst (v := 0) hx hb dX13_people_39 rfl ?_
      refine lv_istore (lv' := [(5, .int 0), (4, .int (-1)), (0, .ref (ad a0)), (1, .int x1), (2, .int x2), (3, .int x3)]) hx hb dX13_people_40 hl (by decide) rfl (fun ls hl => ?_)
      refine lv_iconst (v := 0) hx hb dX13_people_42 rfl ?_
      refine lv_istore (lv' := [(6, .int 0), (5, .int 0), (4, .int (-1)), (0, .ref (ad a0)), (1, .int x1), (2, .int x2), (3, .int x3)]) hx hb dX13_people_43 hl (by decide) rfl (fun ls hl => ?_)
      have L5 : ∀ n5 : Nat, ∀ (M5 : MM) (y5_0 : Nat) (y5_1 : Int32) (y5_2 : Int32) (y5_3 : Int32) (y5_4 : Int32) (y5_5 : Int32) (y5_6 : Int32) (ky5_0 : ok g y5_0 13 0) (H : Heap) (locs : List Loc), f_X13_people_L45 n5 M5 y5_0 y5_1 y5_2 y5_3 y5_4 y5_5 y5_6 = some Z → va_P D vwCl (wd ad cy g M5) H → va_D A (wd ad cy g M5) → WT g M5 → va_S A s.heap H locs → ∀ (ls : Array Slot), lv_has ls 8 [(0, .ref (ad y5_0)), (1, .int y5_1), (2, .int y5_2), (3, .int y5_3), (4, .int y5_4), (5, .int y5_5), (6, .int y5_6)] → W p l e ((headSpec wsX13_people ({ frames := 1, cells := 0, slots := 0, locals := 22 })).room) s m (([.ref (ad a0), .int x1, .int x2, .int x3] : List Value).toArray) below meth c H locs 0 0 (MQ below (va_Qi (fun r u => r = Z.1 ∧ u = Z.2) (Wd D ad cy A g q) A) ([.ref (ad a0), .int x1, .int x2, .int x3]).toArray s 0 0 A) (F0 m 45 ls []) := by
        intro n5
        induction n5 with
        | zero => intro M5 y5_0 y5_1 y5_2 y5_3 y5_4 y5_5 y5_6 ky5_0 H locs h; exact absurd h (by simp [f_X13_people_L45])
        | succ n5 ih5 =>
          intro M5 y5_0 y5_1 y5_2 y5_3 y5_4 y5_5 y5_6 ky5_0 H locs h hP hD hT hS ls hl
          rw [f_X13_people_L45] at h
          refine lv_iload hx hb dX13_people_45 (lv_at hl 6 rfl) ?_
          refine lv_aload_n hx hb dX13_people_47 rfl (lv_at hl 0 rfl) ?_
          rcases hN6 : gR M5 y5_0 3 with _ | b6
          · replace h := oc_n hN6 h
            refine r_get (T := TX13) (v := .null) hx hb hts in13 hown hK hP ky5_0 (by decide) rfl 3 (by decide) (hts (.fieldLink RX13 431 "StoneWalkModel" "island" "LStoneWalkModel$Island;") (List.mem_of_getElem? (i := 2) (by decide +kernel))) rfl (t := 2) rfl (by show va_rf _ = _; rw [hN6]; rfl) dX13_people_48 ?_
            exact absurd h (by simp)
          · replace h := oc_s hN6 h
            have kb6 := hT.f ky5_0 (k := 3) (t := 12) (n := 0) rfl hN6
            refine r_get (T := TX13) (v := .ref (ad b6)) hx hb hts in13 hown hK hP ky5_0 (by decide) rfl 3 (by decide) (hts (.fieldLink RX13 431 "StoneWalkModel" "island" "LStoneWalkModel$Island;") (List.mem_of_getElem? (i := 2) (by decide +kernel))) rfl (t := 2) rfl (by show va_rf _ = _; rw [hN6]; rfl) dX13_people_48 ?_
            refine r_getN (T := TX12) (v := .int (gI M5 b6 4)) hx hb hts in12 hown hK hP kb6 (by decide) rfl 4 (by decide) (hG.2.2.1 ("StoneWalkModel", 317, "StoneWalkModel$Island", "trials", "I", "StoneWalkModel") (List.mem_of_getElem? (i := 22) rfl)) rfl (t := 0) rfl rfl dX13_people_51 ?_
            refine lv_icmp_ge (tgt := 175) hx hb dX13_people_54 rfl (fun c7 => ?_) (fun c7 => ?_)
            · replace h := ite_t c7 h
              refine lv_iload hx hb dX13_people_175 (lv_at hl 4 rfl) ?_
              refine lv_iconst (v := (-1)) hx hb dX13_people_177 rfl ?_
              refine lv_icmp_eq (tgt := 189) hx hb dX13_people_178 rfl (fun c8 => ?_) (fun c8 => ?_)
              · replace h := ite_t c8 h
                refine lv_aload_n hx hb dX13_people_189 rfl (lv_at hl 0 rfl) ?_
                refine lv_bipush (v := 6) hx hb dX13_people_190 rfl ?_
                obtain ⟨z9, h9, h⟩ := ob_some h
                refine k_i (va_runV (As := [.int 6]) (rest := []) ⟨hx, hb, hml, hown, hts⟩ (c_X13_refused (l := l) M5 y5_0 6 ky5_0 h9) (cwV 1 hts gX13_people_X13_refused rfl rfl rfl hdV_X13_refused ⟨Nat.le_of_ble_eq_true rfl, Nat.le_of_ble_eq_true rfl⟩) (pV (T := TX13) hP hK hD hT hG hS ky5_0 (by decide) rfl) rfl rfl hl.1 rfl (lv_room (Nat.le_of_ble_eq_true rfl)) dX13_people_192 ⟨Nat.zero_le _, Nat.zero_le _⟩) hS (fun H locs hP hD hT hS => ?_)
                refine lv_goto (tgt := 204) hx hb dX13_people_195 rfl ?_
                have hZ := Option.some.inj h
                have hZ1 := congrArg Prod.fst hZ
                have hZ2 := congrArg Prod.snd hZ
                exact r_iret hx hb hr hlocks hP hK hD hT hG hS hZ1 hZ2 dX13_people_204
              · replace h := ite_f c8 h
                refine lv_iload_n hx hb dX13_people_181 rfl (lv_at hl 2 rfl) ?_
                refine lv_iconst (v := 4) hx hb dX13_people_182 rfl ?_
                refine lv_iload hx hb dX13_people_183 (lv_at hl 5 rfl) ?_
                refine lv_imul hx hb dX13_people_185 ?_
                refine lv_icmp_le (tgt := 198) hx hb dX13_people_186 rfl (fun c10 => ?_) (fun c10 => ?_)
                · replace h := ite_t c10 h
                  refine lv_aload_n hx hb dX13_people_198 rfl (lv_at hl 0 rfl) ?_
                  refine lv_iload hx hb dX13_people_199 (lv_at hl 4 rfl) ?_
                  obtain ⟨z11, h11, h⟩ := ob_some h
                  refine k_i (va_runV (As := [.int y5_4]) (rest := []) ⟨hx, hb, hml, hown, hts⟩ (c_X13_done (l := l) M5 y5_0 y5_4 ky5_0 h11) (cwV 1 hts gX13_people_X13_done rfl rfl rfl hdV_X13_done ⟨Nat.le_of_ble_eq_true rfl, Nat.le_of_ble_eq_true rfl⟩) (pV (T := TX13) hP hK hD hT hG hS ky5_0 (by decide) rfl) rfl rfl hl.1 rfl (lv_room (Nat.le_of_ble_eq_true rfl)) dX13_people_201 ⟨Nat.zero_le _, Nat.zero_le _⟩) hS (fun H locs hP hD hT hS => ?_)
                  have hZ := Option.some.inj h
                  have hZ1 := congrArg Prod.fst hZ
                  have hZ2 := congrArg Prod.snd hZ
                  exact r_iret hx hb hr hlocks hP hK hD hT hG hS hZ1 hZ2 dX13_people_204
                · replace h := ite_f c10 h
                  refine lv_aload_n hx hb dX13_people_189 rfl (lv_at hl 0 rfl) ?_
                  refine lv_bipush (v := 6) hx hb dX13_people_190 rfl ?_
                  obtain ⟨z12, h12, h⟩ := ob_some h
                  refine k_i (va_runV (As := [.int 6]) (rest := []) ⟨hx, hb, hml, hown, hts⟩ (c_X13_refused (l := l) M5 y5_0 6 ky5_0 h12) (cwV 1 hts gX13_people_X13_refused rfl rfl rfl hdV_X13_refused ⟨Nat.le_of_ble_eq_true rfl, Nat.le_of_ble_eq_true rfl⟩) (pV (T := TX13) hP hK hD hT hG hS ky5_0 (by decide) rfl) rfl rfl hl.1 rfl (lv_room (Nat.le_of_ble_eq_true rfl)) dX13_people_192 ⟨Nat.zero_le _, Nat.zero_le _⟩) hS (fun H locs hP hD hT hS => ?_)
                  refine lv_goto (tgt := 204) hx hb dX13_people_195 rfl ?_
                  have hZ := Option.some.inj h
                  have hZ1 := congrArg Prod.fst hZ
                  have hZ2 := congrArg Prod.snd hZ
                  exact r_iret hx hb hr hlocks hP hK hD hT hG hS hZ1 hZ2 dX13_people_204
            · replace h := ite_f c7 h
              refine lv_aload_n hx hb dX13_people_57 rfl (lv_at hl 0 rfl) ?_
              rcases hN13 : gR M5 y5_0 3 with _ | b13
              · replace h := oc_n hN13 h
                refine r_get (T := TX13) (v := .null) hx hb hts in13 hown hK hP ky5_0 (by decide) rfl 3 (by decide) (hts (.fieldLink RX13 431 "StoneWalkModel" "island" "LStoneWalkModel$Island;") (List.mem_of_getElem? (i := 2) (by decide +kernel))) rfl (t := 2) rfl (by show va_rf _ = _; rw [hN13]; rfl) dX13_people_58 ?_
                exact absurd h (by simp)
              · replace h := oc_s hN13 h
                have kb13 := hT.f ky5_0 (k := 3) (t := 12) (n := 0) rfl hN13
                refine r_get (T := TX13) (v := .ref (ad b13)) hx hb hts in13 hown hK hP ky5_0 (by decide) rfl 3 (by decide) (hts (.fieldLink RX13 431 "StoneWalkModel" "island" "LStoneWalkModel$Island;") (List.mem_of_getElem? (i := 2) (by decide +kernel))) rfl (t := 2) rfl (by show va_rf _ = _; rw [hN13]; rfl) dX13_people_58 ?_
                rcases hN14 : gR M5 b13 22 with _ | b14
                · exact absurd (oc_n hN14 h) (by simp)
                replace h := oc_s hN14 h
                have kb14 := hT.f kb13 (k := 22) (t := 15) (n := 5) rfl hN14
                refine r_getN (T := TX12) (v := .ref (ad b14)) hx hb hts in12 hown hK hP kb13 (by decide) rfl 22 (by decide) (hG.2.2.1 ("StoneWalkModel", 328, "StoneWalkModel$Island", "trialWay", "[I", "StoneWalkModel") (List.mem_of_getElem? (i := 23) rfl)) rfl (t := 2) rfl (by show va_rf _ = _; rw [hN14]; rfl) dX13_people_61 ?_
                refine lv_iload hx hb dX13_people_64 (lv_at hl 6 rfl) ?_
                obtain ⟨hn15, h⟩ := chk_some h
                refine r_iald hx hb hK hP kb14 hn15 dX13_people_66 ?_
                refine lv_iload_n hx hb dX13_people_67 rfl (lv_at hl 1 rfl) ?_
                refine lv_icmp_eq (tgt := 74) hx hb dX13_people_68 rfl (fun c16 => ?_) (fun c16 => ?_)
                · replace h := ite_t c16 h
                  refine lv_iload_n hx hb dX13_people_74 rfl (lv_at hl 2 rfl) ?_
                  refine lv_aload_n hx hb dX13_people_75 rfl (lv_at hl 0 rfl) ?_
                  rcases hN17 : gR M5 y5_0 3 with _ | b17
                  · replace h := oc_n hN17 h
                    refine r_get (T := TX13) (v := .null) hx hb hts in13 hown hK hP ky5_0 (by decide) rfl 3 (by decide) (hts (.fieldLink RX13 431 "StoneWalkModel" "island" "LStoneWalkModel$Island;") (List.mem_of_getElem? (i := 2) (by decide +kernel))) rfl (t := 2) rfl (by show va_rf _ = _; rw [hN17]; rfl) dX13_people_76 ?_
                    exact absurd h (by simp)
                  · replace h := oc_s hN17 h
                    have kb17 := hT.f ky5_0 (k := 3) (t := 12) (n := 0) rfl hN17
                    refine r_get (T := TX13) (v := .ref (ad b17)) hx hb hts in13 hown hK hP ky5_0 (by decide) rfl 3 (by decide) (hts (.fieldLink RX13 431 "StoneWalkModel" "island" "LStoneWalkModel$Island;") (List.mem_of_getElem? (i := 2) (by decide +kernel))) rfl (t := 2) rfl (by show va_rf _ = _; rw [hN17]; rfl) dX13_people_76 ?_
                    rcases hN18 : gR M5 b17 24 with _ | b18
                    · exact absurd (oc_n hN18 h) (by simp)
                    replace h := oc_s hN18 h
                    have kb18 := hT.f kb17 (k := 24) (t := 15) (n := 5) rfl hN18
                    refine r_getN (T := TX12) (v := .ref (ad b18)) hx hb hts in12 hown hK hP kb17 (by decide) rfl 24 (by decide) (hG.2.2.1 ("StoneWalkModel", 334, "StoneWalkModel$Island", "trialPeople", "[I", "StoneWalkModel") (List.mem_of_getElem? (i := 25) rfl)) rfl (t := 2) rfl (by show va_rf _ = _; rw [hN18]; rfl) dX13_people_79 ?_
                    refine lv_iload hx hb dX13_people_82 (lv_at hl 6 rfl) ?_
                    obtain ⟨hn19, h⟩ := chk_some h
                    refine r_iald hx hb hK hP kb18 hn19 dX13_people_84 ?_
                    refine lv_imul hx hb dX13_people_85 ?_
                    refine lv_aload_n hx hb dX13_people_86 rfl (lv_at hl 0 rfl) ?_
                    rcases hN20 : gR M5 y5_0 3 with _ | b20
                    · replace h := oc_n hN20 h
                      refine r_get (T := TX13) (v := .null) hx hb hts in13 hown hK hP ky5_0 (by decide) rfl 3 (by decide) (hts (.fieldLink RX13 431 "StoneWalkModel" "island" "LStoneWalkModel$Island;") (List.mem_of_getElem? (i := 2) (by decide +kernel))) rfl (t := 2) rfl (by show va_rf _ = _; rw [hN20]; rfl) dX13_people_87 ?_
                      exact absurd h (by simp)
                    · replace h := oc_s hN20 h
                      have kb20 := hT.f ky5_0 (k := 3) (t := 12) (n := 0) rfl hN20
                      refine r_get (T := TX13) (v := .ref (ad b20)) hx hb hts in13 hown hK hP ky5_0 (by decide) rfl 3 (by decide) (hts (.fieldLink RX13 431 "StoneWalkModel" "island" "LStoneWalkModel$Island;") (List.mem_of_getElem? (i := 2) (by decide +kernel))) rfl (t := 2) rfl (by show va_rf _ = _; rw [hN20]; rfl) dX13_people_87 ?_
                      rcases hN21 : gR M5 b20 23 with _ | b21
                      · exact absurd (oc_n hN21 h) (by simp)
                      replace h := oc_s hN21 h
                      have kb21 := hT.f kb20 (k := 23) (t := 15) (n := 5) rfl hN21
                      refine r_getN (T := TX12) (v := .ref (ad b21)) hx hb hts in12 hown hK hP kb20 (by decide) rfl 23 (by decide) (hG.2.2.1 ("StoneWalkModel", 331, "StoneWalkModel$Island", "trialTons", "[I", "StoneWalkModel") (List.mem_of_getElem? (i := 24) rfl)) rfl (t := 2) rfl (by show va_rf _ = _; rw [hN21]; rfl) dX13_people_90 ?_
                      refine lv_iload hx hb dX13_people_93 (lv_at hl 6 rfl) ?_
                      obtain ⟨hn22, h⟩ := chk_some h
                      refine r_iald hx hb hK hP kb21 hn22 dX13_people_95 ?_
                      obtain ⟨z23, h23, h⟩ := ob_some h
                      refine k_i (va_runS (As := [.int (y5_2 * (gI M5 b18 (ix y5_6))), .int (gI M5 b21 (ix y5_6))]) (rest := []) ⟨hx, hb, hml, hown, hts⟩ (c_X13_up (l := l) M5 (y5_2 * (gI M5 b18 (ix y5_6))) (gI M5 b21 (ix y5_6)) h23) (va_cwS 2 hts gX13_people_X13_up rfl rfl rfl hdS_X13_up ⟨Nat.le_of_ble_eq_true rfl, Nat.le_of_ble_eq_true rfl⟩) (pS hP hK hD hT hG hS) rfl rfl hl.1 rfl (lv_room (Nat.le_of_ble_eq_true rfl)) dX13_people_96 ⟨Nat.zero_le _, Nat.zero_le _⟩) hS (fun H locs hP hD hT hS => ?_)
                      refine lv_istore (lv' := [(7, .int z23), (0, .ref (ad y5_0)), (1, .int y5_1), (2, .int y5_2), (3, .int y5_3), (4, .int y5_4), (5, .int y5_5), (6, .int y5_6)]) hx hb dX13_people_99 hl (by decide) rfl (fun ls hl => ?_)
                      refine lv_iload hx hb dX13_people_101 (lv_at hl 5 rfl) ?_
                      refine lv_iconst (v := (-1)) hx hb dX13_people_103 rfl ?_
                      refine lv_icmp_eq (tgt := 128) hx hb dX13_people_104 rfl (fun c24 => ?_) (fun c24 => ?_)
                      · replace h := ite_t c24 h
                        refine lv_iload hx hb dX13_people_128 (lv_at hl 0 rfl) ?_
                        refine lv_goto (tgt := 135) hx hb dX13_people_130 rfl ?_
                        refine lv_istore (lv' := [(4, .int z23), (7, .int z23), (0, .ref (ad y5_0)), (1, .int y5_1), (2, .int y5_2), (3, .int y5_3), (5, .int y5_5), (6, .int y5_6)]) hx hb dX13_people_135 hl (by decide) rfl (fun ls hl => ?_)
                        refine lv_aload_n hx hb dX13_people_137 rfl (lv_at hl 2 rfl) ?_
                        rcases hN25 : gR M5 y5_0 3 with _ | b25
                        · replace h := oc_n hN25 h
                          refine r_get (T := TX13) (v := .null) hx hb hts in13 hown hK hP ky5_0 (by decide) rfl 3 (by decide) (hts (.fieldLink RX13 431 "StoneWalkModel" "island" "LStoneWalkModel$Island;") (List.mem_of_getElem? (i := 2) (by decide +kernel))) rfl (t := 2) rfl (by show va_rf _ = _; rw [hN25]; rfl) dX13_people_138 ?_
                          exact absurd h (by simp)
                        · replace h := oc_s hN25 h
                          have kb25 := hT.f ky5_0 (k := 3) (t := 12) (n := 0) rfl hN25
                          refine r_get (T := TX13) (v := .ref (ad b25)) hx hb hts in13 hown hK hP ky5_0 (by decide) rfl 3 (by decide) (hts (.fieldLink RX13 431 "StoneWalkModel" "island" "LStoneWalkModel$Island;") (List.mem_of_getElem? (i := 2) (by decide +kernel))) rfl (t := 2) rfl (by show va_rf _ = _; rw [hN25]; rfl) dX13_people_138 ?_
                          rcases hN26 : gR M5 b25 23 with _ | b26
                          · exact absurd (oc_n hN26 h) (by simp)
                          replace h := oc_s hN26 h
                          have kb26 := hT.f kb25 (k := 23) (t := 15) (n := 5) rfl hN26
                          refine r_getN (T := TX12) (v := .ref (ad b26)) hx hb hts in12 hown hK hP kb25 (by decide) rfl 23 (by decide) (hG.2.2.1 ("StoneWalkModel", 331, "StoneWalkModel$Island", "trialTons", "[I", "StoneWalkModel") (List.mem_of_getElem? (i := 24) rfl)) rfl (t := 2) rfl (by show va_rf _ = _; rw [hN26]; rfl) dX13_people_141 ?_
                          refine lv_iload hx hb dX13_people_144 (lv_at hl 7 rfl) ?_
                          obtain ⟨hn27, h⟩ := chk_some h
                          refine r_iald hx hb hK hP kb26 hn27 dX13_people_146 ?_
                          refine lv_iload hx hb dX13_people_147 (lv_at hl 6 rfl) ?_
                          refine lv_icmp_le (tgt := 165) hx hb dX13_people_149 rfl (fun c28 => ?_) (fun c28 => ?_)
                          · replace h := ite_t c28 h
                            refine lv_iload hx hb dX13_people_165 (lv_at hl 6 rfl) ?_
                            refine lv_istore (lv' := [(5, .int y5_5), (4, .int z23), (7, .int z23), (0, .ref (ad y5_0)), (1, .int y5_1), (2, .int y5_2), (3, .int y5_3), (6, .int y5_6)]) hx hb dX13_people_167 hl (by decide) rfl (fun ls hl => ?_)
                            refine lv_iinc (v := y5_6 + 1) (lv' := [(6, .int (y5_6 + 1)), (5, .int y5_5), (4, .int z23), (7, .int z23), (0, .ref (ad y5_0)), (1, .int y5_1), (2, .int y5_2), (3, .int y5_3)]) hx hb dX13_people_169 hl (k := 7) rfl rfl (by decide) rfl (fun ls hl => ?_)
                            refine lv_goto (tgt := 45) hx hb dX13_people_172 rfl ?_
                            exact ih5 M5 y5_0 y5_1 y5_2 y5_3 z23 y5_5 (y5_6 + 1) ky5_0 _ _ h hP hD hT hS ls (lv_sub hl [4, 5, 6, 7, 2, 1, 0] rfl)
                          · replace h := ite_f c28 h
                            refine lv_aload_n hx hb dX13_people_152 rfl (lv_at hl 2 rfl) ?_
                            rcases hN29 : gR M5 y5_0 3 with _ | b29
                            · replace h := oc_n hN29 h
                              refine r_get (T := TX13) (v := .null) hx hb hts in13 hown hK hP ky5_0 (by decide) rfl 3 (by decide) (hts (.fieldLink RX13 431 "StoneWalkModel" "island" "LStoneWalkModel$Island;") (List.mem_of_getElem? (i := 2) (by decide +kernel))) rfl (t := 2) rfl (by show va_rf _ = _; rw [hN29]; rfl) dX13_people_153 ?_
                              exact absurd h (by simp)
                            · replace h := oc_s hN29 h
                              have kb29 := hT.f ky5_0 (k := 3) (t := 12) (n := 0) rfl hN29
                              refine r_get (T := TX13) (v := .ref (ad b29)) hx hb hts in13 hown hK hP ky5_0 (by decide) rfl 3 (by decide) (hts (.fieldLink RX13 431 "StoneWalkModel" "island" "LStoneWalkModel$Island;") (List.mem_of_getElem? (i := 2) (by decide +kernel))) rfl (t := 2) rfl (by show va_rf _ = _; rw [hN29]; rfl) dX13_people_153 ?_
                              rcases hN30 : gR M5 b29 23 with _ | b30
                              · exact absurd (oc_n hN30 h) (by simp)
                              replace h := oc_s hN30 h
                              have kb30 := hT.f kb29 (k := 23) (t := 15) (n := 5) rfl hN30
                              refine r_getN (T := TX12) (v := .ref (ad b30)) hx hb hts in12 hown hK hP kb29 (by decide) rfl 23 (by decide) (hG.2.2.1 ("StoneWalkModel", 331, "StoneWalkModel$Island", "trialTons", "[I", "StoneWalkModel") (List.mem_of_getElem? (i := 24) rfl)) rfl (t := 2) rfl (by show va_rf _ = _; rw [hN30]; rfl) dX13_people_156 ?_
                              refine lv_iload hx hb dX13_people_159 (lv_at hl 7 rfl) ?_
                              obtain ⟨hn31, h⟩ := chk_some h
                              refine r_iald hx hb hK hP kb30 hn31 dX13_people_161 ?_
                              refine lv_goto (tgt := 167) hx hb dX13_people_162 rfl ?_
                              refine lv_istore (lv' := [(5, .int (gI M5 b30 (ix y5_6))), (4, .int z23), (7, .int z23), (0, .ref (ad y5_0)), (1, .int y5_1), (2, .int y5_2), (3, .int y5_3), (6, .int y5_6)]) hx hb dX13_people_167 hl (by decide) rfl (fun ls hl => ?_)
                              refine lv_iinc (v := y5_6 + 1) (lv' := [(6, .int (y5_6 + 1)), (5, .int (gI M5 b30 (ix y5_6))), (4, .int z23), (7, .int z23), (0, .ref (ad y5_0)), (1, .int y5_1), (2, .int y5_2), (3, .int y5_3)]) hx hb dX13_people_169 hl (k := 7) rfl rfl (by decide) rfl (fun ls hl => ?_)
                              refine lv_goto (tgt := 45) hx hb dX13_people_172 rfl ?_
                              exact ih5 M5 y5_0 y5_1 y5_2 y5_3 z23 (gI M5 b30 (ix y5_6)) (y5_6 + 1) ky5_0 _ _ h hP hD hT hS ls (lv_sub hl [4, 5, 6, 7, 2, 1, 0] rfl)
                      · replace h := ite_f c24 h
                        refine lv_iload_n hx hb dX13_people_107 rfl (lv_at hl 4 rfl) ?_
                        refine lv_if_eq (tgt := 121) hx hb dX13_people_108 rfl (fun c32 => ?_) (fun c32 => ?_)
                        · replace h := ite_t c32 h
                          refine lv_iload hx hb dX13_people_121 (lv_at hl 0 rfl) ?_
                          refine lv_iload hx hb dX13_people_123 (lv_at hl 5 rfl) ?_
                          refine lv_icmp_ge (tgt := 133) hx hb dX13_people_125 rfl (fun c33 => ?_) (fun c33 => ?_)
                          · replace h := ite_t c33 h
                            refine lv_iload hx hb dX13_people_133 (lv_at hl 5 rfl) ?_
                            refine lv_istore (lv' := [(4, .int y5_4), (7, .int z23), (0, .ref (ad y5_0)), (1, .int y5_1), (2, .int y5_2), (3, .int y5_3), (5, .int y5_5), (6, .int y5_6)]) hx hb dX13_people_135 hl (by decide) rfl (fun ls hl => ?_)
                            refine lv_aload_n hx hb dX13_people_137 rfl (lv_at hl 2 rfl) ?_
                            rcases hN34 : gR M5 y5_0 3 with _ | b34
                            · replace h := oc_n hN34 h
                              refine r_get (T := TX13) (v := .null) hx hb hts in13 hown hK hP ky5_0 (by decide) rfl 3 (by decide) (hts (.fieldLink RX13 431 "StoneWalkModel" "island" "LStoneWalkModel$Island;") (List.mem_of_getElem? (i := 2) (by decide +kernel))) rfl (t := 2) rfl (by show va_rf _ = _; rw [hN34]; rfl) dX13_people_138 ?_
                              exact absurd h (by simp)
                            · replace h := oc_s hN34 h
                              have kb34 := hT.f ky5_0 (k := 3) (t := 12) (n := 0) rfl hN34
                              refine r_get (T := TX13) (v := .ref (ad b34)) hx hb hts in13 hown hK hP ky5_0 (by decide) rfl 3 (by decide) (hts (.fieldLink RX13 431 "StoneWalkModel" "island" "LStoneWalkModel$Island;") (List.mem_of_getElem? (i := 2) (by decide +kernel))) rfl (t := 2) rfl (by show va_rf _ = _; rw [hN34]; rfl) dX13_people_138 ?_
                              rcases hN35 : gR M5 b34 23 with _ | b35
                              · exact absurd (oc_n hN35 h) (by simp)
                              replace h := oc_s hN35 h
                              have kb35 := hT.f kb34 (k := 23) (t := 15) (n := 5) rfl hN35
                              refine r_getN (T := TX12) (v := .ref (ad b35)) hx hb hts in12 hown hK hP kb34 (by decide) rfl 23 (by decide) (hG.2.2.1 ("StoneWalkModel", 331, "StoneWalkModel$Island", "trialTons", "[I", "StoneWalkModel") (List.mem_of_getElem? (i := 24) rfl)) rfl (t := 2) rfl (by show va_rf _ = _; rw [hN35]; rfl) dX13_people_141 ?_
                              refine lv_iload hx hb dX13_people_144 (lv_at hl 7 rfl) ?_
                              obtain ⟨hn36, h⟩ := chk_some h
                              refine r_iald hx hb hK hP kb35 hn36 dX13_people_146 ?_
                              refine lv_iload hx hb dX13_people_147 (lv_at hl 6 rfl) ?_
                              refine lv_icmp_le (tgt := 165) hx hb dX13_people_149 rfl (fun c37 => ?_) (fun c37 => ?_)
                              · replace h := ite_t c37 h
                                refine lv_iload hx hb dX13_people_165 (lv_at hl 6 rfl) ?_
                                refine lv_istore (lv' := [(5, .int y5_5), (4, .int y5_4), (7, .int z23), (0, .ref (ad y5_0)), (1, .int y5_1), (2, .int y5_2), (3, .int y5_3), (6, .int y5_6)]) hx hb dX13_people_167 hl (by decide) rfl (fun ls hl => ?_)
                                refine lv_iinc (v := y5_6 + 1) (lv' := [(6, .int (y5_6 + 1)), (5, .int y5_5), (4, .int y5_4), (7, .int z23), (0, .ref (ad y5_0)), (1, .int y5_1), (2, .int y5_2), (3, .int y5_3)]) hx hb dX13_people_169 hl (k := 7) rfl rfl (by decide) rfl (fun ls hl => ?_)
                                refine lv_goto (tgt := 45) hx hb dX13_people_172 rfl ?_
                                exact ih5 M5 y5_0 y5_1 y5_2 y5_3 y5_4 y5_5 (y5_6 + 1) ky5_0 _ _ h hP hD hT hS ls (lv_sub hl [4, 5, 6, 7, 2, 1, 0] rfl)
                              · replace h := ite_f c37 h
                                refine lv_aload_n hx hb dX13_people_152 rfl (lv_at hl 2 rfl) ?_
                                rcases hN38 : gR M5 y5_0 3 with _ | b38
                                · replace h := oc_n hN38 h
                                  refine r_get (T := TX13) (v := .null) hx hb hts in13 hown hK hP ky5_0 (by decide) rfl 3 (by decide) (hts (.fieldLink RX13 431 "StoneWalkModel" "island" "LStoneWalkModel$Island;") (List.mem_of_getElem? (i := 2) (by decide +kernel))) rfl (t := 2) rfl (by show va_rf _ = _; rw [hN38]; rfl) dX13_people_153 ?_
                                  exact absurd h (by simp)
                                · replace h := oc_s hN38 h
                                  have kb38 := hT.f ky5_0 (k := 3) (t := 12) (n := 0) rfl hN38
                                  refine r_get (T := TX13) (v := .ref (ad b38)) hx hb hts in13 hown hK hP ky5_0 (by decide) rfl 3 (by decide) (hts (.fieldLink RX13 431 "StoneWalkModel" "island" "LStoneWalkModel$Island;") (List.mem_of_getElem? (i := 2) (by decide +kernel))) rfl (t := 2) rfl (by show va_rf _ = _; rw [hN38]; rfl) dX13_people_153 ?_
                                  rcases hN39 : gR M5 b38 23 with _ | b39
                                  · exact absurd (oc_n hN39 h) (by simp)
                                  replace h := oc_s hN39 h
                                  have kb39 := hT.f kb38 (k := 23) (t := 15) (n := 5) rfl hN39
                                  refine r_getN (T := TX12) (v := .ref (ad b39)) hx hb hts in12 hown hK hP kb38 (by decide) rfl 23 (by decide) (hG.2.2.1 ("StoneWalkModel", 331, "StoneWalkModel$Island", "trialTons", "[I", "StoneWalkModel") (List.mem_of_getElem? (i := 24) rfl)) rfl (t := 2) rfl (by show va_rf _ = _; rw [hN39]; rfl) dX13_people_156 ?_
                                  refine lv_iload hx hb dX13_people_159 (lv_at hl 7 rfl) ?_
                                  obtain ⟨hn40, h⟩ := chk_some h
                                  refine r_iald hx hb hK hP kb39 hn40 dX13_people_161 ?_
                                  refine lv_goto (tgt := 167) hx hb dX13_people_162 rfl ?_
                                  refine lv_istore (lv' := [(5, .int (gI M5 b39 (ix y5_6))), (4, .int y5_4), (7, .int z23), (0, .ref (ad y5_0)), (1, .int y5_1), (2, .int y5_2), (3, .int y5_3), (6, .int y5_6)]) hx hb dX13_people_167 hl (by decide) rfl (fun ls hl => ?_)
                                  refine lv_iinc (v := y5_6 + 1) (lv' := [(6, .int (y5_6 + 1)), (5, .int (gI M5 b39 (ix y5_6))), (4, .int y5_4), (7, .int z23), (0, .ref (ad y5_0)), (1, .int y5_1), (2, .int y5_2), (3, .int y5_3)]) hx hb dX13_people_169 hl (k := 7) rfl rfl (by decide) rfl (fun ls hl => ?_)
                                  refine lv_goto (tgt := 45) hx hb dX13_people_172 rfl ?_
                                  exact ih5 M5 y5_0 y5_1 y5_2 y5_3 y5_4 (gI M5 b39 (ix y5_6)) (y5_6 + 1) ky5_0 _ _ h hP hD hT hS ls (lv_sub hl [4, 5, 6, 7, 2, 1, 0] rfl)
                          · replace h := ite_f c33 h
                            refine lv_iload hx hb dX13_people_128 (lv_at hl 0 rfl) ?_
                            refine lv_goto (tgt := 135) hx hb dX13_people_130 rfl ?_
                            refine lv_istore (lv' := [(4, .int z23), (7, .int z23), (0, .ref (ad y5_0)), (1, .int y5_1), (2, .int y5_2), (3, .int y5_3), (5, .int y5_5), (6, .int y5_6)]) hx hb dX13_people_135 hl (by decide) rfl (fun ls hl => ?_)
                            refine lv_aload_n hx hb dX13_people_137 rfl (lv_at hl 2 rfl) ?_
                            rcases hN41 : gR M5 y5_0 3 with _ | b41
                            · replace h := oc_n hN41 h
                              refine r_get (T := TX13) (v := .null) hx hb hts in13 hown hK hP ky5_0 (by decide) rfl 3 (by decide) (hts (.fieldLink RX13 431 "StoneWalkModel" "island" "LStoneWalkModel$Island;") (List.mem_of_getElem? (i := 2) (by decide +kernel))) rfl (t := 2) rfl (by show va_rf _ = _; rw [hN41]; rfl) dX13_people_138 ?_
                              exact absurd h (by simp)
                            · replace h := oc_s hN41 h
                              have kb41 := hT.f ky5_0 (k := 3) (t := 12) (n := 0) rfl hN41
                              refine r_get (T := TX13) (v := .ref (ad b41)) hx hb hts in13 hown hK hP ky5_0 (by decide) rfl 3 (by decide) (hts (.fieldLink RX13 431 "StoneWalkModel" "island" "LStoneWalkModel$Island;") (List.mem_of_getElem? (i := 2) (by decide +kernel))) rfl (t := 2) rfl (by show va_rf _ = _; rw [hN41]; rfl) dX13_people_138 ?_
                              rcases hN42 : gR M5 b41 23 with _ | b42
                              · exact absurd (oc_n hN42 h) (by simp)
                              replace h := oc_s hN42 h
                              have kb42 := hT.f kb41 (k := 23) (t := 15) (n := 5) rfl hN42
                              refine r_getN (T := TX12) (v := .ref (ad b42)) hx hb hts in12 hown hK hP kb41 (by decide) rfl 23 (by decide) (hG.2.2.1 ("StoneWalkModel", 331, "StoneWalkModel$Island", "trialTons", "[I", "StoneWalkModel") (List.mem_of_getElem? (i := 24) rfl)) rfl (t := 2) rfl (by show va_rf _ = _; rw [hN42]; rfl) dX13_people_141 ?_
                              refine lv_iload hx hb dX13_people_144 (lv_at hl 7 rfl) ?_
                              obtain ⟨hn43, h⟩ := chk_some h
                              refine r_iald hx hb hK hP kb42 hn43 dX13_people_146 ?_
                              refine lv_iload hx hb dX13_people_147 (lv_at hl 6 rfl) ?_
                              refine lv_icmp_le (tgt := 165) hx hb dX13_people_149 rfl (fun c44 => ?_) (fun c44 => ?_)
                              · replace h := ite_t c44 h
                                refine lv_iload hx hb dX13_people_165 (lv_at hl 6 rfl) ?_
                                refine lv_istore (lv' := [(5, .int y5_5), (4, .int z23), (7, .int z23), (0, .ref (ad y5_0)), (1, .int y5_1), (2, .int y5_2), (3, .int y5_3), (6, .int y5_6)]) hx hb dX13_people_167 hl (by decide) rfl (fun ls hl => ?_)
                                refine lv_iinc (v := y5_6 + 1) (lv' := [(6, .int (y5_6 + 1)), (5, .int y5_5), (4, .int z23), (7, .int z23), (0, .ref (ad y5_0)), (1, .int y5_1), (2, .int y5_2), (3, .int y5_3)]) hx hb dX13_people_169 hl (k := 7) rfl rfl (by decide) rfl (fun ls hl => ?_)
                                refine lv_goto (tgt := 45) hx hb dX13_people_172 rfl ?_
                                exact ih5 M5 y5_0 y5_1 y5_2 y5_3 z23 y5_5 (y5_6 + 1) ky5_0 _ _ h hP hD hT hS ls (lv_sub hl [4, 5, 6, 7, 2, 1, 0] rfl)
                              · replace h := ite_f c44 h
                                refine lv_aload_n hx hb dX13_people_152 rfl (lv_at hl 2 rfl) ?_
                                rcases hN45 : gR M5 y5_0 3 with _ | b45
                                · replace h := oc_n hN45 h
                                  refine r_get (T := TX13) (v := .null) hx hb hts in13 hown hK hP ky5_0 (by decide) rfl 3 (by decide) (hts (.fieldLink RX13 431 "StoneWalkModel" "island" "LStoneWalkModel$Island;") (List.mem_of_getElem? (i := 2) (by decide +kernel))) rfl (t := 2) rfl (by show va_rf _ = _; rw [hN45]; rfl) dX13_people_153 ?_
                                  exact absurd h (by simp)
                                · replace h := oc_s hN45 h
                                  have kb45 := hT.f ky5_0 (k := 3) (t := 12) (n := 0) rfl hN45
                                  refine r_get (T := TX13) (v := .ref (ad b45)) hx hb hts in13 hown hK hP ky5_0 (by decide) rfl 3 (by decide) (hts (.fieldLink RX13 431 "StoneWalkModel" "island" "LStoneWalkModel$Island;") (List.mem_of_getElem? (i := 2) (by decide +kernel))) rfl (t := 2) rfl (by show va_rf _ = _; rw [hN45]; rfl) dX13_people_153 ?_
                                  rcases hN46 : gR M5 b45 23 with _ | b46
                                  · exact absurd (oc_n hN46 h) (by simp)
                                  replace h := oc_s hN46 h
                                  have kb46 := hT.f kb45 (k := 23) (t := 15) (n := 5) rfl hN46
                                  refine r_getN (T := TX12) (v := .ref (ad b46)) hx hb hts in12 hown hK hP kb45 (by decide) rfl 23 (by decide) (hG.2.2.1 ("StoneWalkModel", 331, "StoneWalkModel$Island", "trialTons", "[I", "StoneWalkModel") (List.mem_of_getElem? (i := 24) rfl)) rfl (t := 2) rfl (by show va_rf _ = _; rw [hN46]; rfl) dX13_people_156 ?_
                                  refine lv_iload hx hb dX13_people_159 (lv_at hl 7 rfl) ?_
                                  obtain ⟨hn47, h⟩ := chk_some h
                                  refine r_iald hx hb hK hP kb46 hn47 dX13_people_161 ?_
                                  refine lv_goto (tgt := 167) hx hb dX13_people_162 rfl ?_
                                  refine lv_istore (lv' := [(5, .int (gI M5 b46 (ix y5_6))), (4, .int z23), (7, .int z23), (0, .ref (ad y5_0)), (1, .int y5_1), (2, .int y5_2), (3, .int y5_3), (6, .int y5_6)]) hx hb dX13_people_167 hl (by decide) rfl (fun ls hl => ?_)
                                  refine lv_iinc (v := y5_6 + 1) (lv' := [(6, .int (y5_6 + 1)), (5, .int (gI M5 b46 (ix y5_6))), (4, .int z23), (7, .int z23), (0, .ref (ad y5_0)), (1, .int y5_1), (2, .int y5_2), (3, .int y5_3)]) hx hb dX13_people_169 hl (k := 7) rfl rfl (by decide) rfl (fun ls hl => ?_)
                                  refine lv_goto (tgt := 45) hx hb dX13_people_172 rfl ?_
                                  exact ih5 M5 y5_0 y5_1 y5_2 y5_3 z23 (gI M5 b46 (ix y5_6)) (y5_6 + 1) ky5_0 _ _ h hP hD hT hS ls (lv_sub hl [4, 5, 6, 7, 2, 1, 0] rfl)
                        · replace h := ite_f c32 h
                          refine lv_iload hx hb dX13_people_111 (lv_at hl 0 rfl) ?_
                          refine lv_iload hx hb dX13_people_113 (lv_at hl 5 rfl) ?_
                          refine lv_icmp_le (tgt := 133) hx hb dX13_people_115 rfl (fun c48 => ?_) (fun c48 => ?_)
                          · replace h := ite_t c48 h
                            refine lv_iload hx hb dX13_people_133 (lv_at hl 5 rfl) ?_
                            refine lv_istore (lv' := [(4, .int y5_4), (7, .int z23), (0, .ref (ad y5_0)), (1, .int y5_1), (2, .int y5_2), (3, .int y5_3), (5, .int y5_5), (6, .int y5_6)]) hx hb dX13_people_135 hl (by decide) rfl (fun ls hl => ?_)
                            refine lv_aload_n hx hb dX13_people_137 rfl (lv_at hl 2 rfl) ?_
                            rcases hN49 : gR M5 y5_0 3 with _ | b49
                            · replace h := oc_n hN49 h
                              refine r_get (T := TX13) (v := .null) hx hb hts in13 hown hK hP ky5_0 (by decide) rfl 3 (by decide) (hts (.fieldLink RX13 431 "StoneWalkModel" "island" "LStoneWalkModel$Island;") (List.mem_of_getElem? (i := 2) (by decide +kernel))) rfl (t := 2) rfl (by show va_rf _ = _; rw [hN49]; rfl) dX13_people_138 ?_
                              exact absurd h (by simp)
                            · replace h := oc_s hN49 h
                              have kb49 := hT.f ky5_0 (k := 3) (t := 12) (n := 0) rfl hN49
                              refine r_get (T := TX13) (v := .ref (ad b49)) hx hb hts in13 hown hK hP ky5_0 (by decide) rfl 3 (by decide) (hts (.fieldLink RX13 431 "StoneWalkModel" "island" "LStoneWalkModel$Island;") (List.mem_of_getElem? (i := 2) (by decide +kernel))) rfl (t := 2) rfl (by show va_rf _ = _; rw [hN49]; rfl) dX13_people_138 ?_
                              rcases hN50 : gR M5 b49 23 with _ | b50
                              · exact absurd (oc_n hN50 h) (by simp)
                              replace h := oc_s hN50 h
                              have kb50 := hT.f kb49 (k := 23) (t := 15) (n := 5) rfl hN50
                              refine r_getN (T := TX12) (v := .ref (ad b50)) hx hb hts in12 hown hK hP kb49 (by decide) rfl 23 (by decide) (hG.2.2.1 ("StoneWalkModel", 331, "StoneWalkModel$Island", "trialTons", "[I", "StoneWalkModel") (List.mem_of_getElem? (i := 24) rfl)) rfl (t := 2) rfl (by show va_rf _ = _; rw [hN50]; rfl) dX13_people_141 ?_
                              refine lv_iload hx hb dX13_people_144 (lv_at hl 7 rfl) ?_
                              obtain ⟨hn51, h⟩ := chk_some h
                              refine r_iald hx hb hK hP kb50 hn51 dX13_people_146 ?_
                              refine lv_iload hx hb dX13_people_147 (lv_at hl 6 rfl) ?_
                              refine lv_icmp_le (tgt := 165) hx hb dX13_people_149 rfl (fun c52 => ?_) (fun c52 => ?_)
                              · replace h := ite_t c52 h
                                refine lv_iload hx hb dX13_people_165 (lv_at hl 6 rfl) ?_
                                refine lv_istore (lv' := [(5, .int y5_5), (4, .int y5_4), (7, .int z23), (0, .ref (ad y5_0)), (1, .int y5_1), (2, .int y5_2), (3, .int y5_3), (6, .int y5_6)]) hx hb dX13_people_167 hl (by decide) rfl (fun ls hl => ?_)
                                refine lv_iinc (v := y5_6 + 1) (lv' := [(6, .int (y5_6 + 1)), (5, .int y5_5), (4, .int y5_4), (7, .int z23), (0, .ref (ad y5_0)), (1, .int y5_1), (2, .int y5_2), (3, .int y5_3)]) hx hb dX13_people_169 hl (k := 7) rfl rfl (by decide) rfl (fun ls hl => ?_)
                                refine lv_goto (tgt := 45) hx hb dX13_people_172 rfl ?_
                                exact ih5 M5 y5_0 y5_1 y5_2 y5_3 y5_4 y5_5 (y5_6 + 1) ky5_0 _ _ h hP hD hT hS ls (lv_sub hl [4, 5, 6, 7, 2, 1, 0] rfl)
                              · replace h := ite_f c52 h
                                refine lv_aload_n hx hb dX13_people_152 rfl (lv_at hl 2 rfl) ?_
                                rcases hN53 : gR M5 y5_0 3 with _ | b53
                                · replace h := oc_n hN53 h
                                  refine r_get (T := TX13) (v := .null) hx hb hts in13 hown hK hP ky5_0 (by decide) rfl 3 (by decide) (hts (.fieldLink RX13 431 "StoneWalkModel" "island" "LStoneWalkModel$Island;") (List.mem_of_getElem? (i := 2) (by decide +kernel))) rfl (t := 2) rfl (by show va_rf _ = _; rw [hN53]; rfl) dX13_people_153 ?_
                                  exact absurd h (by simp)
                                · replace h := oc_s hN53 h
                                  have kb53 := hT.f ky5_0 (k := 3) (t := 12) (n := 0) rfl hN53
                                  refine r_get (T := TX13) (v := .ref (ad b53)) hx hb hts in13 hown hK hP ky5_0 (by decide) rfl 3 (by decide) (hts (.fieldLink RX13 431 "StoneWalkModel" "island" "LStoneWalkModel$Island;") (List.mem_of_getElem? (i := 2) (by decide +kernel))) rfl (t := 2) rfl (by show va_rf _ = _; rw [hN53]; rfl) dX13_people_153 ?_
                                  rcases hN54 : gR M5 b53 23 with _ | b54
                                  · exact absurd (oc_n hN54 h) (by simp)
                                  replace h := oc_s hN54 h
                                  have kb54 := hT.f kb53 (k := 23) (t := 15) (n := 5) rfl hN54
                                  refine r_getN (T := TX12) (v := .ref (ad b54)) hx hb hts in12 hown hK hP kb53 (by decide) rfl 23 (by decide) (hG.2.2.1 ("StoneWalkModel", 331, "StoneWalkModel$Island", "trialTons", "[I", "StoneWalkModel") (List.mem_of_getElem? (i := 24) rfl)) rfl (t := 2) rfl (by show va_rf _ = _; rw [hN54]; rfl) dX13_people_156 ?_
                                  refine lv_iload hx hb dX13_people_159 (lv_at hl 7 rfl) ?_
                                  obtain ⟨hn55, h⟩ := chk_some h
                                  refine r_iald hx hb hK hP kb54 hn55 dX13_people_161 ?_
                                  refine lv_goto (tgt := 167) hx hb dX13_people_162 rfl ?_
                                  refine lv_istore (lv' := [(5, .int (gI M5 b54 (ix y5_6))), (4, .int y5_4), (7, .int z23), (0, .ref (ad y5_0)), (1, .int y5_1), (2, .int y5_2), (3, .int y5_3), (6, .int y5_6)]) hx hb dX13_people_167 hl (by decide) rfl (fun ls hl => ?_)
                                  refine lv_iinc (v := y5_6 + 1) (lv' := [(6, .int (y5_6 + 1)), (5, .int (gI M5 b54 (ix y5_6))), (4, .int y5_4), (7, .int z23), (0, .ref (ad y5_0)), (1, .int y5_1), (2, .int y5_2), (3, .int y5_3)]) hx hb dX13_people_169 hl (k := 7) rfl rfl (by decide) rfl (fun ls hl => ?_)
                                  refine lv_goto (tgt := 45) hx hb dX13_people_172 rfl ?_
                                  exact ih5 M5 y5_0 y5_1 y5_2 y5_3 y5_4 (gI M5 b54 (ix y5_6)) (y5_6 + 1) ky5_0 _ _ h hP hD hT hS ls (lv_sub hl [4, 5, 6, 7, 2, 1, 0] rfl)
                          · replace h := ite_f c48 h
                            refine lv_goto (tgt := 128) hx hb dX13_people_118 rfl ?_
                            refine lv_iload hx hb dX13_people_128 (lv_at hl 0 rfl) ?_
                            refine lv_goto (tgt := 135) hx hb dX13_people_130 rfl ?_
                            refine lv_istore (lv' := [(4, .int z23), (7, .int z23), (0, .ref (ad y5_0)), (1, .int y5_1), (2, .int y5_2), (3, .int y5_3), (5, .int y5_5), (6, .int y5_6)]) hx hb dX13_people_135 hl (by decide) rfl (fun ls hl => ?_)
                            refine lv_aload_n hx hb dX13_people_137 rfl (lv_at hl 2 rfl) ?_
                            rcases hN56 : gR M5 y5_0 3 with _ | b56
                            · replace h := oc_n hN56 h
                              refine r_get (T := TX13) (v := .null) hx hb hts in13 hown hK hP ky5_0 (by decide) rfl 3 (by decide) (hts (.fieldLink RX13 431 "StoneWalkModel" "island" "LStoneWalkModel$Island;") (List.mem_of_getElem? (i := 2) (by decide +kernel))) rfl (t := 2) rfl (by show va_rf _ = _; rw [hN56]; rfl) dX13_people_138 ?_
                              exact absurd h (by simp)
                            · replace h := oc_s hN56 h
                              have kb56 := hT.f ky5_0 (k := 3) (t := 12) (n := 0) rfl hN56
                              refine r_get (T := TX13) (v := .ref (ad b56)) hx hb hts in13 hown hK hP ky5_0 (by decide) rfl 3 (by decide) (hts (.fieldLink RX13 431 "StoneWalkModel" "island" "LStoneWalkModel$Island;") (List.mem_of_getElem? (i := 2) (by decide +kernel))) rfl (t := 2) rfl (by show va_rf _ = _; rw [hN56]; rfl) dX13_people_138 ?_
                              rcases hN57 : gR M5 b56 23 with _ | b57
                              · exact absurd (oc_n hN57 h) (by simp)
                              replace h := oc_s hN57 h
                              have kb57 := hT.f kb56 (k := 23) (t := 15) (n := 5) rfl hN57
                              refine r_getN (T := TX12) (v := .ref (ad b57)) hx hb hts in12 hown hK hP kb56 (by decide) rfl 23 (by decide) (hG.2.2.1 ("StoneWalkModel", 331, "StoneWalkModel$Island", "trialTons", "[I", "StoneWalkModel") (List.mem_of_getElem? (i := 24) rfl)) rfl (t := 2) rfl (by show va_rf _ = _; rw [hN57]; rfl) dX13_people_141 ?_
                              refine lv_iload hx hb dX13_people_144 (lv_at hl 7 rfl) ?_
                              obtain ⟨hn58, h⟩ := chk_some h
                              refine r_iald hx hb hK hP kb57 hn58 dX13_people_146 ?_
                              refine lv_iload hx hb dX13_people_147 (lv_at hl 6 rfl) ?_
                              refine lv_icmp_le (tgt := 165) hx hb dX13_people_149 rfl (fun c59 => ?_) (fun c59 => ?_)
                              · replace h := ite_t c59 h
                                refine lv_iload hx hb dX13_people_165 (lv_at hl 6 rfl) ?_
                                refine lv_istore (lv' := [(5, .int y5_5), (4, .int z23), (7, .int z23), (0, .ref (ad y5_0)), (1, .int y5_1), (2, .int y5_2), (3, .int y5_3), (6, .int y5_6)]) hx hb dX13_people_167 hl (by decide) rfl (fun ls hl => ?_)
                                refine lv_iinc (v := y5_6 + 1) (lv' := [(6, .int (y5_6 + 1)), (5, .int y5_5), (4, .int z23), (7, .int z23), (0, .ref (ad y5_0)), (1, .int y5_1), (2, .int y5_2), (3, .int y5_3)]) hx hb dX13_people_169 hl (k := 7) rfl rfl (by decide) rfl (fun ls hl => ?_)
                                refine lv_goto (tgt := 45) hx hb dX13_people_172 rfl ?_
                                exact ih5 M5 y5_0 y5_1 y5_2 y5_3 z23 y5_5 (y5_6 + 1) ky5_0 _ _ h hP hD hT hS ls (lv_sub hl [4, 5, 6, 7, 2, 1, 0] rfl)
                              · replace h := ite_f c59 h
                                refine lv_aload_n hx hb dX13_people_152 rfl (lv_at hl 2 rfl) ?_
                                rcases hN60 : gR M5 y5_0 3 with _ | b60
                                · replace h := oc_n hN60 h
                                  refine r_get (T := TX13) (v := .null) hx hb hts in13 hown hK hP ky5_0 (by decide) rfl 3 (by decide) (hts (.fieldLink RX13 431 "StoneWalkModel" "island" "LStoneWalkModel$Island;") (List.mem_of_getElem? (i := 2) (by decide +kernel))) rfl (t := 2) rfl (by show va_rf _ = _; rw [hN60]; rfl) dX13_people_153 ?_
                                  exact absurd h (by simp)
                                · replace h := oc_s hN60 h
                                  have kb60 := hT.f ky5_0 (k := 3) (t := 12) (n := 0) rfl hN60
                                  refine r_get (T := TX13) (v := .ref (ad b60)) hx hb hts in13 hown hK hP ky5_0 (by decide) rfl 3 (by decide) (hts (.fieldLink RX13 431 "StoneWalkModel" "island" "LStoneWalkModel$Island;") (List.mem_of_getElem? (i := 2) (by decide +kernel))) rfl (t := 2) rfl (by show va_rf _ = _; rw [hN60]; rfl) dX13_people_153 ?_
                                  rcases hN61 : gR M5 b60 23 with _ | b61
                                  · exact absurd (oc_n hN61 h) (by simp)
                                  replace h := oc_s hN61 h
                                  have kb61 := hT.f kb60 (k := 23) (t := 15) (n := 5) rfl hN61
                                  refine r_getN (T := TX12) (v := .ref (ad b61)) hx hb hts in12 hown hK hP kb60 (by decide) rfl 23 (by decide) (hG.2.2.1 ("StoneWalkModel", 331, "StoneWalkModel$Island", "trialTons", "[I", "StoneWalkModel") (List.mem_of_getElem? (i := 24) rfl)) rfl (t := 2) rfl (by show va_rf _ = _; rw [hN61]; rfl) dX13_people_156 ?_
                                  refine lv_iload hx hb dX13_people_159 (lv_at hl 7 rfl) ?_
                                  obtain ⟨hn62, h⟩ := chk_some h
                                  refine r_iald hx hb hK hP kb61 hn62 dX13_people_161 ?_
                                  refine lv_goto (tgt := 167) hx hb dX13_people_162 rfl ?_
                                  refine lv_istore (lv' := [(5, .int (gI M5 b61 (ix y5_6))), (4, .int z23), (7, .int z23), (0, .ref (ad y5_0)), (1, .int y5_1), (2, .int y5_2), (3, .int y5_3), (6, .int y5_6)]) hx hb dX13_people_167 hl (by decide) rfl (fun ls hl => ?_)
                                  refine lv_iinc (v := y5_6 + 1) (lv' := [(6, .int (y5_6 + 1)), (5, .int (gI M5 b61 (ix y5_6))), (4, .int z23), (7, .int z23), (0, .ref (ad y5_0)), (1, .int y5_1), (2, .int y5_2), (3, .int y5_3)]) hx hb dX13_people_169 hl (k := 7) rfl rfl (by decide) rfl (fun ls hl => ?_)
                                  refine lv_goto (tgt := 45) hx hb dX13_people_172 rfl ?_
                                  exact ih5 M5 y5_0 y5_1 y5_2 y5_3 z23 (gI M5 b61 (ix y5_6)) (y5_6 + 1) ky5_0 _ _ h hP hD hT hS ls (lv_sub hl [4, 5, 6, 7, 2, 1, 0] rfl)
                · replace h := ite_f c16 h
                  refine lv_goto (tgt := 169) hx hb dX13_people_71 rfl ?_
                  refine lv_iinc (v := y5_6 + 1) (lv' := [(6, .int (y5_6 + 1)), (0, .ref (ad y5_0)), (1, .int y5_1), (2, .int y5_2), (3, .int y5_3), (4, .int y5_4), (5, .int y5_5)]) hx hb dX13_people_169 hl (k := 6) rfl rfl (by decide) rfl (fun ls hl => ?_)
                  refine lv_goto (tgt := 45) hx hb dX13_people_172 rfl ?_
                  exact ih5 M5 y5_0 y5_1 y5_2 y5_3 y5_4 y5_5 (y5_6 + 1) ky5_0 _ _ h hP hD hT hS ls (lv_sub hl [1, 2, 3, 4, 5, 6, 0] rfl)
      exact L5 FU Mg1 a0 x1 x2 x3 (-1) 0 0 k0 _ _ h hP hD hT hS ls (lv_sub hl [3, 4, 5, 6, 2, 1, 0] rfl)
    · replace h := ite_t c4 h
      refine lv_aload_n hx hb dX13_people_30 rfl (lv_at hl 0 rfl) ?_
      refine lv_iconst (v := 2) hx hb dX13_people_31 rfl ?_
      obtain ⟨z63, h63, h⟩ := ob_some h
      refine k_i (va_runV (As := [.int 2]) (rest := []) ⟨hx, hb, hml, hown, hts⟩ (c_X13_refused (l := l) Mg1 a0 2 k0 h63) (cwV 1 hts gX13_people_X13_refused rfl rfl rfl hdV_X13_refused ⟨Nat.le_of_ble_eq_true rfl, Nat.le_of_ble_eq_true rfl⟩) (pV (T := TX13) hP hK hD hT hG hS k0 (by decide) rfl) rfl rfl hl.1 rfl (lv_room (Nat.le_of_ble_eq_true rfl)) dX13_people_32 ⟨Nat.zero_le _, Nat.zero_le _⟩) hS (fun H locs hP hD hT hS => ?_)
      have hZ := Option.some.inj h
      have hZ1 := congrArg Prod.fst hZ
      have hZ2 := congrArg Prod.snd hZ
      exact r_iret hx hb hr hlocks hP hK hD hT hG hS hZ1 hZ2 dX13_people_35
  · replace h := ite_t c2 h
    refine lv_aload_n hx hb dX13_people_13 rfl (lv_at hl 0 rfl) ?_
    refine lv_iconst (v := 1) hx hb dX13_people_14 rfl ?_
    obtain ⟨z64, h64, h⟩ := ob_some h
    refine k_i (va_runV (As := [.int 1]) (rest := []) ⟨hx, hb, hml, hown, hts⟩ (c_X13_refused (l := l) Mg1 a0 1 k0 h64) (cwV 1 hts gX13_people_X13_refused rfl rfl rfl hdV_X13_refused ⟨Nat.le_of_ble_eq_true rfl, Nat.le_of_ble_eq_true rfl⟩) (pV (T := TX13) hP hK hD hT hG hS k0 (by decide) rfl) rfl rfl hl.1 rfl (lv_room (Nat.le_of_ble_eq_true rfl)) dX13_people_15 ⟨Nat.zero_le _, Nat.zero_le _⟩) hS (fun H locs hP hD hT hS => ?_)
    have hZ := Option.some.inj h
    have hZ1 := congrArg Prod.fst hZ
    have hZ2 := congrArg Prod.snd hZ
    exact r_iret hx hb hr hlocks hP hK hD hT hG hS hZ1 hZ2 dX13_people_18
