theorem hdV_X13_island : yX13_island.cls = RX13 ∧ yX13_island.cls ≠ "java/lang/invoke/MethodHandle" ∧ yX13_island.cls ≠ "java/lang/invoke/VarHandle" ∧ (parseMethodDescriptor yX13_island.desc).map (fun d => d.parameters.length) = some 1 := by decide +kernel
set_option maxHeartbeats 4000000 in
set_option maxRecDepth 100000 in
theorem c_X13_island {l : Launch} {D : va_G} {ad : Nat → Nat} {cy : Nat → ClassId} {A : Nat → Prop} {g : CG} {q : SE} (M : MM) (a0 : Nat) (x1 : Int32) (top : Nat) (k0 : ok g a0 13 0) (htop : topA g top) {Z : (Int32 × MM)} (h : f_X13_island M a0 x1 top = some Z) : Met l yX13_island wsX13_island ({ frames := 12, cells := 32, slots := 330, locals := 262 }) (va_Pc [.ref (ad a0), .int x1] (WdA D ad cy A g q M)) (va_Qi (fun r u => r = Z.1 ∧ u = Z.2) (WdX D ad cy A g top q) A) 32 330 A := by
  refine Met.ofW (cc := cX13_island) (maxL := 2) (ret := (some .int)) (by decide) rfl ?_
  intro p e s m args below meth c s₁ B hml hv
  obtain ⟨rfl, ⟨hP, hK, hD, hT, hG⟩, hA⟩ := hv
  have hold : ∀ y ∈ g.1, ad y = ad y := fun _ _ => rfl
  have hsub : ∀ y ∈ g.1, y ∈ g.1 := fun _ h => h
  have hokk : ∀ b kd z : Nat, ok g b kd z → ok g b kd z := fun _ _ _ h => h
  have htle : top ≤ top + 32 := by omega
  have hx := B.exec
  have hb := B.bytes
  have hr := B.returns
  have hts := atoms_spec (ws := wsX13_island) B.pre
  have hown : s.vm.findClass RX13 = some m.cls := findClass_of_methodNamed B.named
  have hlocks := B.notSynchronized
  have in12 : ∀ w ∈ u_ws RX12 TX12 48, w ∈ wsX13_island := fun w h => List.mem_cons_of_mem _ (List.mem_append_right _ h)
  have in13 : ∀ w ∈ u_ws RX13 TX13 29, w ∈ wsX13_island := fun w h => List.mem_cons_of_mem _ (List.mem_append_left _ (List.mem_append_right _ h))
  have hS : va_S A s.heap s.heap [] := va_S.rf
  have hl := lv_entry ([.ref (ad a0), .int x1]) (n := 2) (Nat.le_of_ble_eq_true rfl)
  rw [lg_entry_eq]
  generalize (lg_sl ([.ref (ad a0), .int x1]) ++ List.replicate (2 - (lg_sl ([.ref (ad a0), .int x1])).length) Slot.unset).toArray = ls at hl ⊢
  have hl : lv_has ls 2 [(0, .ref (ad a0)), (1, .int x1)] := hl
  unfold f_X13_island at h
  refine lv_aload_n hx hb dX13_island_0 rfl (lv_at hl 0 rfl) ?_
  refine lv_iconst (v := 0) hx hb dX13_island_1 rfl ?_
  refine r_putI (T := TX13) (ty := .int) (v := 0) hx hb hts in13 tyX13 tyX13_ok nmX13 hown hK hP hD hT hS k0 (by decide) rfl 0 (by decide) (hts (.fieldLink RX13 30 "StoneWalkModel" "thrown" "I") (List.mem_of_getElem? (i := 1) (by decide +kernel))) rfl rfl (tyX13_ok 0 (by decide)) rfl rfl rfl dX13_island_2 (fun H locs hP hD hT hS => ?_)
  generalize pI M a0 0 0 = Mg1 at h hP hD hT ⊢
  refine lv_iload_n hx hb dX13_island_5 rfl (lv_at hl 1 rfl) ?_
  refine lv_if_lt (tgt := 17) hx hb dX13_island_6 rfl (fun c1 => ?_) (fun c1 => ?_)
  · replace h := ite_t c1 h
    refine lv_aload_n hx hb dX13_island_17 rfl (lv_at hl 0 rfl) ?_
    refine lv_iconst (v := 2) hx hb dX13_island_18 rfl ?_
    obtain ⟨z2, h2, h⟩ := ob_some h
    refine k_iC (va_runV (As := [.int 2]) (rest := []) ⟨hx, hb, hml, hown, hts⟩ (c_X13_refused (l := l) Mg1 a0 2 k0 h2) (cwV 1 hts gX13_island_X13_refused rfl rfl rfl hdV_X13_refused ⟨Nat.le_of_ble_eq_true rfl, Nat.le_of_ble_eq_true rfl⟩) (pV (T := TX13) hP hK hD hT hG hS k0 (by decide) rfl) rfl rfl hl.1 rfl (lv_room (Nat.le_of_ble_eq_true rfl)) dX13_island_19 ⟨Nat.le_of_ble_eq_true rfl, Nat.le_of_ble_eq_true rfl⟩) hS (fun H locs hP hD hT hS => ?_)
    have hZ := Option.some.inj h
    have hZ1 := congrArg Prod.fst hZ
    have hZ2 := congrArg Prod.snd hZ
    refine W.widen (k := 32) (n := 330) (Nat.le_of_ble_eq_true rfl) (Nat.le_of_ble_eq_true rfl) ?_
    exact r_iretX hx hb hr hlocks hP hK hD hT hG hS hold hokk htop htle hZ1 hZ2 dX13_island_22
  · replace h := ite_f c1 h
    refine lv_iload_n hx hb dX13_island_9 rfl (lv_at hl 1 rfl) ?_
    refine lv_aload_n hx hb dX13_island_10 rfl (lv_at hl 0 rfl) ?_
    refine r_get (T := TX13) (v := .int (gI Mg1 a0 6)) hx hb hts in13 hown hK hP k0 (by decide) rfl 6 (by decide) (hts (.fieldLink RX13 424 "StoneWalkModel" "taped" "I") (List.mem_of_getElem? (i := 2) (by decide +kernel))) rfl (t := 0) rfl rfl dX13_island_11 ?_
    refine lv_icmp_le (tgt := 23) hx hb dX13_island_14 rfl (fun c3 => ?_) (fun c3 => ?_)
    · replace h := ite_t c3 h
      refine lv_aload_n hx hb dX13_island_23 rfl (lv_at hl 0 rfl) ?_
      refine lv_iload_n hx hb dX13_island_24 rfl (lv_at hl 1 rfl) ?_
      refine r_putI (T := TX13) (ty := .int) (v := x1) hx hb hts in13 tyX13 tyX13_ok nmX13 hown hK hP hD hT hS k0 (by decide) rfl 7 (by decide) (hts (.fieldLink RX13 43 "StoneWalkModel" "size" "I") (List.mem_of_getElem? (i := 3) (by decide +kernel))) rfl rfl (tyX13_ok 7 (by decide)) rfl rfl rfl dX13_island_25 (fun H locs hP hD hT hS => ?_)
      generalize pI Mg1 a0 7 x1 = Mg2 at h hP hD hT ⊢
      refine lv_aload_n hx hb dX13_island_28 rfl (lv_at hl 0 rfl) ?_
      refine lv_iconst (v := 0) hx hb dX13_island_29 rfl ?_
      refine r_putI (T := TX13) (ty := .int) (v := 0) hx hb hts in13 tyX13 tyX13_ok nmX13 hown hK hP hD hT hS k0 (by decide) rfl 6 (by decide) (hts (.fieldLink RX13 424 "StoneWalkModel" "taped" "I") (List.mem_of_getElem? (i := 2) (by decide +kernel))) rfl rfl (tyX13_ok 6 (by decide)) rfl rfl rfl dX13_island_30 (fun H locs hP hD hT hS => ?_)
      generalize pI Mg2 a0 6 0 = Mg3 at h hP hD hT ⊢
      refine lv_aload_n hx hb dX13_island_33 rfl (lv_at hl 0 rfl) ?_
      refine lv_iconst (v := 0) hx hb dX13_island_34 rfl ?_
      refine r_putI (T := TX13) (ty := .int) (v := 0) hx hb hts in13 tyX13 tyX13_ok nmX13 hown hK hP hD hT hS k0 (by decide) rfl 8 (by decide) (hts (.fieldLink RX13 61 "StoneWalkModel" "at" "I") (List.mem_of_getElem? (i := 4) (by decide +kernel))) rfl rfl (tyX13_ok 8 (by decide)) rfl rfl rfl dX13_island_35 (fun H locs hP hD hT hS => ?_)
      generalize pI Mg3 a0 8 0 = Mg4 at h hP hD hT ⊢
      refine lv_aload_n hx hb dX13_island_38 rfl (lv_at hl 0 rfl) ?_
      refine lv_iconst (v := 0) hx hb dX13_island_39 rfl ?_
      refine r_putI (T := TX13) (ty := .int) (v := 0) hx hb hts in13 tyX13 tyX13_ok nmX13 hown hK hP hD hT hS k0 (by decide) rfl 13 (by decide) (hts (.fieldLink RX13 87 "StoneWalkModel" "fault" "I") (List.mem_of_getElem? (i := 5) (by decide +kernel))) rfl rfl (tyX13_ok 13 (by decide)) rfl rfl rfl dX13_island_40 (fun H locs hP hD hT hS => ?_)
      generalize pI Mg4 a0 13 0 = Mg5 at h hP hD hT ⊢
      refine lv_aload_n hx hb dX13_island_43 rfl (lv_at hl 0 rfl) ?_
      refine r_new (T := TX12) (ci := 12) (o := top + 1) hx hb hts in12 tyX12 tyX12_ok hown (hts (.classLink RX13 155 RX12) (List.mem_of_getElem? (i := 6) (by decide +kernel))) (hts (.instantiable RX12 48) (List.mem_of_getElem? (i := 7) (by decide +kernel))) (hts (.initialized RX12) (List.mem_of_getElem? (i := 8) (by decide +kernel))) hP hK hD hT hS hA (by decide) rfl htop rfl (fun j hj => by rw [fv_z]; rcases (show j = 0 ∨ j = 1 ∨ j = 2 ∨ j = 3 ∨ j = 4 ∨ j = 5 ∨ j = 6 ∨ j = 7 ∨ j = 8 ∨ j = 9 ∨ j = 10 ∨ j = 11 ∨ j = 12 ∨ j = 13 ∨ j = 14 ∨ j = 15 ∨ j = 16 ∨ j = 17 ∨ j = 18 ∨ j = 19 ∨ j = 20 ∨ j = 21 ∨ j = 22 ∨ j = 23 ∨ j = 24 ∨ j = 25 ∨ j = 26 ∨ j = 27 ∨ j = 28 ∨ j = 29 ∨ j = 30 ∨ j = 31 ∨ j = 32 ∨ j = 33 ∨ j = 34 ∨ j = 35 ∨ j = 36 ∨ j = 37 ∨ j = 38 ∨ j = 39 ∨ j = 40 ∨ j = 41 ∨ j = 42 ∨ j = 43 ∨ j = 44 ∨ j = 45 ∨ j = 46 ∨ j = 47 by omega) with rfl | rfl | rfl | rfl | rfl | rfl | rfl | rfl | rfl | rfl | rfl | rfl | rfl | rfl | rfl | rfl | rfl | rfl | rfl | rfl | rfl | rfl | rfl | rfl | rfl | rfl | rfl | rfl | rfl | rfl | rfl | rfl | rfl | rfl | rfl | rfl | rfl | rfl | rfl | rfl | rfl | rfl | rfl | rfl | rfl | rfl | rfl | rfl <;> rfl) (fun _ => fv_e) (Nat.le_of_ble_eq_true rfl) (Nat.le_of_ble_eq_true rfl) (fun ad => [(0, .ref (ad a0)), (1, .int x1)]) hl (fun ad' hh => by simp only [hh _ k0.1]) (fun ad => [.ref (ad a0)]) (fun ad' hh => by simp only [hh _ k0.1]) rfl dX13_island_44 (fun ad H hh hP hD hT hS hl => ?_)
      have k0 := k0.up1 (k := 12) (n := 0) (o := top + 1) htop rfl
      have hokk := fun (b kd z : Nat) hb0 => (hokk b kd z hb0).up1 (k := 12) (n := 0) (o := top + 1) htop rfl
      have htop := htop.nw1 (k := 12) (n := 0) (o := top + 1) rfl
      have kz := ok.nwt htop
      have htle : top + 1 ≤ top + 32 := by omega
      have hold := fun (y : Nat) hy => (hh y (hsub y hy)).trans (hold y hy)
      have hsub := fun (y : Nat) hy => gN_sub (o := top + 1) (k := 12) (n := 0) (hsub y hy)
      refine lv_dup hx hb dX13_island_47 rfl ?_
      refine k_n (va_runIN (As := []) (rest := [.ref (ad (top + 1)), .ref (ad a0)]) ⟨hx, hb, hml, hown, hts⟩ (c_X12_init (l := l) _ (top + 1) kz htop) ⟨va_cnB 0 hts gX13_island_X12_init_n427 rfl rfl rfl (hG.2.1 ("StoneWalkModel", 427, ⟨"StoneWalkModel$Island", "<init>", "()V"⟩, "StoneWalkModel") (List.mem_of_getElem? (i := 18) rfl)) (hts (.initialized RX12) (List.mem_of_getElem? (i := 8) (by decide +kernel))) hdI_X12_init ⟨Nat.le_of_ble_eq_true rfl, Nat.le_of_ble_eq_true rfl⟩, rfl, (hts (.instanceMethod yX12_init) (List.mem_of_getElem? (i := 23) (by decide +kernel)))⟩ (pSA hP hK hD hT hG hS hA) rfl rfl hl.1 rfl (lv_room (Nat.le_of_ble_eq_true rfl)) dX13_island_48 ⟨Nat.le_of_ble_eq_true rfl, Nat.le_of_ble_eq_true rfl⟩) hS (fun ad => [(0, .ref (ad a0)), (1, .int x1)]) hl (fun ad' hh => by simp only [hh _ k0.1]) (fun ad => [.ref (ad (top + 1)), .ref (ad a0)]) (fun ad' hh => by simp only [hh _ kz.1, hh _ k0.1]) rfl (fun ad H locs hh hP hD hT htop1 hS hl => ?_)
      have k0 := (ok_X12_init (b := top + 1) htop k0).1
      have kz := (ok_X12_init (b := top + 1) htop kz).1
      have hokk := fun (b kd z : Nat) hb0 => (ok_X12_init (b := top + 1) htop (hokk b kd z hb0)).1
      have htle : top + 1 + 31 ≤ top + 32 := by omega
      have hold := fun (y : Nat) hy => (hh y (hsub y hy)).trans (hold y hy)
      have hsub := fun (y : Nat) hy => sub_X12_init (b := top + 1) (hsub y hy)
      have htop := htop1
      refine r_putR (T := TX13) (v := top + 1) hx hb hts in13 tyX13 tyX13_ok nmX13 hown hK hP hD hT hS k0 (by decide) rfl 4 (by decide) (hts (.fieldLink RX13 150 "StoneWalkModel" "read" "LStoneWalkModel$Island;") (List.mem_of_getElem? (i := 9) (by decide +kernel))) rfl rfl (tyX13_ok 4 (by decide)) rfl (fun t n ht => by cases ht; exact kz) rfl dX13_island_51 (fun H locs hP hD hT hS => ?_)
      generalize pR (f_X12_init (zM Mg5 (top + 1)) (top + 1)) a0 4 (some (top + 1)) = Mg6 at h hP hD hT ⊢
      refine lv_aload_n hx hb dX13_island_54 rfl (lv_at hl 0 rfl) ?_
      refine lv_iconst (v := 0) hx hb dX13_island_55 rfl ?_
      refine r_putI (T := TX13) (ty := .int) (v := 0) hx hb hts in13 tyX13 tyX13_ok nmX13 hown hK hP hD hT hS k0 (by decide) rfl 9 (by decide) (hts (.fieldLink RX13 58 "StoneWalkModel" "sort" "I") (List.mem_of_getElem? (i := 10) (by decide +kernel))) rfl rfl (tyX13_ok 9 (by decide)) rfl rfl rfl dX13_island_56 (fun H locs hP hD hT hS => ?_)
      generalize pI Mg6 a0 9 0 = Mg7 at h hP hD hT ⊢
      refine lv_aload_n hx hb dX13_island_59 rfl (lv_at hl 0 rfl) ?_
      obtain ⟨z4, h4, h⟩ := ob_some h
      refine k_vC (va_runV (As := []) (rest := []) ⟨hx, hb, hml, hown, hts⟩ (c_X13_goesOn (l := l) Mg7 a0 k0 h4) (cwV 0 hts gX13_island_X13_goesOn rfl rfl rfl hdV_X13_goesOn ⟨Nat.le_of_ble_eq_true rfl, Nat.le_of_ble_eq_true rfl⟩) (pV (T := TX13) hP hK hD hT hG hS k0 (by decide) rfl) rfl rfl hl.1 rfl (lv_room (Nat.le_of_ble_eq_true rfl)) dX13_island_60 ⟨Nat.le_of_ble_eq_true rfl, Nat.le_of_ble_eq_true rfl⟩) hS (fun H locs hP hD hT hS => ?_)
      refine lv_aload_n hx hb dX13_island_63 rfl (lv_at hl 0 rfl) ?_
      obtain ⟨z5, h5, h⟩ := ob_some h
      refine k_vC (va_runV (As := []) (rest := []) ⟨hx, hb, hml, hown, hts⟩ (c_X13_readIsland (l := l) z4 a0 k0 h5) (cwV 0 hts gX13_island_X13_readIsland rfl rfl rfl hdV_X13_readIsland ⟨Nat.le_of_ble_eq_true rfl, Nat.le_of_ble_eq_true rfl⟩) (pV (T := TX13) hP hK hD hT hG hS k0 (by decide) rfl) rfl rfl hl.1 rfl (lv_room (Nat.le_of_ble_eq_true rfl)) dX13_island_64 ⟨Nat.le_of_ble_eq_true rfl, Nat.le_of_ble_eq_true rfl⟩) hS (fun H locs hP hD hT hS => ?_)
      refine lv_aload_n hx hb dX13_island_67 rfl (lv_at hl 0 rfl) ?_
      refine r_get (T := TX13) (v := .int (gI z5 a0 13)) hx hb hts in13 hown hK hP k0 (by decide) rfl 13 (by decide) (hts (.fieldLink RX13 87 "StoneWalkModel" "fault" "I") (List.mem_of_getElem? (i := 5) (by decide +kernel))) rfl (t := 0) rfl rfl dX13_island_68 ?_
      refine lv_if_le (tgt := 89) hx hb dX13_island_71 rfl (fun c6 => ?_) (fun c6 => ?_)
      · replace h := ite_t c6 h
        refine lv_aload_n hx hb dX13_island_89 rfl (lv_at hl 0 rfl) ?_
        refine lv_aload_n hx hb dX13_island_90 rfl (lv_at hl 0 rfl) ?_
        rcases hN7 : gR z5 a0 4 with _ | b7
        · replace h := oc_n hN7 h
          refine r_get (T := TX13) (v := .null) hx hb hts in13 hown hK hP k0 (by decide) rfl 4 (by decide) (hts (.fieldLink RX13 150 "StoneWalkModel" "read" "LStoneWalkModel$Island;") (List.mem_of_getElem? (i := 9) (by decide +kernel))) rfl (t := 2) rfl (by show va_rf _ = _; rw [hN7]; rfl) dX13_island_91 ?_
          exact absurd h (by simp)
        · replace h := oc_s hN7 h
          have kb7 := hT.f k0 (k := 4) (t := 12) (n := 0) rfl hN7
          refine r_get (T := TX13) (v := .ref (ad b7)) hx hb hts in13 hown hK hP k0 (by decide) rfl 4 (by decide) (hts (.fieldLink RX13 150 "StoneWalkModel" "read" "LStoneWalkModel$Island;") (List.mem_of_getElem? (i := 9) (by decide +kernel))) rfl (t := 2) rfl (by show va_rf _ = _; rw [hN7]; rfl) dX13_island_91 ?_
          refine r_putR (T := TX13) (v := b7) hx hb hts in13 tyX13 tyX13_ok nmX13 hown hK hP hD hT hS k0 (by decide) rfl 3 (by decide) (hts (.fieldLink RX13 431 "StoneWalkModel" "island" "LStoneWalkModel$Island;") (List.mem_of_getElem? (i := 14) (by decide +kernel))) rfl rfl (tyX13_ok 3 (by decide)) rfl (fun t n ht => by cases ht; exact kb7) rfl dX13_island_94 (fun H locs hP hD hT hS => ?_)
          generalize pR z5 a0 3 (some b7) = Mg8 at h hP hD hT ⊢
          refine lv_aload_n hx hb dX13_island_97 rfl (lv_at hl 0 rfl) ?_
          refine lv_iconst (v := (-1)) hx hb dX13_island_98 rfl ?_
          refine r_putI (T := TX13) (ty := .int) (v := (-1)) hx hb hts in13 tyX13 tyX13_ok nmX13 hown hK hP hD hT hS k0 (by decide) rfl 17 (by decide) (hts (.fieldLink RX13 17 "StoneWalkModel" "moved" "I") (List.mem_of_getElem? (i := 15) (by decide +kernel))) rfl rfl (tyX13_ok 17 (by decide)) rfl rfl rfl dX13_island_99 (fun H locs hP hD hT hS => ?_)
          generalize pI Mg8 a0 17 (-1) = Mg9 at h hP hD hT ⊢
          refine lv_aload_n hx hb dX13_island_102 rfl (lv_at hl 0 rfl) ?_
          refine lv_iconst (v := 0) hx hb dX13_island_103 rfl ?_
          refine r_putI (T := TX13) (ty := .int) (v := 0) hx hb hts in13 tyX13 tyX13_ok nmX13 hown hK hP hD hT hS k0 (by decide) rfl 25 (by decide) (hts (.fieldLink RX13 434 "StoneWalkModel" "seen" "I") (List.mem_of_getElem? (i := 16) (by decide +kernel))) rfl rfl (tyX13_ok 25 (by decide)) rfl rfl rfl dX13_island_104 (fun H locs hP hD hT hS => ?_)
          generalize pI Mg9 a0 25 0 = Mg10 at h hP hD hT ⊢
          refine lv_aload_n hx hb dX13_island_107 rfl (lv_at hl 0 rfl) ?_
          refine lv_iconst (v := 0) hx hb dX13_island_108 rfl ?_
          refine r_putI (T := TX13) (ty := .int) (v := 0) hx hb hts in13 tyX13 tyX13_ok nmX13 hown hK hP hD hT hS k0 (by decide) rfl 16 (by decide) (hts (.fieldLink RX13 437 "StoneWalkModel" "seed" "I") (List.mem_of_getElem? (i := 17) (by decide +kernel))) rfl rfl (tyX13_ok 16 (by decide)) rfl rfl rfl dX13_island_109 (fun H locs hP hD hT hS => ?_)
          generalize pI Mg10 a0 16 0 = Mg11 at h hP hD hT ⊢
          refine lv_aload_n hx hb dX13_island_112 rfl (lv_at hl 0 rfl) ?_
          refine lv_aload_n hx hb dX13_island_113 rfl (lv_at hl 0 rfl) ?_
          rcases hN8 : gR Mg11 a0 3 with _ | b8
          · replace h := oc_n hN8 h
            refine r_get (T := TX13) (v := .null) hx hb hts in13 hown hK hP k0 (by decide) rfl 3 (by decide) (hts (.fieldLink RX13 431 "StoneWalkModel" "island" "LStoneWalkModel$Island;") (List.mem_of_getElem? (i := 14) (by decide +kernel))) rfl (t := 2) rfl (by show va_rf _ = _; rw [hN8]; rfl) dX13_island_114 ?_
            exact absurd h (by simp)
          · replace h := oc_s hN8 h
            have kb8 := hT.f k0 (k := 3) (t := 12) (n := 0) rfl hN8
            refine r_get (T := TX13) (v := .ref (ad b8)) hx hb hts in13 hown hK hP k0 (by decide) rfl 3 (by decide) (hts (.fieldLink RX13 431 "StoneWalkModel" "island" "LStoneWalkModel$Island;") (List.mem_of_getElem? (i := 14) (by decide +kernel))) rfl (t := 2) rfl (by show va_rf _ = _; rw [hN8]; rfl) dX13_island_114 ?_
            refine r_getN (T := TX12) (v := .int (gI Mg11 b8 2)) hx hb hts in12 hown hK hP kb8 (by decide) rfl 2 (by decide) (hG.2.2.1 ("StoneWalkModel", 191, "StoneWalkModel$Island", "statues", "I", "StoneWalkModel") (List.mem_of_getElem? (i := 7) rfl)) rfl (t := 0) rfl rfl dX13_island_117 ?_
            obtain ⟨z9, h9, h⟩ := ob_some h
            refine k_iC (va_runV (As := [.int (gI Mg11 b8 2)]) (rest := []) ⟨hx, hb, hml, hown, hts⟩ (c_X13_done (l := l) Mg11 a0 (gI Mg11 b8 2) k0 h9) (cwV 1 hts gX13_island_X13_done rfl rfl rfl hdV_X13_done ⟨Nat.le_of_ble_eq_true rfl, Nat.le_of_ble_eq_true rfl⟩) (pV (T := TX13) hP hK hD hT hG hS k0 (by decide) rfl) rfl rfl hl.1 rfl (lv_room (Nat.le_of_ble_eq_true rfl)) dX13_island_120 ⟨Nat.le_of_ble_eq_true rfl, Nat.le_of_ble_eq_true rfl⟩) hS (fun H locs hP hD hT hS => ?_)
            have hZ := Option.some.inj h
            have hZ1 := congrArg Prod.fst hZ
            have hZ2 := congrArg Prod.snd hZ
            refine W.widen (k := 32) (n := 330) (Nat.le_of_ble_eq_true rfl) (Nat.le_of_ble_eq_true rfl) ?_
            exact r_iretX hx hb hr hlocks hP hK hD hT hG hS hold hokk htop htle hZ1 hZ2 dX13_island_123
      · replace h := ite_f c6 h
        refine lv_aload_n hx hb dX13_island_74 rfl (lv_at hl 0 rfl) ?_
        refine lv_iconst (v := 4) hx hb dX13_island_75 rfl ?_
        refine r_putI (T := TX13) (ty := .int) (v := 4) hx hb hts in13 tyX13 tyX13_ok nmX13 hown hK hP hD hT hS k0 (by decide) rfl 1 (by decide) (hts (.fieldLink RX13 33 "StoneWalkModel" "trouble" "I") (List.mem_of_getElem? (i := 11) (by decide +kernel))) rfl rfl (tyX13_ok 1 (by decide)) rfl rfl rfl dX13_island_76 (fun H locs hP hD hT hS => ?_)
        generalize pI z5 a0 1 4 = Mg12 at h hP hD hT ⊢
        refine lv_aload_n hx hb dX13_island_79 rfl (lv_at hl 0 rfl) ?_
        refine lv_aload_n hx hb dX13_island_80 rfl (lv_at hl 0 rfl) ?_
        refine r_get (T := TX13) (v := .int (gI Mg12 a0 14)) hx hb hts in13 hown hK hP k0 (by decide) rfl 14 (by decide) (hts (.fieldLink RX13 90 "StoneWalkModel" "wrongAt" "I") (List.mem_of_getElem? (i := 12) (by decide +kernel))) rfl (t := 0) rfl rfl dX13_island_81 ?_
        refine r_putI (T := TX13) (ty := .int) (v := gI Mg12 a0 14) hx hb hts in13 tyX13 tyX13_ok nmX13 hown hK hP hD hT hS k0 (by decide) rfl 2 (by decide) (hts (.fieldLink RX13 9 "StoneWalkModel" "where" "I") (List.mem_of_getElem? (i := 13) (by decide +kernel))) rfl rfl (tyX13_ok 2 (by decide)) rfl rfl rfl dX13_island_84 (fun H locs hP hD hT hS => ?_)
        generalize pI Mg12 a0 2 (gI Mg12 a0 14) = Mg13 at h hP hD hT ⊢
        refine lv_iconst (v := (-1)) hx hb dX13_island_87 rfl ?_
        have hZ := Option.some.inj h
        have hZ1 := congrArg Prod.fst hZ
        have hZ2 := congrArg Prod.snd hZ
        refine W.widen (k := 32) (n := 330) (Nat.le_of_ble_eq_true rfl) (Nat.le_of_ble_eq_true rfl) ?_
        exact r_iretX hx hb hr hlocks hP hK hD hT hG hS hold hokk htop htle hZ1 hZ2 dX13_island_88
    · replace h := ite_f c3 h
      refine lv_aload_n hx hb dX13_island_17 rfl (lv_at hl 0 rfl) ?_
      refine lv_iconst (v := 2) hx hb dX13_island_18 rfl ?_
      obtain ⟨z10, h10, h⟩ := ob_some h
      refine k_iC (va_runV (As := [.int 2]) (rest := []) ⟨hx, hb, hml, hown, hts⟩ (c_X13_refused (l := l) Mg1 a0 2 k0 h10) (cwV 1 hts gX13_island_X13_refused rfl rfl rfl hdV_X13_refused ⟨Nat.le_of_ble_eq_true rfl, Nat.le_of_ble_eq_true rfl⟩) (pV (T := TX13) hP hK hD hT hG hS k0 (by decide) rfl) rfl rfl hl.1 rfl (lv_room (Nat.le_of_ble_eq_true rfl)) dX13_island_19 ⟨Nat.le_of_ble_eq_true rfl, Nat.le_of_ble_eq_true rfl⟩) hS (fun H locs hP hD hT hS => ?_)
      have hZ := Option.some.inj h
      have hZ1 := congrArg Prod.fst hZ
      have hZ2 := congrArg Prod.snd hZ
      refine W.widen (k := 32) (n := 330) (Nat.le_of_ble_eq_true rfl) (Nat.le_of_ble_eq_true rfl) ?_
      exact r_iretX hx hb hr hlocks hP hK hD hT hG hS hold hokk htop htle hZ1 hZ2 dX13_island_22
