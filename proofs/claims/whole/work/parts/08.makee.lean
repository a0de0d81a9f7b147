theorem hdI_X13_init : yX13_init.cls ≠ "java/lang/invoke/MethodHandle" ∧ yX13_init.cls ≠ "java/lang/invoke/VarHandle" ∧ (parseMethodDescriptor yX13_init.desc).map (fun d => d.parameters.length) = some 0 := by decide +kernel
theorem ok_X13_init {g : CG} {b y kd z : Nat} (htop : topA g b) (h : ok g y kd z) : ok (gF_X13_init g b) y kd z ∧ topA (gF_X13_init g b) (b + 4) := by
  have h := h.up1 (k := 14) (n := 900) (o := b + 1) htop rfl
  have htop := htop.nw1 (k := 14) (n := 900) (o := b + 1) rfl
  have h := h.up1 (k := 15) (n := 12) (o := b + 2) htop rfl
  have htop := htop.nw1 (k := 15) (n := 12) (o := b + 2) rfl
  have h := h.up1 (k := 15) (n := 12) (o := b + 3) htop rfl
  have htop := htop.nw1 (k := 15) (n := 12) (o := b + 3) rfl
  have h := h.up1 (k := 15) (n := 12) (o := b + 4) htop rfl
  have htop := htop.nw1 (k := 15) (n := 12) (o := b + 4) rfl
  exact ⟨h, htop⟩
theorem sub_X13_init {g : CG} {b y : Nat} (h : y ∈ g.1) : y ∈ (gF_X13_init g b).1 := by
  have h := gN_sub (o := b + 1) (k := 14) (n := 900) h
  have h := gN_sub (o := b + 2) (k := 15) (n := 12) h
  have h := gN_sub (o := b + 3) (k := 15) (n := 12) h
  have h := gN_sub (o := b + 4) (k := 15) (n := 12) h
  exact h
theorem gR_X13_init {M : MM} {b y k : Nat} (h : y < b) : gR (f_X13_init M b) y k = gR M y k := by
  unfold f_X13_init
  refine (gR_p (by omega)).trans ?_
  refine (gR_z (by omega)).trans ?_
  refine (gR_p (by omega)).trans ?_
  refine (gR_z (by omega)).trans ?_
  refine (gR_p (by omega)).trans ?_
  refine (gR_z (by omega)).trans ?_
  refine Eq.trans (b := gR _ y k) rfl ?_
  refine (gR_p (by omega)).trans ?_
  refine (gR_z (by omega)).trans ?_
  refine Eq.trans (b := gR _ y k) rfl ?_
  rfl
set_option maxHeartbeats 8000000 in
set_option maxRecDepth 100000 in
theorem c_X13_init {l : Launch} {D : va_G} {ad : Nat → Nat} {cy : Nat → ClassId} {A : Nat → Prop} {g : CG} {q : SE} (M : MM) (b : Nat) (k0 : ok g b 13 0) (htop : topA g b) : Met l yX13_init wsX13_init ({ frames := 1, cells := 4, slots := 936, locals := 12 }) (va_Pc [.ref (ad b)] (WdA D ad cy A g q M)) (va_Qv (fun u => u = f_X13_init M b) (WdN D ad cy A g (gF_X13_init g b) (b + 4) q) A) 4 936 A := by
  refine Met.ofW (cc := cX13_init) (maxL := 1) (ret := none) (by decide) rfl ?_
  intro p e s m args below meth c s₁ B hml hv
  obtain ⟨rfl, ⟨hP, hK, hD, hT, hG⟩, hA⟩ := hv
  have hx := B.exec
  have hb := B.bytes
  have hr := B.returns
  have hts := atoms_spec (ws := wsX13_init) B.pre
  have hown : s.vm.findClass RX13 = some m.cls := findClass_of_methodNamed B.named
  have hlocks := B.notSynchronized
  have hin : meth.name = "<init>" := (name_of_methodNamed B.named B.method).1
  have in13 : ∀ w ∈ u_ws RX13 TX13 29, w ∈ wsX13_init := fun w h => List.mem_cons_of_mem _ (List.mem_append_right _ h)
  have hS : va_S A s.heap s.heap [] := va_S.rf
  have hl := lv_entry ([.ref (ad b)]) (n := 1) (Nat.le_of_ble_eq_true rfl)
  rw [lg_entry_eq]
  generalize (lg_sl ([.ref (ad b)]) ++ List.replicate (1 - (lg_sl ([.ref (ad b)])).length) Slot.unset).toArray = ls at hl ⊢
  have hl : lv_has ls 1 [(0, .ref (ad b))] := hl
  have hold : ∀ y ∈ g.1, ad y = ad y := fun _ _ => rfl
  have hsub : ∀ y ∈ g.1, y ∈ g.1 := fun _ h => h
  refine lv_aload_n hx hb dX13_init_0 rfl (lv_at hl 0 rfl) ?_
  refine W.objInit hx hb hown (hts (.methodLink RX13 1 objectInit) (List.mem_of_getElem? (i := 1) (by decide +kernel))) (hts (.instanceMethod objectInit) (List.mem_of_getElem? (i := 2) (by decide +kernel))) (hts (.code objectInit ⟨#[0xb1]⟩ 1 none) (List.mem_of_getElem? (i := 3) (by decide +kernel))) rfl (by rw [hml]; exact hl.1) rfl dX13_init_1 (Nat.le_of_ble_eq_true rfl) (Nat.le_of_ble_eq_true rfl) ?_
  refine W.eq (g2 := F0 m 4 ls []) rfl ?_
  refine lv_aload_n hx hb dX13_init_4 rfl (lv_at hl 0 rfl) ?_
  refine lv_iconst (v := (-1)) hx hb dX13_init_5 rfl ?_
  refine r_putI (T := TX13) (ty := .int) (v := (-1)) hx hb hts in13 tyX13 tyX13_ok nmX13 hown hK hP hD hT hS k0 (by decide) rfl 2 (by decide) (hts (.fieldLink RX13 9 "StoneWalkModel" "where" "I") (List.mem_of_getElem? (i := 4) (by decide +kernel))) rfl rfl (tyX13_ok 2 (by decide)) rfl rfl rfl dX13_init_6 (fun H locs hP hD hT hS => ?_)
  refine lv_aload_n hx hb dX13_init_9 rfl (lv_at hl 0 rfl) ?_
  refine lv_sipush (v := 900) hx hb dX13_init_10 rfl ?_
  refine r_newa (atype := .byte) (o := b + 1) (kd := 14) (t0 := 0) (N' := 900) hx hb (hts (.arrayClass .byte) (List.mem_of_getElem? (i := 5) (by decide +kernel))) rfl htop rfl (by decide) rfl (fun cA h1 h2 => Option.some.inj (h1.symm.trans h2)) hP hK hD hT hS hA new_b (fun _ => arE_e (by decide)) (by decide) rfl (Nat.le_of_ble_eq_true rfl) (Nat.le_of_ble_eq_true rfl) (Nat.le_of_ble_eq_true rfl) (fun ad => [(0, .ref (ad b))]) hl (fun ad' hh => by simp only [hh _ k0.1]) (fun ad => [.ref (ad b)]) (fun ad' hh => by simp only [hh _ k0.1]) rfl dX13_init_13 (fun ad H hh hP hD hT hS hl => ?_)
  have k0 := k0.up1 (k := 14) (n := 900) htop rfl
  have htop := htop.nw1 (k := 14) (n := 900) (o := (b + 1)) rfl
  have k1 := ok.nwt htop
  have hold := fun (y : Nat) hy => (hh y (hsub y hy)).trans (hold y hy)
  have hsub := fun (y : Nat) hy => gN_sub (o := b + 1) (k := 14) (n := 900) (hsub y hy)
  refine r_putF (T := TX13) (v := b + 1) hx hb hts in13 tyX13 tyX13_ok nmX13 hown hK hP hD hT hS k0 (by decide) rfl 5 (by decide) (hts (.fieldLink RX13 13 "StoneWalkModel" "tape" "[B") (List.mem_of_getElem? (i := 6) (by decide +kernel))) rfl rfl hin rfl (tyX13_ok 5 (by decide)) rfl rfl rfl (fun t n ht => by cases ht; exact k1) rfl dX13_init_15 (fun H locs hP hD hT hS => ?_)
  have n0 := gR_s (M := (zM (pI M (b) 2 (-1)) (b + 1))) (a := b) (j := 5) (v := some (b + 1))
  refine lv_aload_n hx hb dX13_init_18 rfl (lv_at hl 0 rfl) ?_
  refine lv_iconst (v := (-1)) hx hb dX13_init_19 rfl ?_
  refine r_putI (T := TX13) (ty := .int) (v := (-1)) hx hb hts in13 tyX13 tyX13_ok nmX13 hown hK hP hD hT hS k0 (by decide) rfl 17 (by decide) (hts (.fieldLink RX13 17 "StoneWalkModel" "moved" "I") (List.mem_of_getElem? (i := 7) (by decide +kernel))) rfl rfl (tyX13_ok 17 (by decide)) rfl rfl rfl dX13_init_20 (fun H locs hP hD hT hS => ?_)
  refine lv_aload_n hx hb dX13_init_23 rfl (lv_at hl 0 rfl) ?_
  refine lv_bipush (v := 12) hx hb dX13_init_24 rfl ?_
  refine r_newa (atype := .int) (o := b + 2) (kd := 15) (t0 := 1) (N' := 12) hx hb (hts (.arrayClass .int) (List.mem_of_getElem? (i := 8) (by decide +kernel))) rfl htop rfl (by decide) rfl (fun cA h1 h2 => Option.some.inj (h1.symm.trans h2)) hP hK hD hT hS hA new_i (fun _ => arE_e (by decide)) (by decide) rfl (Nat.le_of_ble_eq_true rfl) (Nat.le_of_ble_eq_true rfl) (Nat.le_of_ble_eq_true rfl) (fun ad => [(0, .ref (ad b))]) hl (fun ad' hh => by simp only [hh _ k0.1]) (fun ad => [.ref (ad b)]) (fun ad' hh => by simp only [hh _ k0.1]) rfl dX13_init_26 (fun ad H hh hP hD hT hS hl => ?_)
  have k0 := k0.up1 (k := 15) (n := 12) htop rfl
  have htop := htop.nw1 (k := 15) (n := 12) (o := (b + 2)) rfl
  have k2 := ok.nwt htop
  have hold := fun (y : Nat) hy => (hh y (hsub y hy)).trans (hold y hy)
  have hsub := fun (y : Nat) hy => gN_sub (o := b + 2) (k := 15) (n := 12) (hsub y hy)
  refine r_putF (T := TX13) (v := b + 2) hx hb hts in13 tyX13 tyX13_ok nmX13 hown hK hP hD hT hS k0 (by decide) rfl 26 (by decide) (hts (.fieldLink RX13 20 "StoneWalkModel" "seenYear" "[I") (List.mem_of_getElem? (i := 9) (by decide +kernel))) rfl rfl hin rfl (tyX13_ok 26 (by decide)) rfl rfl rfl (fun t n ht => by cases ht; exact k2) rfl dX13_init_28 (fun H locs hP hD hT hS => ?_)
  have n0 := gR_s (M := (zM (pI (pR (zM (pI M (b) 2 (-1)) (b + 1)) (b) 5 (some (b + 1))) (b) 17 (-1)) (b + 2))) (a := b) (j := 26) (v := some (b + 2))
  refine lv_aload_n hx hb dX13_init_31 rfl (lv_at hl 0 rfl) ?_
  refine lv_bipush (v := 12) hx hb dX13_init_32 rfl ?_
  refine r_newa (atype := .int) (o := b + 3) (kd := 15) (t0 := 1) (N' := 12) hx hb (hts (.arrayClass .int) (List.mem_of_getElem? (i := 8) (by decide +kernel))) rfl htop rfl (by decide) rfl (fun cA h1 h2 => Option.some.inj (h1.symm.trans h2)) hP hK hD hT hS hA new_i (fun _ => arE_e (by decide)) (by decide) rfl (Nat.le_of_ble_eq_true rfl) (Nat.le_of_ble_eq_true rfl) (Nat.le_of_ble_eq_true rfl) (fun ad => [(0, .ref (ad b))]) hl (fun ad' hh => by simp only [hh _ k0.1]) (fun ad => [.ref (ad b)]) (fun ad' hh => by simp only [hh _ k0.1]) rfl dX13_init_34 (fun ad H hh hP hD hT hS hl => ?_)
  have k0 := k0.up1 (k := 15) (n := 12) htop rfl
  have htop := htop.nw1 (k := 15) (n := 12) (o := (b + 3)) rfl
  have k3 := ok.nwt htop
  have hold := fun (y : Nat) hy => (hh y (hsub y hy)).trans (hold y hy)
  have hsub := fun (y : Nat) hy => gN_sub (o := b + 3) (k := 15) (n := 12) (hsub y hy)
  refine r_putF (T := TX13) (v := b + 3) hx hb hts in13 tyX13 tyX13_ok nmX13 hown hK hP hD hT hS k0 (by decide) rfl 27 (by decide) (hts (.fieldLink RX13 24 "StoneWalkModel" "seenTrees" "[I") (List.mem_of_getElem? (i := 10) (by decide +kernel))) rfl rfl hin rfl (tyX13_ok 27 (by decide)) rfl rfl rfl (fun t n ht => by cases ht; exact k3) rfl dX13_init_36 (fun H locs hP hD hT hS => ?_)
  have n0 := gR_s (M := (zM (pR (zM (pI (pR (zM (pI M (b) 2 (-1)) (b + 1)) (b) 5 (some (b + 1))) (b) 17 (-1)) (b + 2)) (b) 26 (some (b + 2))) (b + 3))) (a := b) (j := 27) (v := some (b + 3))
  refine lv_aload_n hx hb dX13_init_39 rfl (lv_at hl 0 rfl) ?_
  refine lv_bipush (v := 12) hx hb dX13_init_40 rfl ?_
  refine r_newa (atype := .int) (o := b + 4) (kd := 15) (t0 := 1) (N' := 12) hx hb (hts (.arrayClass .int) (List.mem_of_getElem? (i := 8) (by decide +kernel))) rfl htop rfl (by decide) rfl (fun cA h1 h2 => Option.some.inj (h1.symm.trans h2)) hP hK hD hT hS hA new_i (fun _ => arE_e (by decide)) (by decide) rfl (Nat.le_of_ble_eq_true rfl) (Nat.le_of_ble_eq_true rfl) (Nat.le_of_ble_eq_true rfl) (fun ad => [(0, .ref (ad b))]) hl (fun ad' hh => by simp only [hh _ k0.1]) (fun ad => [.ref (ad b)]) (fun ad' hh => by simp only [hh _ k0.1]) rfl dX13_init_42 (fun ad H hh hP hD hT hS hl => ?_)
  have k0 := k0.up1 (k := 15) (n := 12) htop rfl
  have htop := htop.nw1 (k := 15) (n := 12) (o := (b + 4)) rfl
  have k4 := ok.nwt htop
  have hold := fun (y : Nat) hy => (hh y (hsub y hy)).trans (hold y hy)
  have hsub := fun (y : Nat) hy => gN_sub (o := b + 4) (k := 15) (n := 12) (hsub y hy)
  refine r_putF (T := TX13) (v := b + 4) hx hb hts in13 tyX13 tyX13_ok nmX13 hown hK hP hD hT hS k0 (by decide) rfl 28 (by decide) (hts (.fieldLink RX13 27 "StoneWalkModel" "seenOff" "[I") (List.mem_of_getElem? (i := 11) (by decide +kernel))) rfl rfl hin rfl (tyX13_ok 28 (by decide)) rfl rfl rfl (fun t n ht => by cases ht; exact k4) rfl dX13_init_44 (fun H locs hP hD hT hS => ?_)
  have n0 := gR_s (M := (zM (pR (zM (pR (zM (pI (pR (zM (pI M (b) 2 (-1)) (b + 1)) (b) 5 (some (b + 1))) (b) 17 (-1)) (b + 2)) (b) 26 (some (b + 2))) (b + 3)) (b) 27 (some (b + 3))) (b + 4))) (a := b) (j := 28) (v := some (b + 4))
  refine W.widen (k := 4) (n := 936) (Nat.le_of_ble_eq_true rfl) (Nat.le_of_ble_eq_true rfl) ?_
  exact r_nret hx hb hr hlocks hP hK hD hT hG hS hold htop rfl rfl dX13_init_47
