theorem hdI_X12_init : yX12_init.cls ≠ "java/lang/invoke/MethodHandle" ∧ yX12_init.cls ≠ "java/lang/invoke/VarHandle" ∧ (parseMethodDescriptor yX12_init.desc).map (fun d => d.parameters.length) = some 0 := by decide +kernel
theorem ok_X12_init {g : CG} {b y kd z : Nat} (htop : topA g b) (h : ok g y kd z) : ok (gF_X12_init g b) y kd z ∧ topA (gF_X12_init g b) (b + 31) := by
  have h := h.up1 (k := 15) (n := 4) (o := b + 1) htop rfl
  have htop := htop.nw1 (k := 15) (n := 4) (o := b + 1) rfl
  have h := h.up1 (k := 15) (n := 4) (o := b + 2) htop rfl
  have htop := htop.nw1 (k := 15) (n := 4) (o := b + 2) rfl
  have h := h.up1 (k := 15) (n := 4) (o := b + 3) htop rfl
  have htop := htop.nw1 (k := 15) (n := 4) (o := b + 3) rfl
  have h := h.up1 (k := 15) (n := 3) (o := b + 4) htop rfl
  have htop := htop.nw1 (k := 15) (n := 3) (o := b + 4) rfl
  have h := h.up1 (k := 15) (n := 3) (o := b + 5) htop rfl
  have htop := htop.nw1 (k := 15) (n := 3) (o := b + 5) rfl
  have h := h.up1 (k := 15) (n := 18) (o := b + 6) htop rfl
  have htop := htop.nw1 (k := 15) (n := 18) (o := b + 6) rfl
  have h := h.up1 (k := 15) (n := 10) (o := b + 7) htop rfl
  have htop := htop.nw1 (k := 15) (n := 10) (o := b + 7) rfl
  have h := h.up1 (k := 15) (n := 10) (o := b + 8) htop rfl
  have htop := htop.nw1 (k := 15) (n := 10) (o := b + 8) rfl
  have h := h.up1 (k := 15) (n := 10) (o := b + 9) htop rfl
  have htop := htop.nw1 (k := 15) (n := 10) (o := b + 9) rfl
  have h := h.up1 (k := 15) (n := 10) (o := b + 10) htop rfl
  have htop := htop.nw1 (k := 15) (n := 10) (o := b + 10) rfl
  have h := h.up1 (k := 15) (n := 10) (o := b + 11) htop rfl
  have htop := htop.nw1 (k := 15) (n := 10) (o := b + 11) rfl
  have h := h.up1 (k := 15) (n := 10) (o := b + 12) htop rfl
  have htop := htop.nw1 (k := 15) (n := 10) (o := b + 12) rfl
  have h := h.up1 (k := 15) (n := 10) (o := b + 13) htop rfl
  have htop := htop.nw1 (k := 15) (n := 10) (o := b + 13) rfl
  have h := h.up1 (k := 15) (n := 5) (o := b + 14) htop rfl
  have htop := htop.nw1 (k := 15) (n := 5) (o := b + 14) rfl
  have h := h.up1 (k := 15) (n := 5) (o := b + 15) htop rfl
  have htop := htop.nw1 (k := 15) (n := 5) (o := b + 15) rfl
  have h := h.up1 (k := 15) (n := 5) (o := b + 16) htop rfl
  have htop := htop.nw1 (k := 15) (n := 5) (o := b + 16) rfl
  have h := h.up1 (k := 15) (n := 5) (o := b + 17) htop rfl
  have htop := htop.nw1 (k := 15) (n := 5) (o := b + 17) rfl
  have h := h.up1 (k := 15) (n := 5) (o := b + 18) htop rfl
  have htop := htop.nw1 (k := 15) (n := 5) (o := b + 18) rfl
  have h := h.up1 (k := 15) (n := 5) (o := b + 19) htop rfl
  have htop := htop.nw1 (k := 15) (n := 5) (o := b + 19) rfl
  have h := h.up1 (k := 15) (n := 5) (o := b + 20) htop rfl
  have htop := htop.nw1 (k := 15) (n := 5) (o := b + 20) rfl
  have h := h.up1 (k := 15) (n := 5) (o := b + 21) htop rfl
  have htop := htop.nw1 (k := 15) (n := 5) (o := b + 21) rfl
  have h := h.up1 (k := 15) (n := 5) (o := b + 22) htop rfl
  have htop := htop.nw1 (k := 15) (n := 5) (o := b + 22) rfl
  have h := h.up1 (k := 15) (n := 3) (o := b + 23) htop rfl
  have htop := htop.nw1 (k := 15) (n := 3) (o := b + 23) rfl
  have h := h.up1 (k := 15) (n := 5) (o := b + 24) htop rfl
  have htop := htop.nw1 (k := 15) (n := 5) (o := b + 24) rfl
  have h := h.up1 (k := 15) (n := 5) (o := b + 25) htop rfl
  have htop := htop.nw1 (k := 15) (n := 5) (o := b + 25) rfl
  have h := h.up1 (k := 15) (n := 5) (o := b + 26) htop rfl
  have htop := htop.nw1 (k := 15) (n := 5) (o := b + 26) rfl
  have h := h.up1 (k := 15) (n := 5) (o := b + 27) htop rfl
  have htop := htop.nw1 (k := 15) (n := 5) (o := b + 27) rfl
  have h := h.up1 (k := 17) (n := 3) (o := b + 28) htop rfl
  have htop := htop.nw1 (k := 17) (n := 3) (o := b + 28) rfl
  have h := h.up1 (k := 16) (n := 35) (o := b + 29) htop rfl
  have htop := htop.nw1 (k := 16) (n := 35) (o := b + 29) rfl
  have h := h.up1 (k := 15) (n := 35) (o := b + 30) htop rfl
  have htop := htop.nw1 (k := 15) (n := 35) (o := b + 30) rfl
  have h := h.up1 (k := 15) (n := 35) (o := b + 31) htop rfl
  have htop := htop.nw1 (k := 15) (n := 35) (o := b + 31) rfl
  exact ⟨h, htop⟩
theorem sub_X12_init {g : CG} {b y : Nat} (h : y ∈ g.1) : y ∈ (gF_X12_init g b).1 := by
  have h := gN_sub (o := b + 1) (k := 15) (n := 4) h
  have h := gN_sub (o := b + 2) (k := 15) (n := 4) h
  have h := gN_sub (o := b + 3) (k := 15) (n := 4) h
  have h := gN_sub (o := b + 4) (k := 15) (n := 3) h
  have h := gN_sub (o := b + 5) (k := 15) (n := 3) h
  have h := gN_sub (o := b + 6) (k := 15) (n := 18) h
  have h := gN_sub (o := b + 7) (k := 15) (n := 10) h
  have h := gN_sub (o := b + 8) (k := 15) (n := 10) h
  have h := gN_sub (o := b + 9) (k := 15) (n := 10) h
  have h := gN_sub (o := b + 10) (k := 15) (n := 10) h
  have h := gN_sub (o := b + 11) (k := 15) (n := 10) h
  have h := gN_sub (o := b + 12) (k := 15) (n := 10) h
  have h := gN_sub (o := b + 13) (k := 15) (n := 10) h
  have h := gN_sub (o := b + 14) (k := 15) (n := 5) h
  have h := gN_sub (o := b + 15) (k := 15) (n := 5) h
  have h := gN_sub (o := b + 16) (k := 15) (n := 5) h
  have h := gN_sub (o := b + 17) (k := 15) (n := 5) h
  have h := gN_sub (o := b + 18) (k := 15) (n := 5) h
  have h := gN_sub (o := b + 19) (k := 15) (n := 5) h
  have h := gN_sub (o := b + 20) (k := 15) (n := 5) h
  have h := gN_sub (o := b + 21) (k := 15) (n := 5) h
  have h := gN_sub (o := b + 22) (k := 15) (n := 5) h
  have h := gN_sub (o := b + 23) (k := 15) (n := 3) h
  have h := gN_sub (o := b + 24) (k := 15) (n := 5) h
  have h := gN_sub (o := b + 25) (k := 15) (n := 5) h
  have h := gN_sub (o := b + 26) (k := 15) (n := 5) h
  have h := gN_sub (o := b + 27) (k := 15) (n := 5) h
  have h := gN_sub (o := b + 28) (k := 17) (n := 3) h
  have h := gN_sub (o := b + 29) (k := 16) (n := 35) h
  have h := gN_sub (o := b + 30) (k := 15) (n := 35) h
  have h := gN_sub (o := b + 31) (k := 15) (n := 35) h
  exact h
theorem gR_X12_init {M : MM} {b y k : Nat} (h : y < b) : gR (f_X12_init M b) y k = gR M y k := by
  unfold f_X12_init
  refine (gR_p (by omega)).trans ?_
  refine (gR_z (by omega)).trans ?_
  refine (gR_p (by omega)).trans ?_
  refine (gR_z (by omega)).trans ?_
  refine (gR_p (by omega)).trans ?_
  refine (gR_z (by omega)).trans ?_
  refine (gR_p (by omega)).trans ?_
  refine (gR_z (by omega)).trans ?_
  refine (gR_p (by omega)).trans ?_
  refine (gR_z (by omega)).trans ?_
  refine (gR_p (by omega)).trans ?_
  refine (gR_z (by omega)).trans ?_
  refine (gR_p (by omega)).trans ?_
  refine (gR_z (by omega)).trans ?_
  refine (gR_p (by omega)).trans ?_
  refine (gR_z (by omega)).trans ?_
  refine (gR_p (by omega)).trans ?_
  refine (gR_z (by omega)).trans ?_
  refine (gR_p (by omega)).trans ?_
  refine (gR_z (by omega)).trans ?_
  refine (gR_p (by omega)).trans ?_
  refine (gR_z (by omega)).trans ?_
  refine (gR_p (by omega)).trans ?_
  refine (gR_z (by omega)).trans ?_
  refine (gR_p (by omega)).trans ?_
  refine (gR_z (by omega)).trans ?_
  refine Eq.trans (b := gR _ y k) rfl ?_
  refine Eq.trans (b := gR _ y k) rfl ?_
  refine Eq.trans (b := gR _ y k) rfl ?_
  refine (gR_p (by omega)).trans ?_
  refine (gR_z (by omega)).trans ?_
  refine (gR_p (by omega)).trans ?_
  refine (gR_z (by omega)).trans ?_
  refine (gR_p (by omega)).trans ?_
  refine (gR_z (by omega)).trans ?_
  refine (gR_p (by omega)).trans ?_
  refine (gR_z (by omega)).trans ?_
  refine (gR_p (by omega)).trans ?_
  refine (gR_z (by omega)).trans ?_
  refine (gR_p (by omega)).trans ?_
  refine (gR_z (by omega)).trans ?_
  refine (gR_p (by omega)).trans ?_
  refine (gR_z (by omega)).trans ?_
  refine (gR_p (by omega)).trans ?_
  refine (gR_z (by omega)).trans ?_
  refine (gR_p (by omega)).trans ?_
  refine (gR_z (by omega)).trans ?_
  refine (gR_p (by omega)).trans ?_
  refine (gR_z (by omega)).trans ?_
  refine (gR_p (by omega)).trans ?_
  refine (gR_z (by omega)).trans ?_
  refine (gR_p (by omega)).trans ?_
  refine (gR_z (by omega)).trans ?_
  refine (gR_p (by omega)).trans ?_
  refine (gR_z (by omega)).trans ?_
  refine (gR_p (by omega)).trans ?_
  refine (gR_z (by omega)).trans ?_
  refine (gR_p (by omega)).trans ?_
  refine (gR_z (by omega)).trans ?_
  refine (gR_p (by omega)).trans ?_
  refine (gR_z (by omega)).trans ?_
  refine (gR_p (by omega)).trans ?_
  refine (gR_z (by omega)).trans ?_
  refine (gR_p (by omega)).trans ?_
  refine (gR_z (by omega)).trans ?_
  rfl
set_option maxHeartbeats 8000000 in
set_option maxRecDepth 100000 in
theorem c_X12_init {l : Launch} {D : va_G} {ad : Nat → Nat} {cy : Nat → ClassId} {A : Nat → Prop} {g : CG} {q : SE} (M : MM) (b : Nat) (k0 : ok g b 12 0) (htop : topA g b) : Met l yX12_init wsX12_init ({ frames := 1, cells := 31, slots := 282, locals := 12 }) (va_Pc [.ref (ad b)] (WdA D ad cy A g q M)) (va_Qv (fun u => u = f_X12_init M b) (WdN D ad cy A g (gF_X12_init g b) (b + 31) q) A) 31 282 A := by
  refine Met.ofW (cc := cX12_init) (maxL := 1) (ret := none) (by decide) rfl ?_
  intro p e s m args below meth c s₁ B hml hv
  obtain ⟨rfl, ⟨hP, hK, hD, hT, hG⟩, hA⟩ := hv
  have hx := B.exec
  have hb := B.bytes
  have hr := B.returns
  have hts := atoms_spec (ws := wsX12_init) B.pre
  have hown : s.vm.findClass RX12 = some m.cls := findClass_of_methodNamed B.named
  have hlocks := B.notSynchronized
  have hin : meth.name = "<init>" := (name_of_methodNamed B.named B.method).1
  have in12 : ∀ w ∈ u_ws RX12 TX12 48, w ∈ wsX12_init := fun w h => List.mem_cons_of_mem _ (List.mem_append_right _ h)
  have hS : va_S A s.heap s.heap [] := va_S.rf
  have hl := lv_entry ([.ref (ad b)]) (n := 1) (Nat.le_of_ble_eq_true rfl)
  rw [lg_entry_eq]
  generalize (lg_sl ([.ref (ad b)]) ++ List.replicate (1 - (lg_sl ([.ref (ad b)])).length) Slot.unset).toArray = ls at hl ⊢
  have hl : lv_has ls 1 [(0, .ref (ad b))] := hl
  have hold : ∀ y ∈ g.1, ad y = ad y := fun _ _ => rfl
  have hsub : ∀ y ∈ g.1, y ∈ g.1 := fun _ h => h
  refine lv_aload_n hx hb dX12_init_0 rfl (lv_at hl 0 rfl) ?_
  refine W.objInit hx hb hown (hts (.methodLink RX12 3 objectInit) (List.mem_of_getElem? (i := 1) (by decide +kernel))) (hts (.instanceMethod objectInit) (List.mem_of_getElem? (i := 2) (by decide +kernel))) (hts (.code objectInit ⟨#[0xb1]⟩ 1 none) (List.mem_of_getElem? (i := 3) (by decide +kernel))) rfl (by rw [hml]; exact hl.1) rfl dX12_init_1 (Nat.le_of_ble_eq_true rfl) (Nat.le_of_ble_eq_true rfl) ?_
  refine W.eq (g2 := F0 m 4 ls []) rfl ?_
  refine lv_aload_n hx hb dX12_init_4 rfl (lv_at hl 0 rfl) ?_
  refine lv_iconst (v := 4) hx hb dX12_init_5 rfl ?_
  refine r_newa (atype := .int) (o := b + 1) (kd := 15) (t0 := 1) (N' := 4) hx hb (hts (.arrayClass .int) (List.mem_of_getElem? (i := 4) (by decide +kernel))) rfl htop rfl (by decide) rfl (fun cA h1 h2 => Option.some.inj (h1.symm.trans h2)) hP hK hD hT hS hA new_i (fun _ => arE_e (by decide)) (by decide) rfl (Nat.le_of_ble_eq_true rfl) (Nat.le_of_ble_eq_true rfl) (Nat.le_of_ble_eq_true rfl) (fun ad => [(0, .ref (ad b))]) hl (fun ad' hh => by simp only [hh _ k0.1]) (fun ad => [.ref (ad b)]) (fun ad' hh => by simp only [hh _ k0.1]) rfl dX12_init_6 (fun ad H hh hP hD hT hS hl => ?_)
  have k0 := k0.up1 (k := 15) (n := 4) htop rfl
  have htop := htop.nw1 (k := 15) (n := 4) (o := (b + 1)) rfl
  have k1 := ok.nwt htop
  have hold := fun (y : Nat) hy => (hh y (hsub y hy)).trans (hold y hy)
  have hsub := fun (y : Nat) hy => gN_sub (o := b + 1) (k := 15) (n := 4) (hsub y hy)
  refine r_putF (T := TX12) (v := b + 1) hx hb hts in12 tyX12 tyX12_ok nmX12 hown hK hP hD hT hS k0 (by decide) rfl 9 (by decide) (hts (.fieldLink RX12 9 "StoneWalkModel$Island" "kind" "[I") (List.mem_of_getElem? (i := 5) (by decide +kernel))) rfl rfl hin rfl (tyX12_ok 9 (by decide)) rfl rfl rfl (fun t n ht => by cases ht; exact k1) rfl dX12_init_8 (fun H locs hP hD hT hS => ?_)
  have n0 := gR_s (M := (zM M (b + 1))) (a := b) (j := 9) (v := some (b + 1))
  refine lv_aload_n hx hb dX12_init_11 rfl (lv_at hl 0 rfl) ?_
  refine lv_iconst (v := 4) hx hb dX12_init_12 rfl ?_
  refine r_newa (atype := .int) (o := b + 2) (kd := 15) (t0 := 1) (N' := 4) hx hb (hts (.arrayClass .int) (List.mem_of_getElem? (i := 4) (by decide +kernel))) rfl htop rfl (by decide) rfl (fun cA h1 h2 => Option.some.inj (h1.symm.trans h2)) hP hK hD hT hS hA new_i (fun _ => arE_e (by decide)) (by decide) rfl (Nat.le_of_ble_eq_true rfl) (Nat.le_of_ble_eq_true rfl) (Nat.le_of_ble_eq_true rfl) (fun ad => [(0, .ref (ad b))]) hl (fun ad' hh => by simp only [hh _ k0.1]) (fun ad => [.ref (ad b)]) (fun ad' hh => by simp only [hh _ k0.1]) rfl dX12_init_13 (fun ad H hh hP hD hT hS hl => ?_)
  have k0 := k0.up1 (k := 15) (n := 4) htop rfl
  have htop := htop.nw1 (k := 15) (n := 4) (o := (b + 2)) rfl
  have k2 := ok.nwt htop
  have hold := fun (y : Nat) hy => (hh y (hsub y hy)).trans (hold y hy)
  have hsub := fun (y : Nat) hy => gN_sub (o := b + 2) (k := 15) (n := 4) (hsub y hy)
  refine r_putF (T := TX12) (v := b + 2) hx hb hts in12 tyX12 tyX12_ok nmX12 hown hK hP hD hT hS k0 (by decide) rfl 10 (by decide) (hts (.fieldLink RX12 15 "StoneWalkModel$Island" "weighs" "[I") (List.mem_of_getElem? (i := 6) (by decide +kernel))) rfl rfl hin rfl (tyX12_ok 10 (by decide)) rfl rfl rfl (fun t n ht => by cases ht; exact k2) rfl dX12_init_15 (fun H locs hP hD hT hS => ?_)
  have n0 := gR_s (M := (zM (pR (zM M (b + 1)) (b) 9 (some (b + 1))) (b + 2))) (a := b) (j := 10) (v := some (b + 2))
  refine lv_aload_n hx hb dX12_init_18 rfl (lv_at hl 0 rfl) ?_
  refine lv_iconst (v := 4) hx hb dX12_init_19 rfl ?_
  refine r_newa (atype := .int) (o := b + 3) (kd := 15) (t0 := 1) (N' := 4) hx hb (hts (.arrayClass .int) (List.mem_of_getElem? (i := 4) (by decide +kernel))) rfl htop rfl (by decide) rfl (fun cA h1 h2 => Option.some.inj (h1.symm.trans h2)) hP hK hD hT hS hA new_i (fun _ => arE_e (by decide)) (by decide) rfl (Nat.le_of_ble_eq_true rfl) (Nat.le_of_ble_eq_true rfl) (Nat.le_of_ble_eq_true rfl) (fun ad => [(0, .ref (ad b))]) hl (fun ad' hh => by simp only [hh _ k0.1]) (fun ad => [.ref (ad b)]) (fun ad' hh => by simp only [hh _ k0.1]) rfl dX12_init_20 (fun ad H hh hP hD hT hS hl => ?_)
  have k0 := k0.up1 (k := 15) (n := 4) htop rfl
  have htop := htop.nw1 (k := 15) (n := 4) (o := (b + 3)) rfl
  have k3 := ok.nwt htop
  have hold := fun (y : Nat) hy => (hh y (hsub y hy)).trans (hold y hy)
  have hsub := fun (y : Nat) hy => gN_sub (o := b + 3) (k := 15) (n := 4) (hsub y hy)
  refine r_putF (T := TX12) (v := b + 3) hx hb hts in12 tyX12 tyX12_ok nmX12 hown hK hP hD hT hS k0 (by decide) rfl 11 (by decide) (hts (.fieldLink RX12 18 "StoneWalkModel$Island" "pull" "[I") (List.mem_of_getElem? (i := 7) (by decide +kernel))) rfl rfl hin rfl (tyX12_ok 11 (by decide)) rfl rfl rfl (fun t n ht => by cases ht; exact k3) rfl dX12_init_22 (fun H locs hP hD hT hS => ?_)
  have n0 := gR_s (M := (zM (pR (zM (pR (zM M (b + 1)) (b) 9 (some (b + 1))) (b + 2)) (b) 10 (some (b + 2))) (b + 3))) (a := b) (j := 11) (v := some (b + 3))
  refine lv_aload_n hx hb dX12_init_25 rfl (lv_at hl 0 rfl) ?_
  refine lv_iconst (v := 3) hx hb dX12_init_26 rfl ?_
  refine r_newa (atype := .int) (o := b + 4) (kd := 15) (t0 := 1) (N' := 3) hx hb (hts (.arrayClass .int) (List.mem_of_getElem? (i := 4) (by decide +kernel))) rfl htop rfl (by decide) rfl (fun cA h1 h2 => Option.some.inj (h1.symm.trans h2)) hP hK hD hT hS hA new_i (fun _ => arE_e (by decide)) (by decide) rfl (Nat.le_of_ble_eq_true rfl) (Nat.le_of_ble_eq_true rfl) (Nat.le_of_ble_eq_true rfl) (fun ad => [(0, .ref (ad b))]) hl (fun ad' hh => by simp only [hh _ k0.1]) (fun ad => [.ref (ad b)]) (fun ad' hh => by simp only [hh _ k0.1]) rfl dX12_init_27 (fun ad H hh hP hD hT hS hl => ?_)
  have k0 := k0.up1 (k := 15) (n := 3) htop rfl
  have htop := htop.nw1 (k := 15) (n := 3) (o := (b + 4)) rfl
  have k4 := ok.nwt htop
  have hold := fun (y : Nat) hy => (hh y (hsub y hy)).trans (hold y hy)
  have hsub := fun (y : Nat) hy => gN_sub (o := b + 4) (k := 15) (n := 3) (hsub y hy)
  refine r_putF (T := TX12) (v := b + 4) hx hb hts in12 tyX12 tyX12_ok nmX12 hown hK hP hD hT hS k0 (by decide) rfl 12 (by decide) (hts (.fieldLink RX12 21 "StoneWalkModel$Island" "hollow" "[I") (List.mem_of_getElem? (i := 8) (by decide +kernel))) rfl rfl hin rfl (tyX12_ok 12 (by decide)) rfl rfl rfl (fun t n ht => by cases ht; exact k4) rfl dX12_init_29 (fun H locs hP hD hT hS => ?_)
  have n0 := gR_s (M := (zM (pR (zM (pR (zM (pR (zM M (b + 1)) (b) 9 (some (b + 1))) (b + 2)) (b) 10 (some (b + 2))) (b + 3)) (b) 11 (some (b + 3))) (b + 4))) (a := b) (j := 12) (v := some (b + 4))
  refine lv_aload_n hx hb dX12_init_32 rfl (lv_at hl 0 rfl) ?_
  refine lv_iconst (v := 3) hx hb dX12_init_33 rfl ?_
  refine r_newa (atype := .int) (o := b + 5) (kd := 15) (t0 := 1) (N' := 3) hx hb (hts (.arrayClass .int) (List.mem_of_getElem? (i := 4) (by decide +kernel))) rfl htop rfl (by decide) rfl (fun cA h1 h2 => Option.some.inj (h1.symm.trans h2)) hP hK hD hT hS hA new_i (fun _ => arE_e (by decide)) (by decide) rfl (Nat.le_of_ble_eq_true rfl) (Nat.le_of_ble_eq_true rfl) (Nat.le_of_ble_eq_true rfl) (fun ad => [(0, .ref (ad b))]) hl (fun ad' hh => by simp only [hh _ k0.1]) (fun ad => [.ref (ad b)]) (fun ad' hh => by simp only [hh _ k0.1]) rfl dX12_init_34 (fun ad H hh hP hD hT hS hl => ?_)
  have k0 := k0.up1 (k := 15) (n := 3) htop rfl
  have htop := htop.nw1 (k := 15) (n := 3) (o := (b + 5)) rfl
  have k5 := ok.nwt htop
  have hold := fun (y : Nat) hy => (hh y (hsub y hy)).trans (hold y hy)
  have hsub := fun (y : Nat) hy => gN_sub (o := b + 5) (k := 15) (n := 3) (hsub y hy)
  refine r_putF (T := TX12) (v := b + 5) hx hb hts in12 tyX12 tyX12_ok nmX12 hown hK hP hD hT hS k0 (by decide) rfl 13 (by decide) (hts (.fieldLink RX12 24 "StoneWalkModel$Island" "slopes" "[I") (List.mem_of_getElem? (i := 9) (by decide +kernel))) rfl rfl hin rfl (tyX12_ok 13 (by decide)) rfl rfl rfl (fun t n ht => by cases ht; exact k5) rfl dX12_init_36 (fun H locs hP hD hT hS => ?_)
  have n0 := gR_s (M := (zM (pR (zM (pR (zM (pR (zM (pR (zM M (b + 1)) (b) 9 (some (b + 1))) (b + 2)) (b) 10 (some (b + 2))) (b + 3)) (b) 11 (some (b + 3))) (b + 4)) (b) 12 (some (b + 4))) (b + 5))) (a := b) (j := 13) (v := some (b + 5))
  refine lv_aload_n hx hb dX12_init_39 rfl (lv_at hl 0 rfl) ?_
  refine lv_bipush (v := 18) hx hb dX12_init_40 rfl ?_
  refine r_newa (atype := .int) (o := b + 6) (kd := 15) (t0 := 1) (N' := 18) hx hb (hts (.arrayClass .int) (List.mem_of_getElem? (i := 4) (by decide +kernel))) rfl htop rfl (by decide) rfl (fun cA h1 h2 => Option.some.inj (h1.symm.trans h2)) hP hK hD hT hS hA new_i (fun _ => arE_e (by decide)) (by decide) rfl (Nat.le_of_ble_eq_true rfl) (Nat.le_of_ble_eq_true rfl) (Nat.le_of_ble_eq_true rfl) (fun ad => [(0, .ref (ad b))]) hl (fun ad' hh => by simp only [hh _ k0.1]) (fun ad => [.ref (ad b)]) (fun ad' hh => by simp only [hh _ k0.1]) rfl dX12_init_42 (fun ad H hh hP hD hT hS hl => ?_)
  have k0 := k0.up1 (k := 15) (n := 18) htop rfl
  have htop := htop.nw1 (k := 15) (n := 18) (o := (b + 6)) rfl
  have k6 := ok.nwt htop
  have hold := fun (y : Nat) hy => (hh y (hsub y hy)).trans (hold y hy)
  have hsub := fun (y : Nat) hy => gN_sub (o := b + 6) (k := 15) (n := 18) (hsub y hy)
  refine r_putF (T := TX12) (v := b + 6) hx hb hts in12 tyX12 tyX12_ok nmX12 hown hK hP hD hT hS k0 (by decide) rfl 14 (by decide) (hts (.fieldLink RX12 27 "StoneWalkModel$Island" "slope" "[I") (List.mem_of_getElem? (i := 10) (by decide +kernel))) rfl rfl hin rfl (tyX12_ok 14 (by decide)) rfl rfl rfl (fun t n ht => by cases ht; exact k6) rfl dX12_init_44 (fun H locs hP hD hT hS => ?_)
  have n0 := gR_s (M := (zM (pR (zM (pR (zM (pR (zM (pR (zM (pR (zM M (b + 1)) (b) 9 (some (b + 1))) (b + 2)) (b) 10 (some (b + 2))) (b + 3)) (b) 11 (some (b + 3))) (b + 4)) (b) 12 (some (b + 4))) (b + 5)) (b) 13 (some (b + 5))) (b + 6))) (a := b) (j := 14) (v := some (b + 6))
  refine lv_aload_n hx hb dX12_init_47 rfl (lv_at hl 0 rfl) ?_
  refine lv_bipush (v := 10) hx hb dX12_init_48 rfl ?_
  refine r_newa (atype := .int) (o := b + 7) (kd := 15) (t0 := 1) (N' := 10) hx hb (hts (.arrayClass .int) (List.mem_of_getElem? (i := 4) (by decide +kernel))) rfl htop rfl (by decide) rfl (fun cA h1 h2 => Option.some.inj (h1.symm.trans h2)) hP hK hD hT hS hA new_i (fun _ => arE_e (by decide)) (by decide) rfl (Nat.le_of_ble_eq_true rfl) (Nat.le_of_ble_eq_true rfl) (Nat.le_of_ble_eq_true rfl) (fun ad => [(0, .ref (ad b))]) hl (fun ad' hh => by simp only [hh _ k0.1]) (fun ad => [.ref (ad b)]) (fun ad' hh => by simp only [hh _ k0.1]) rfl dX12_init_50 (fun ad H hh hP hD hT hS hl => ?_)
  have k0 := k0.up1 (k := 15) (n := 10) htop rfl
  have htop := htop.nw1 (k := 15) (n := 10) (o := (b + 7)) rfl
  have k7 := ok.nwt htop
  have hold := fun (y : Nat) hy => (hh y (hsub y hy)).trans (hold y hy)
  have hsub := fun (y : Nat) hy => gN_sub (o := b + 7) (k := 15) (n := 10) (hsub y hy)
  refine r_putF (T := TX12) (v := b + 7) hx hb hts in12 tyX12 tyX12_ok nmX12 hown hK hP hD hT hS k0 (by decide) rfl 15 (by decide) (hts (.fieldLink RX12 30 "StoneWalkModel$Island" "tons" "[I") (List.mem_of_getElem? (i := 11) (by decide +kernel))) rfl rfl hin rfl (tyX12_ok 15 (by decide)) rfl rfl rfl (fun t n ht => by cases ht; exact k7) rfl dX12_init_52 (fun H locs hP hD hT hS => ?_)
  have n0 := gR_s (M := (zM (pR (zM (pR (zM (pR (zM (pR (zM (pR (zM (pR (zM M (b + 1)) (b) 9 (some (b + 1))) (b + 2)) (b) 10 (some (b + 2))) (b + 3)) (b) 11 (some (b + 3))) (b + 4)) (b) 12 (some (b + 4))) (b + 5)) (b) 13 (some (b + 5))) (b + 6)) (b) 14 (some (b + 6))) (b + 7))) (a := b) (j := 15) (v := some (b + 7))
  refine lv_aload_n hx hb dX12_init_55 rfl (lv_at hl 0 rfl) ?_
  refine lv_bipush (v := 10) hx hb dX12_init_56 rfl ?_
  refine r_newa (atype := .int) (o := b + 8) (kd := 15) (t0 := 1) (N' := 10) hx hb (hts (.arrayClass .int) (List.mem_of_getElem? (i := 4) (by decide +kernel))) rfl htop rfl (by decide) rfl (fun cA h1 h2 => Option.some.inj (h1.symm.trans h2)) hP hK hD hT hS hA new_i (fun _ => arE_e (by decide)) (by decide) rfl (Nat.le_of_ble_eq_true rfl) (Nat.le_of_ble_eq_true rfl) (Nat.le_of_ble_eq_true rfl) (fun ad => [(0, .ref (ad b))]) hl (fun ad' hh => by simp only [hh _ k0.1]) (fun ad => [.ref (ad b)]) (fun ad' hh => by simp only [hh _ k0.1]) rfl dX12_init_58 (fun ad H hh hP hD hT hS hl => ?_)
  have k0 := k0.up1 (k := 15) (n := 10) htop rfl
  have htop := htop.nw1 (k := 15) (n := 10) (o := (b + 8)) rfl
  have k8 := ok.nwt htop
  have hold := fun (y : Nat) hy => (hh y (hsub y hy)).trans (hold y hy)
  have hsub := fun (y : Nat) hy => gN_sub (o := b + 8) (k := 15) (n := 10) (hsub y hy)
  refine r_putF (T := TX12) (v := b + 8) hx hb hts in12 tyX12 tyX12_ok nmX12 hown hK hP hD hT hS k0 (by decide) rfl 16 (by decide) (hts (.fieldLink RX12 33 "StoneWalkModel$Island" "lean" "[I") (List.mem_of_getElem? (i := 12) (by decide +kernel))) rfl rfl hin rfl (tyX12_ok 16 (by decide)) rfl rfl rfl (fun t n ht => by cases ht; exact k8) rfl dX12_init_60 (fun H locs hP hD hT hS => ?_)
  have n0 := gR_s (M := (zM (pR (zM (pR (zM (pR (zM (pR (zM (pR (zM (pR (zM (pR (zM M (b + 1)) (b) 9 (some (b + 1))) (b + 2)) (b) 10 (some (b + 2))) (b + 3)) (b) 11 (some (b + 3))) (b + 4)) (b) 12 (some (b + 4))) (b + 5)) (b) 13 (some (b + 5))) (b + 6)) (b) 14 (some (b + 6))) (b + 7)) (b) 15 (some (b + 7))) (b + 8))) (a := b) (j := 16) (v := some (b + 8))
  refine lv_aload_n hx hb dX12_init_63 rfl (lv_at hl 0 rfl) ?_
  refine lv_bipush (v := 10) hx hb dX12_init_64 rfl ?_
  refine r_newa (atype := .int) (o := b + 9) (kd := 15) (t0 := 1) (N' := 10) hx hb (hts (.arrayClass .int) (List.mem_of_getElem? (i := 4) (by decide +kernel))) rfl htop rfl (by decide) rfl (fun cA h1 h2 => Option.some.inj (h1.symm.trans h2)) hP hK hD hT hS hA new_i (fun _ => arE_e (by decide)) (by decide) rfl (Nat.le_of_ble_eq_true rfl) (Nat.le_of_ble_eq_true rfl) (Nat.le_of_ble_eq_true rfl) (fun ad => [(0, .ref (ad b))]) hl (fun ad' hh => by simp only [hh _ k0.1]) (fun ad => [.ref (ad b)]) (fun ad' hh => by simp only [hh _ k0.1]) rfl dX12_init_66 (fun ad H hh hP hD hT hS hl => ?_)
  have k0 := k0.up1 (k := 15) (n := 10) htop rfl
  have htop := htop.nw1 (k := 15) (n := 10) (o := (b + 9)) rfl
  have k9 := ok.nwt htop
  have hold := fun (y : Nat) hy => (hh y (hsub y hy)).trans (hold y hy)
  have hsub := fun (y : Nat) hy => gN_sub (o := b + 9) (k := 15) (n := 10) (hsub y hy)
  refine r_putF (T := TX12) (v := b + 9) hx hb hts in12 tyX12 tyX12_ok nmX12 hown hK hP hD hT hS k0 (by decide) rfl 17 (by decide) (hts (.fieldLink RX12 36 "StoneWalkModel$Island" "edge" "[I") (List.mem_of_getElem? (i := 13) (by decide +kernel))) rfl rfl hin rfl (tyX12_ok 17 (by decide)) rfl rfl rfl (fun t n ht => by cases ht; exact k9) rfl dX12_init_68 (fun H locs hP hD hT hS => ?_)
  have n0 := gR_s (M := (zM (pR (zM (pR (zM (pR (zM (pR (zM (pR (zM (pR (zM (pR (zM (pR (zM M (b + 1)) (b) 9 (some (b + 1))) (b + 2)) (b) 10 (some (b + 2))) (b + 3)) (b) 11 (some (b + 3))) (b + 4)) (b) 12 (some (b + 4))) (b + 5)) (b) 13 (some (b + 5))) (b + 6)) (b) 14 (some (b + 6))) (b + 7)) (b) 15 (some (b + 7))) (b + 8)) (b) 16 (some (b + 8))) (b + 9))) (a := b) (j := 17) (v := some (b + 9))
  refine lv_aload_n hx hb dX12_init_71 rfl (lv_at hl 0 rfl) ?_
  refine lv_bipush (v := 10) hx hb dX12_init_72 rfl ?_
  refine r_newa (atype := .int) (o := b + 10) (kd := 15) (t0 := 1) (N' := 10) hx hb (hts (.arrayClass .int) (List.mem_of_getElem? (i := 4) (by decide +kernel))) rfl htop rfl (by decide) rfl (fun cA h1 h2 => Option.some.inj (h1.symm.trans h2)) hP hK hD hT hS hA new_i (fun _ => arE_e (by decide)) (by decide) rfl (Nat.le_of_ble_eq_true rfl) (Nat.le_of_ble_eq_true rfl) (Nat.le_of_ble_eq_true rfl) (fun ad => [(0, .ref (ad b))]) hl (fun ad' hh => by simp only [hh _ k0.1]) (fun ad => [.ref (ad b)]) (fun ad' hh => by simp only [hh _ k0.1]) rfl dX12_init_74 (fun ad H hh hP hD hT hS hl => ?_)
  have k0 := k0.up1 (k := 15) (n := 10) htop rfl
  have htop := htop.nw1 (k := 15) (n := 10) (o := (b + 10)) rfl
  have k10 := ok.nwt htop
  have hold := fun (y : Nat) hy => (hh y (hsub y hy)).trans (hold y hy)
  have hsub := fun (y : Nat) hy => gN_sub (o := b + 10) (k := 15) (n := 10) (hsub y hy)
  refine r_putF (T := TX12) (v := b + 10) hx hb hts in12 tyX12 tyX12_ok nmX12 hown hK hP hD hT hS k0 (by decide) rfl 18 (by decide) (hts (.fieldLink RX12 39 "StoneWalkModel$Island" "sort" "[I") (List.mem_of_getElem? (i := 14) (by decide +kernel))) rfl rfl hin rfl (tyX12_ok 18 (by decide)) rfl rfl rfl (fun t n ht => by cases ht; exact k10) rfl dX12_init_76 (fun H locs hP hD hT hS => ?_)
  have n0 := gR_s (M := (zM (pR (zM (pR (zM (pR (zM (pR (zM (pR (zM (pR (zM (pR (zM (pR (zM (pR (zM M (b + 1)) (b) 9 (some (b + 1))) (b + 2)) (b) 10 (some (b + 2))) (b + 3)) (b) 11 (some (b + 3))) (b + 4)) (b) 12 (some (b + 4))) (b + 5)) (b) 13 (some (b + 5))) (b + 6)) (b) 14 (some (b + 6))) (b + 7)) (b) 15 (some (b + 7))) (b + 8)) (b) 16 (some (b + 8))) (b + 9)) (b) 17 (some (b + 9))) (b + 10))) (a := b) (j := 18) (v := some (b + 10))
  refine lv_aload_n hx hb dX12_init_79 rfl (lv_at hl 0 rfl) ?_
  refine lv_bipush (v := 10) hx hb dX12_init_80 rfl ?_
  refine r_newa (atype := .int) (o := b + 11) (kd := 15) (t0 := 1) (N' := 10) hx hb (hts (.arrayClass .int) (List.mem_of_getElem? (i := 4) (by decide +kernel))) rfl htop rfl (by decide) rfl (fun cA h1 h2 => Option.some.inj (h1.symm.trans h2)) hP hK hD hT hS hA new_i (fun _ => arE_e (by decide)) (by decide) rfl (Nat.le_of_ble_eq_true rfl) (Nat.le_of_ble_eq_true rfl) (Nat.le_of_ble_eq_true rfl) (fun ad => [(0, .ref (ad b))]) hl (fun ad' hh => by simp only [hh _ k0.1]) (fun ad => [.ref (ad b)]) (fun ad' hh => by simp only [hh _ k0.1]) rfl dX12_init_82 (fun ad H hh hP hD hT hS hl => ?_)
  have k0 := k0.up1 (k := 15) (n := 10) htop rfl
  have htop := htop.nw1 (k := 15) (n := 10) (o := (b + 11)) rfl
  have k11 := ok.nwt htop
  have hold := fun (y : Nat) hy => (hh y (hsub y hy)).trans (hold y hy)
  have hsub := fun (y : Nat) hy => gN_sub (o := b + 11) (k := 15) (n := 10) (hsub y hy)
  refine r_putF (T := TX12) (v := b + 11) hx hb hts in12 tyX12 tyX12_ok nmX12 hown hK hP hD hT hS k0 (by decide) rfl 19 (by decide) (hts (.fieldLink RX12 42 "StoneWalkModel$Island" "lie" "[I") (List.mem_of_getElem? (i := 15) (by decide +kernel))) rfl rfl hin rfl (tyX12_ok 19 (by decide)) rfl rfl rfl (fun t n ht => by cases ht; exact k11) rfl dX12_init_84 (fun H locs hP hD hT hS => ?_)
  have n0 := gR_s (M := (zM (pR (zM (pR (zM (pR (zM (pR (zM (pR (zM (pR (zM (pR (zM (pR (zM (pR (zM (pR (zM M (b + 1)) (b) 9 (some (b + 1))) (b + 2)) (b) 10 (some (b + 2))) (b + 3)) (b) 11 (some (b + 3))) (b + 4)) (b) 12 (some (b + 4))) (b + 5)) (b) 13 (some (b + 5))) (b + 6)) (b) 14 (some (b + 6))) (b + 7)) (b) 15 (some (b + 7))) (b + 8)) (b) 16 (some (b + 8))) (b + 9)) (b) 17 (some (b + 9))) (b + 10)) (b) 18 (some (b + 10))) (b + 11))) (a := b) (j := 19) (v := some (b + 11))
  refine lv_aload_n hx hb dX12_init_87 rfl (lv_at hl 0 rfl) ?_
  refine lv_bipush (v := 10) hx hb dX12_init_88 rfl ?_
  refine r_newa (atype := .int) (o := b + 12) (kd := 15) (t0 := 1) (N' := 10) hx hb (hts (.arrayClass .int) (List.mem_of_getElem? (i := 4) (by decide +kernel))) rfl htop rfl (by decide) rfl (fun cA h1 h2 => Option.some.inj (h1.symm.trans h2)) hP hK hD hT hS hA new_i (fun _ => arE_e (by decide)) (by decide) rfl (Nat.le_of_ble_eq_true rfl) (Nat.le_of_ble_eq_true rfl) (Nat.le_of_ble_eq_true rfl) (fun ad => [(0, .ref (ad b))]) hl (fun ad' hh => by simp only [hh _ k0.1]) (fun ad => [.ref (ad b)]) (fun ad' hh => by simp only [hh _ k0.1]) rfl dX12_init_90 (fun ad H hh hP hD hT hS hl => ?_)
  have k0 := k0.up1 (k := 15) (n := 10) htop rfl
  have htop := htop.nw1 (k := 15) (n := 10) (o := (b + 12)) rfl
  have k12 := ok.nwt htop
  have hold := fun (y : Nat) hy => (hh y (hsub y hy)).trans (hold y hy)
  have hsub := fun (y : Nat) hy => gN_sub (o := b + 12) (k := 15) (n := 10) (hsub y hy)
  refine r_putF (T := TX12) (v := b + 12) hx hb hts in12 tyX12 tyX12_ok nmX12 hown hK hP hD hT hS k0 (by decide) rfl 20 (by decide) (hts (.fieldLink RX12 45 "StoneWalkModel$Island" "on" "[I") (List.mem_of_getElem? (i := 16) (by decide +kernel))) rfl rfl hin rfl (tyX12_ok 20 (by decide)) rfl rfl rfl (fun t n ht => by cases ht; exact k12) rfl dX12_init_92 (fun H locs hP hD hT hS => ?_)
  have n0 := gR_s (M := (zM (pR (zM (pR (zM (pR (zM (pR (zM (pR (zM (pR (zM (pR (zM (pR (zM (pR (zM (pR (zM (pR (zM M (b + 1)) (b) 9 (some (b + 1))) (b + 2)) (b) 10 (some (b + 2))) (b + 3)) (b) 11 (some (b + 3))) (b + 4)) (b) 12 (some (b + 4))) (b + 5)) (b) 13 (some (b + 5))) (b + 6)) (b) 14 (some (b + 6))) (b + 7)) (b) 15 (some (b + 7))) (b + 8)) (b) 16 (some (b + 8))) (b + 9)) (b) 17 (some (b + 9))) (b + 10)) (b) 18 (some (b + 10))) (b + 11)) (b) 19 (some (b + 11))) (b + 12))) (a := b) (j := 20) (v := some (b + 12))
  refine lv_aload_n hx hb dX12_init_95 rfl (lv_at hl 0 rfl) ?_
  refine lv_bipush (v := 10) hx hb dX12_init_96 rfl ?_
  refine r_newa (atype := .int) (o := b + 13) (kd := 15) (t0 := 1) (N' := 10) hx hb (hts (.arrayClass .int) (List.mem_of_getElem? (i := 4) (by decide +kernel))) rfl htop rfl (by decide) rfl (fun cA h1 h2 => Option.some.inj (h1.symm.trans h2)) hP hK hD hT hS hA new_i (fun _ => arE_e (by decide)) (by decide) rfl (Nat.le_of_ble_eq_true rfl) (Nat.le_of_ble_eq_true rfl) (Nat.le_of_ble_eq_true rfl) (fun ad => [(0, .ref (ad b))]) hl (fun ad' hh => by simp only [hh _ k0.1]) (fun ad => [.ref (ad b)]) (fun ad' hh => by simp only [hh _ k0.1]) rfl dX12_init_98 (fun ad H hh hP hD hT hS hl => ?_)
  have k0 := k0.up1 (k := 15) (n := 10) htop rfl
  have htop := htop.nw1 (k := 15) (n := 10) (o := (b + 13)) rfl
  have k13 := ok.nwt htop
  have hold := fun (y : Nat) hy => (hh y (hsub y hy)).trans (hold y hy)
  have hsub := fun (y : Nat) hy => gN_sub (o := b + 13) (k := 15) (n := 10) (hsub y hy)
  refine r_putF (T := TX12) (v := b + 13) hx hb hts in12 tyX12 tyX12_ok nmX12 hown hK hP hD hT hS k0 (by decide) rfl 21 (by decide) (hts (.fieldLink RX12 48 "StoneWalkModel$Island" "there" "[I") (List.mem_of_getElem? (i := 17) (by decide +kernel))) rfl rfl hin rfl (tyX12_ok 21 (by decide)) rfl rfl rfl (fun t n ht => by cases ht; exact k13) rfl dX12_init_100 (fun H locs hP hD hT hS => ?_)
  have n0 := gR_s (M := (zM (pR (zM (pR (zM (pR (zM (pR (zM (pR (zM (pR (zM (pR (zM (pR (zM (pR (zM (pR (zM (pR (zM (pR (zM M (b + 1)) (b) 9 (some (b + 1))) (b + 2)) (b) 10 (some (b + 2))) (b + 3)) (b) 11 (some (b + 3))) (b + 4)) (b) 12 (some (b + 4))) (b + 5)) (b) 13 (some (b + 5))) (b + 6)) (b) 14 (some (b + 6))) (b + 7)) (b) 15 (some (b + 7))) (b + 8)) (b) 16 (some (b + 8))) (b + 9)) (b) 17 (some (b + 9))) (b + 10)) (b) 18 (some (b + 10))) (b + 11)) (b) 19 (some (b + 11))) (b + 12)) (b) 20 (some (b + 12))) (b + 13))) (a := b) (j := 21) (v := some (b + 13))
  refine lv_aload_n hx hb dX12_init_103 rfl (lv_at hl 0 rfl) ?_
  refine lv_iconst (v := 5) hx hb dX12_init_104 rfl ?_
  refine r_newa (atype := .int) (o := b + 14) (kd := 15) (t0 := 1) (N' := 5) hx hb (hts (.arrayClass .int) (List.mem_of_getElem? (i := 4) (by decide +kernel))) rfl htop rfl (by decide) rfl (fun cA h1 h2 => Option.some.inj (h1.symm.trans h2)) hP hK hD hT hS hA new_i (fun _ => arE_e (by decide)) (by decide) rfl (Nat.le_of_ble_eq_true rfl) (Nat.le_of_ble_eq_true rfl) (Nat.le_of_ble_eq_true rfl) (fun ad => [(0, .ref (ad b))]) hl (fun ad' hh => by simp only [hh _ k0.1]) (fun ad => [.ref (ad b)]) (fun ad' hh => by simp only [hh _ k0.1]) rfl dX12_init_105 (fun ad H hh hP hD hT hS hl => ?_)
  have k0 := k0.up1 (k := 15) (n := 5) htop rfl
  have htop := htop.nw1 (k := 15) (n := 5) (o := (b + 14)) rfl
  have k14 := ok.nwt htop
  have hold := fun (y : Nat) hy => (hh y (hsub y hy)).trans (hold y hy)
  have hsub := fun (y : Nat) hy => gN_sub (o := b + 14) (k := 15) (n := 5) (hsub y hy)
  refine r_putF (T := TX12) (v := b + 14) hx hb hts in12 tyX12 tyX12_ok nmX12 hown hK hP hD hT hS k0 (by decide) rfl 22 (by decide) (hts (.fieldLink RX12 51 "StoneWalkModel$Island" "trialWay" "[I") (List.mem_of_getElem? (i := 18) (by decide +kernel))) rfl rfl hin rfl (tyX12_ok 22 (by decide)) rfl rfl rfl (fun t n ht => by cases ht; exact k14) rfl dX12_init_107 (fun H locs hP hD hT hS => ?_)
  have n0 := gR_s (M := (zM (pR (zM (pR (zM (pR (zM (pR (zM (pR (zM (pR (zM (pR (zM (pR (zM (pR (zM (pR (zM (pR (zM (pR (zM (pR (zM M (b + 1)) (b) 9 (some (b + 1))) (b + 2)) (b) 10 (some (b + 2))) (b + 3)) (b) 11 (some (b + 3))) (b + 4)) (b) 12 (some (b + 4))) (b + 5)) (b) 13 (some (b + 5))) (b + 6)) (b) 14 (some (b + 6))) (b + 7)) (b) 15 (some (b + 7))) (b + 8)) (b) 16 (some (b + 8))) (b + 9)) (b) 17 (some (b + 9))) (b + 10)) (b) 18 (some (b + 10))) (b + 11)) (b) 19 (some (b + 11))) (b + 12)) (b) 20 (some (b + 12))) (b + 13)) (b) 21 (some (b + 13))) (b + 14))) (a := b) (j := 22) (v := some (b + 14))
  refine lv_aload_n hx hb dX12_init_110 rfl (lv_at hl 0 rfl) ?_
  refine lv_iconst (v := 5) hx hb dX12_init_111 rfl ?_
  refine r_newa (atype := .int) (o := b + 15) (kd := 15) (t0 := 1) (N' := 5) hx hb (hts (.arrayClass .int) (List.mem_of_getElem? (i := 4) (by decide +kernel))) rfl htop rfl (by decide) rfl (fun cA h1 h2 => Option.some.inj (h1.symm.trans h2)) hP hK hD hT hS hA new_i (fun _ => arE_e (by decide)) (by decide) rfl (Nat.le_of_ble_eq_true rfl) (Nat.le_of_ble_eq_true rfl) (Nat.le_of_ble_eq_true rfl) (fun ad => [(0, .ref (ad b))]) hl (fun ad' hh => by simp only [hh _ k0.1]) (fun ad => [.ref (ad b)]) (fun ad' hh => by simp only [hh _ k0.1]) rfl dX12_init_112 (fun ad H hh hP hD hT hS hl => ?_)
  have k0 := k0.up1 (k := 15) (n := 5) htop rfl
  have htop := htop.nw1 (k := 15) (n := 5) (o := (b + 15)) rfl
  have k15 := ok.nwt htop
  have hold := fun (y : Nat) hy => (hh y (hsub y hy)).trans (hold y hy)
  have hsub := fun (y : Nat) hy => gN_sub (o := b + 15) (k := 15) (n := 5) (hsub y hy)
  refine r_putF (T := TX12) (v := b + 15) hx hb hts in12 tyX12 tyX12_ok nmX12 hown hK hP hD hT hS k0 (by decide) rfl 23 (by decide) (hts (.fieldLink RX12 54 "StoneWalkModel$Island" "trialTons" "[I") (List.mem_of_getElem? (i := 19) (by decide +kernel))) rfl rfl hin rfl (tyX12_ok 23 (by decide)) rfl rfl rfl (fun t n ht => by cases ht; exact k15) rfl dX12_init_114 (fun H locs hP hD hT hS => ?_)
  have n0 := gR_s (M := (zM (pR (zM (pR (zM (pR (zM (pR (zM (pR (zM (pR (zM (pR (zM (pR (zM (pR (zM (pR (zM (pR (zM (pR (zM (pR (zM (pR (zM M (b + 1)) (b) 9 (some (b + 1))) (b + 2)) (b) 10 (some (b + 2))) (b + 3)) (b) 11 (some (b + 3))) (b + 4)) (b) 12 (some (b + 4))) (b + 5)) (b) 13 (some (b + 5))) (b + 6)) (b) 14 (some (b + 6))) (b + 7)) (b) 15 (some (b + 7))) (b + 8)) (b) 16 (some (b + 8))) (b + 9)) (b) 17 (some (b + 9))) (b + 10)) (b) 18 (some (b + 10))) (b + 11)) (b) 19 (some (b + 11))) (b + 12)) (b) 20 (some (b + 12))) (b + 13)) (b) 21 (some (b + 13))) (b + 14)) (b) 22 (some (b + 14))) (b + 15))) (a := b) (j := 23) (v := some (b + 15))
  refine lv_aload_n hx hb dX12_init_117 rfl (lv_at hl 0 rfl) ?_
  refine lv_iconst (v := 5) hx hb dX12_init_118 rfl ?_
  refine r_newa (atype := .int) (o := b + 16) (kd := 15) (t0 := 1) (N' := 5) hx hb (hts (.arrayClass .int) (List.mem_of_getElem? (i := 4) (by decide +kernel))) rfl htop rfl (by decide) rfl (fun cA h1 h2 => Option.some.inj (h1.symm.trans h2)) hP hK hD hT hS hA new_i (fun _ => arE_e (by decide)) (by decide) rfl (Nat.le_of_ble_eq_true rfl) (Nat.le_of_ble_eq_true rfl) (Nat.le_of_ble_eq_true rfl) (fun ad => [(0, .ref (ad b))]) hl (fun ad' hh => by simp only [hh _ k0.1]) (fun ad => [.ref (ad b)]) (fun ad' hh => by simp only [hh _ k0.1]) rfl dX12_init_119 (fun ad H hh hP hD hT hS hl => ?_)
  have k0 := k0.up1 (k := 15) (n := 5) htop rfl
  have htop := htop.nw1 (k := 15) (n := 5) (o := (b + 16)) rfl
  have k16 := ok.nwt htop
  have hold := fun (y : Nat) hy => (hh y (hsub y hy)).trans (hold y hy)
  have hsub := fun (y : Nat) hy => gN_sub (o := b + 16) (k := 15) (n := 5) (hsub y hy)
  refine r_putF (T := TX12) (v := b + 16) hx hb hts in12 tyX12 tyX12_ok nmX12 hown hK hP hD hT hS k0 (by decide) rfl 24 (by decide) (hts (.fieldLink RX12 57 "StoneWalkModel$Island" "trialPeople" "[I") (List.mem_of_getElem? (i := 20) (by decide +kernel))) rfl rfl hin rfl (tyX12_ok 24 (by decide)) rfl rfl rfl (fun t n ht => by cases ht; exact k16) rfl dX12_init_121 (fun H locs hP hD hT hS => ?_)
  have n0 := gR_s (M := (zM (pR (zM (pR (zM (pR (zM (pR (zM (pR (zM (pR (zM (pR (zM (pR (zM (pR (zM (pR (zM (pR (zM (pR (zM (pR (zM (pR (zM (pR (zM M (b + 1)) (b) 9 (some (b + 1))) (b + 2)) (b) 10 (some (b + 2))) (b + 3)) (b) 11 (some (b + 3))) (b + 4)) (b) 12 (some (b + 4))) (b + 5)) (b) 13 (some (b + 5))) (b + 6)) (b) 14 (some (b + 6))) (b + 7)) (b) 15 (some (b + 7))) (b + 8)) (b) 16 (some (b + 8))) (b + 9)) (b) 17 (some (b + 9))) (b + 10)) (b) 18 (some (b + 10))) (b + 11)) (b) 19 (some (b + 11))) (b + 12)) (b) 20 (some (b + 12))) (b + 13)) (b) 21 (some (b + 13))) (b + 14)) (b) 22 (some (b + 14))) (b + 15)) (b) 23 (some (b + 15))) (b + 16))) (a := b) (j := 24) (v := some (b + 16))
  refine lv_aload_n hx hb dX12_init_124 rfl (lv_at hl 0 rfl) ?_
  refine lv_iconst (v := 5) hx hb dX12_init_125 rfl ?_
  refine r_newa (atype := .int) (o := b + 17) (kd := 15) (t0 := 1) (N' := 5) hx hb (hts (.arrayClass .int) (List.mem_of_getElem? (i := 4) (by decide +kernel))) rfl htop rfl (by decide) rfl (fun cA h1 h2 => Option.some.inj (h1.symm.trans h2)) hP hK hD hT hS hA new_i (fun _ => arE_e (by decide)) (by decide) rfl (Nat.le_of_ble_eq_true rfl) (Nat.le_of_ble_eq_true rfl) (Nat.le_of_ble_eq_true rfl) (fun ad => [(0, .ref (ad b))]) hl (fun ad' hh => by simp only [hh _ k0.1]) (fun ad => [.ref (ad b)]) (fun ad' hh => by simp only [hh _ k0.1]) rfl dX12_init_126 (fun ad H hh hP hD hT hS hl => ?_)
  have k0 := k0.up1 (k := 15) (n := 5) htop rfl
  have htop := htop.nw1 (k := 15) (n := 5) (o := (b + 17)) rfl
  have k17 := ok.nwt htop
  have hold := fun (y : Nat) hy => (hh y (hsub y hy)).trans (hold y hy)
  have hsub := fun (y : Nat) hy => gN_sub (o := b + 17) (k := 15) (n := 5) (hsub y hy)
  refine r_putF (T := TX12) (v := b + 17) hx hb hts in12 tyX12 tyX12_ok nmX12 hown hK hP hD hT hS k0 (by decide) rfl 25 (by decide) (hts (.fieldLink RX12 60 "StoneWalkModel$Island" "trialYards" "[I") (List.mem_of_getElem? (i := 21) (by decide +kernel))) rfl rfl hin rfl (tyX12_ok 25 (by decide)) rfl rfl rfl (fun t n ht => by cases ht; exact k17) rfl dX12_init_128 (fun H locs hP hD hT hS => ?_)
  have n0 := gR_s (M := (zM (pR (zM (pR (zM (pR (zM (pR (zM (pR (zM (pR (zM (pR (zM (pR (zM (pR (zM (pR (zM (pR (zM (pR (zM (pR (zM (pR (zM (pR (zM (pR (zM M (b + 1)) (b) 9 (some (b + 1))) (b + 2)) (b) 10 (some (b + 2))) (b + 3)) (b) 11 (some (b + 3))) (b + 4)) (b) 12 (some (b + 4))) (b + 5)) (b) 13 (some (b + 5))) (b + 6)) (b) 14 (some (b + 6))) (b + 7)) (b) 15 (some (b + 7))) (b + 8)) (b) 16 (some (b + 8))) (b + 9)) (b) 17 (some (b + 9))) (b + 10)) (b) 18 (some (b + 10))) (b + 11)) (b) 19 (some (b + 11))) (b + 12)) (b) 20 (some (b + 12))) (b + 13)) (b) 21 (some (b + 13))) (b + 14)) (b) 22 (some (b + 14))) (b + 15)) (b) 23 (some (b + 15))) (b + 16)) (b) 24 (some (b + 16))) (b + 17))) (a := b) (j := 25) (v := some (b + 17))
  refine lv_aload_n hx hb dX12_init_131 rfl (lv_at hl 0 rfl) ?_
  refine lv_iconst (v := 5) hx hb dX12_init_132 rfl ?_
  refine r_newa (atype := .int) (o := b + 18) (kd := 15) (t0 := 1) (N' := 5) hx hb (hts (.arrayClass .int) (List.mem_of_getElem? (i := 4) (by decide +kernel))) rfl htop rfl (by decide) rfl (fun cA h1 h2 => Option.some.inj (h1.symm.trans h2)) hP hK hD hT hS hA new_i (fun _ => arE_e (by decide)) (by decide) rfl (Nat.le_of_ble_eq_true rfl) (Nat.le_of_ble_eq_true rfl) (Nat.le_of_ble_eq_true rfl) (fun ad => [(0, .ref (ad b))]) hl (fun ad' hh => by simp only [hh _ k0.1]) (fun ad => [.ref (ad b)]) (fun ad' hh => by simp only [hh _ k0.1]) rfl dX12_init_133 (fun ad H hh hP hD hT hS hl => ?_)
  have k0 := k0.up1 (k := 15) (n := 5) htop rfl
  have htop := htop.nw1 (k := 15) (n := 5) (o := (b + 18)) rfl
  have k18 := ok.nwt htop
  have hold := fun (y : Nat) hy => (hh y (hsub y hy)).trans (hold y hy)
  have hsub := fun (y : Nat) hy => gN_sub (o := b + 18) (k := 15) (n := 5) (hsub y hy)
  refine r_putF (T := TX12) (v := b + 18) hx hb hts in12 tyX12 tyX12_ok nmX12 hown hK hP hD hT hS k0 (by decide) rfl 26 (by decide) (hts (.fieldLink RX12 63 "StoneWalkModel$Island" "trialMinutes" "[I") (List.mem_of_getElem? (i := 22) (by decide +kernel))) rfl rfl hin rfl (tyX12_ok 26 (by decide)) rfl rfl rfl (fun t n ht => by cases ht; exact k18) rfl dX12_init_135 (fun H locs hP hD hT hS => ?_)
  have n0 := gR_s (M := (zM (pR (zM (pR (zM (pR (zM (pR (zM (pR (zM (pR (zM (pR (zM (pR (zM (pR (zM (pR (zM (pR (zM (pR (zM (pR (zM (pR (zM (pR (zM (pR (zM (pR (zM M (b + 1)) (b) 9 (some (b + 1))) (b + 2)) (b) 10 (some (b + 2))) (b + 3)) (b) 11 (some (b + 3))) (b + 4)) (b) 12 (some (b + 4))) (b + 5)) (b) 13 (some (b + 5))) (b + 6)) (b) 14 (some (b + 6))) (b + 7)) (b) 15 (some (b + 7))) (b + 8)) (b) 16 (some (b + 8))) (b + 9)) (b) 17 (some (b + 9))) (b + 10)) (b) 18 (some (b + 10))) (b + 11)) (b) 19 (some (b + 11))) (b + 12)) (b) 20 (some (b + 12))) (b + 13)) (b) 21 (some (b + 13))) (b + 14)) (b) 22 (some (b + 14))) (b + 15)) (b) 23 (some (b + 15))) (b + 16)) (b) 24 (some (b + 16))) (b + 17)) (b) 25 (some (b + 17))) (b + 18))) (a := b) (j := 26) (v := some (b + 18))
  refine lv_aload_n hx hb dX12_init_138 rfl (lv_at hl 0 rfl) ?_
  refine lv_iconst (v := (-1)) hx hb dX12_init_139 rfl ?_
  refine r_putI (T := TX12) (ty := .int) (v := (-1)) hx hb hts in12 tyX12 tyX12_ok nmX12 hown hK hP hD hT hS k0 (by decide) rfl 27 (by decide) (hts (.fieldLink RX12 66 "StoneWalkModel$Island" "trees" "I") (List.mem_of_getElem? (i := 23) (by decide +kernel))) rfl rfl (tyX12_ok 27 (by decide)) rfl rfl rfl dX12_init_140 (fun H locs hP hD hT hS => ?_)
  refine lv_aload_n hx hb dX12_init_143 rfl (lv_at hl 0 rfl) ?_
  refine lv_iconst (v := (-1)) hx hb dX12_init_144 rfl ?_
  refine r_putI (T := TX12) (ty := .int) (v := (-1)) hx hb hts in12 tyX12 tyX12_ok nmX12 hown hK hP hD hT hS k0 (by decide) rfl 30 (by decide) (hts (.fieldLink RX12 70 "StoneWalkModel$Island" "fields" "I") (List.mem_of_getElem? (i := 24) (by decide +kernel))) rfl rfl (tyX12_ok 30 (by decide)) rfl rfl rfl dX12_init_145 (fun H locs hP hD hT hS => ?_)
  refine lv_aload_n hx hb dX12_init_148 rfl (lv_at hl 0 rfl) ?_
  refine lv_iconst (v := (-1)) hx hb dX12_init_149 rfl ?_
  refine r_putI (T := TX12) (ty := .int) (v := (-1)) hx hb hts in12 tyX12 tyX12_ok nmX12 hown hK hP hD hT hS k0 (by decide) rfl 32 (by decide) (hts (.fieldLink RX12 73 "StoneWalkModel$Island" "houses" "I") (List.mem_of_getElem? (i := 25) (by decide +kernel))) rfl rfl (tyX12_ok 32 (by decide)) rfl rfl rfl dX12_init_150 (fun H locs hP hD hT hS => ?_)
  refine lv_aload_n hx hb dX12_init_153 rfl (lv_at hl 0 rfl) ?_
  refine lv_iconst (v := 5) hx hb dX12_init_154 rfl ?_
  refine r_newa (atype := .int) (o := b + 19) (kd := 15) (t0 := 1) (N' := 5) hx hb (hts (.arrayClass .int) (List.mem_of_getElem? (i := 4) (by decide +kernel))) rfl htop rfl (by decide) rfl (fun cA h1 h2 => Option.some.inj (h1.symm.trans h2)) hP hK hD hT hS hA new_i (fun _ => arE_e (by decide)) (by decide) rfl (Nat.le_of_ble_eq_true rfl) (Nat.le_of_ble_eq_true rfl) (Nat.le_of_ble_eq_true rfl) (fun ad => [(0, .ref (ad b))]) hl (fun ad' hh => by simp only [hh _ k0.1]) (fun ad => [.ref (ad b)]) (fun ad' hh => by simp only [hh _ k0.1]) rfl dX12_init_155 (fun ad H hh hP hD hT hS hl => ?_)
  have k0 := k0.up1 (k := 15) (n := 5) htop rfl
  have htop := htop.nw1 (k := 15) (n := 5) (o := (b + 19)) rfl
  have k19 := ok.nwt htop
  have hold := fun (y : Nat) hy => (hh y (hsub y hy)).trans (hold y hy)
  have hsub := fun (y : Nat) hy => gN_sub (o := b + 19) (k := 15) (n := 5) (hsub y hy)
  refine r_putF (T := TX12) (v := b + 19) hx hb hts in12 tyX12 tyX12_ok nmX12 hown hK hP hD hT hS k0 (by decide) rfl 35 (by decide) (hts (.fieldLink RX12 76 "StoneWalkModel$Island" "storyWeighs" "[I") (List.mem_of_getElem? (i := 26) (by decide +kernel))) rfl rfl hin rfl (tyX12_ok 35 (by decide)) rfl rfl rfl (fun t n ht => by cases ht; exact k19) rfl dX12_init_157 (fun H locs hP hD hT hS => ?_)
  have n0 := gR_s (M := (zM (pI (pI (pI (pR (zM (pR (zM (pR (zM (pR (zM (pR (zM (pR (zM (pR (zM (pR (zM (pR (zM (pR (zM (pR (zM (pR (zM (pR (zM (pR (zM (pR (zM (pR (zM (pR (zM (pR (zM M (b + 1)) (b) 9 (some (b + 1))) (b + 2)) (b) 10 (some (b + 2))) (b + 3)) (b) 11 (some (b + 3))) (b + 4)) (b) 12 (some (b + 4))) (b + 5)) (b) 13 (some (b + 5))) (b + 6)) (b) 14 (some (b + 6))) (b + 7)) (b) 15 (some (b + 7))) (b + 8)) (b) 16 (some (b + 8))) (b + 9)) (b) 17 (some (b + 9))) (b + 10)) (b) 18 (some (b + 10))) (b + 11)) (b) 19 (some (b + 11))) (b + 12)) (b) 20 (some (b + 12))) (b + 13)) (b) 21 (some (b + 13))) (b + 14)) (b) 22 (some (b + 14))) (b + 15)) (b) 23 (some (b + 15))) (b + 16)) (b) 24 (some (b + 16))) (b + 17)) (b) 25 (some (b + 17))) (b + 18)) (b) 26 (some (b + 18))) (b) 27 (-1)) (b) 30 (-1)) (b) 32 (-1)) (b + 19))) (a := b) (j := 35) (v := some (b + 19))
  refine lv_aload_n hx hb dX12_init_160 rfl (lv_at hl 0 rfl) ?_
  refine lv_iconst (v := 5) hx hb dX12_init_161 rfl ?_
  refine r_newa (atype := .int) (o := b + 20) (kd := 15) (t0 := 1) (N' := 5) hx hb (hts (.arrayClass .int) (List.mem_of_getElem? (i := 4) (by decide +kernel))) rfl htop rfl (by decide) rfl (fun cA h1 h2 => Option.some.inj (h1.symm.trans h2)) hP hK hD hT hS hA new_i (fun _ => arE_e (by decide)) (by decide) rfl (Nat.le_of_ble_eq_true rfl) (Nat.le_of_ble_eq_true rfl) (Nat.le_of_ble_eq_true rfl) (fun ad => [(0, .ref (ad b))]) hl (fun ad' hh => by simp only [hh _ k0.1]) (fun ad => [.ref (ad b)]) (fun ad' hh => by simp only [hh _ k0.1]) rfl dX12_init_162 (fun ad H hh hP hD hT hS hl => ?_)
  have k0 := k0.up1 (k := 15) (n := 5) htop rfl
  have htop := htop.nw1 (k := 15) (n := 5) (o := (b + 20)) rfl
  have k20 := ok.nwt htop
  have hold := fun (y : Nat) hy => (hh y (hsub y hy)).trans (hold y hy)
  have hsub := fun (y : Nat) hy => gN_sub (o := b + 20) (k := 15) (n := 5) (hsub y hy)
  refine r_putF (T := TX12) (v := b + 20) hx hb hts in12 tyX12 tyX12_ok nmX12 hown hK hP hD hT hS k0 (by decide) rfl 36 (by decide) (hts (.fieldLink RX12 79 "StoneWalkModel$Island" "cause" "[I") (List.mem_of_getElem? (i := 27) (by decide +kernel))) rfl rfl hin rfl (tyX12_ok 36 (by decide)) rfl rfl rfl (fun t n ht => by cases ht; exact k20) rfl dX12_init_164 (fun H locs hP hD hT hS => ?_)
  have n0 := gR_s (M := (zM (pR (zM (pI (pI (pI (pR (zM (pR (zM (pR (zM (pR (zM (pR (zM (pR (zM (pR (zM (pR (zM (pR (zM (pR (zM (pR (zM (pR (zM (pR (zM (pR (zM (pR (zM (pR (zM (pR (zM (pR (zM M (b + 1)) (b) 9 (some (b + 1))) (b + 2)) (b) 10 (some (b + 2))) (b + 3)) (b) 11 (some (b + 3))) (b + 4)) (b) 12 (some (b + 4))) (b + 5)) (b) 13 (some (b + 5))) (b + 6)) (b) 14 (some (b + 6))) (b + 7)) (b) 15 (some (b + 7))) (b + 8)) (b) 16 (some (b + 8))) (b + 9)) (b) 17 (some (b + 9))) (b + 10)) (b) 18 (some (b + 10))) (b + 11)) (b) 19 (some (b + 11))) (b + 12)) (b) 20 (some (b + 12))) (b + 13)) (b) 21 (some (b + 13))) (b + 14)) (b) 22 (some (b + 14))) (b + 15)) (b) 23 (some (b + 15))) (b + 16)) (b) 24 (some (b + 16))) (b + 17)) (b) 25 (some (b + 17))) (b + 18)) (b) 26 (some (b + 18))) (b) 27 (-1)) (b) 30 (-1)) (b) 32 (-1)) (b + 19)) (b) 35 (some (b + 19))) (b + 20))) (a := b) (j := 36) (v := some (b + 20))
  refine lv_aload_n hx hb dX12_init_167 rfl (lv_at hl 0 rfl) ?_
  refine lv_iconst (v := 5) hx hb dX12_init_168 rfl ?_
  refine r_newa (atype := .int) (o := b + 21) (kd := 15) (t0 := 1) (N' := 5) hx hb (hts (.arrayClass .int) (List.mem_of_getElem? (i := 4) (by decide +kernel))) rfl htop rfl (by decide) rfl (fun cA h1 h2 => Option.some.inj (h1.symm.trans h2)) hP hK hD hT hS hA new_i (fun _ => arE_e (by decide)) (by decide) rfl (Nat.le_of_ble_eq_true rfl) (Nat.le_of_ble_eq_true rfl) (Nat.le_of_ble_eq_true rfl) (fun ad => [(0, .ref (ad b))]) hl (fun ad' hh => by simp only [hh _ k0.1]) (fun ad => [.ref (ad b)]) (fun ad' hh => by simp only [hh _ k0.1]) rfl dX12_init_169 (fun ad H hh hP hD hT hS hl => ?_)
  have k0 := k0.up1 (k := 15) (n := 5) htop rfl
  have htop := htop.nw1 (k := 15) (n := 5) (o := (b + 21)) rfl
  have k21 := ok.nwt htop
  have hold := fun (y : Nat) hy => (hh y (hsub y hy)).trans (hold y hy)
  have hsub := fun (y : Nat) hy => gN_sub (o := b + 21) (k := 15) (n := 5) (hsub y hy)
  refine r_putF (T := TX12) (v := b + 21) hx hb hts in12 tyX12 tyX12_ok nmX12 hown hK hP hD hT hS k0 (by decide) rfl 37 (by decide) (hts (.fieldLink RX12 82 "StoneWalkModel$Island" "much" "[I") (List.mem_of_getElem? (i := 28) (by decide +kernel))) rfl rfl hin rfl (tyX12_ok 37 (by decide)) rfl rfl rfl (fun t n ht => by cases ht; exact k21) rfl dX12_init_171 (fun H locs hP hD hT hS => ?_)
  have n0 := gR_s (M := (zM (pR (zM (pR (zM (pI (pI (pI (pR (zM (pR (zM (pR (zM (pR (zM (pR (zM (pR (zM (pR (zM (pR (zM (pR (zM (pR (zM (pR (zM (pR (zM (pR (zM (pR (zM (pR (zM (pR (zM (pR (zM (pR (zM M (b + 1)) (b) 9 (some (b + 1))) (b + 2)) (b) 10 (some (b + 2))) (b + 3)) (b) 11 (some (b + 3))) (b + 4)) (b) 12 (some (b + 4))) (b + 5)) (b) 13 (some (b + 5))) (b + 6)) (b) 14 (some (b + 6))) (b + 7)) (b) 15 (some (b + 7))) (b + 8)) (b) 16 (some (b + 8))) (b + 9)) (b) 17 (some (b + 9))) (b + 10)) (b) 18 (some (b + 10))) (b + 11)) (b) 19 (some (b + 11))) (b + 12)) (b) 20 (some (b + 12))) (b + 13)) (b) 21 (some (b + 13))) (b + 14)) (b) 22 (some (b + 14))) (b + 15)) (b) 23 (some (b + 15))) (b + 16)) (b) 24 (some (b + 16))) (b + 17)) (b) 25 (some (b + 17))) (b + 18)) (b) 26 (some (b + 18))) (b) 27 (-1)) (b) 30 (-1)) (b) 32 (-1)) (b + 19)) (b) 35 (some (b + 19))) (b + 20)) (b) 36 (some (b + 20))) (b + 21))) (a := b) (j := 37) (v := some (b + 21))
  refine lv_aload_n hx hb dX12_init_174 rfl (lv_at hl 0 rfl) ?_
  refine lv_iconst (v := 5) hx hb dX12_init_175 rfl ?_
  refine r_newa (atype := .int) (o := b + 22) (kd := 15) (t0 := 1) (N' := 5) hx hb (hts (.arrayClass .int) (List.mem_of_getElem? (i := 4) (by decide +kernel))) rfl htop rfl (by decide) rfl (fun cA h1 h2 => Option.some.inj (h1.symm.trans h2)) hP hK hD hT hS hA new_i (fun _ => arE_e (by decide)) (by decide) rfl (Nat.le_of_ble_eq_true rfl) (Nat.le_of_ble_eq_true rfl) (Nat.le_of_ble_eq_true rfl) (fun ad => [(0, .ref (ad b))]) hl (fun ad' hh => by simp only [hh _ k0.1]) (fun ad => [.ref (ad b)]) (fun ad' hh => by simp only [hh _ k0.1]) rfl dX12_init_176 (fun ad H hh hP hD hT hS hl => ?_)
  have k0 := k0.up1 (k := 15) (n := 5) htop rfl
  have htop := htop.nw1 (k := 15) (n := 5) (o := (b + 22)) rfl
  have k22 := ok.nwt htop
  have hold := fun (y : Nat) hy => (hh y (hsub y hy)).trans (hold y hy)
  have hsub := fun (y : Nat) hy => gN_sub (o := b + 22) (k := 15) (n := 5) (hsub y hy)
  refine r_putF (T := TX12) (v := b + 22) hx hb hts in12 tyX12 tyX12_ok nmX12 hown hK hP hD hT hS k0 (by decide) rfl 38 (by decide) (hts (.fieldLink RX12 85 "StoneWalkModel$Island" "every" "[I") (List.mem_of_getElem? (i := 29) (by decide +kernel))) rfl rfl hin rfl (tyX12_ok 38 (by decide)) rfl rfl rfl (fun t n ht => by cases ht; exact k22) rfl dX12_init_178 (fun H locs hP hD hT hS => ?_)
  have n0 := gR_s (M := (zM (pR (zM (pR (zM (pR (zM (pI (pI (pI (pR (zM (pR (zM (pR (zM (pR (zM (pR (zM (pR (zM (pR (zM (pR (zM (pR (zM (pR (zM (pR (zM (pR (zM (pR (zM (pR (zM (pR (zM (pR (zM (pR (zM (pR (zM M (b + 1)) (b) 9 (some (b + 1))) (b + 2)) (b) 10 (some (b + 2))) (b + 3)) (b) 11 (some (b + 3))) (b + 4)) (b) 12 (some (b + 4))) (b + 5)) (b) 13 (some (b + 5))) (b + 6)) (b) 14 (some (b + 6))) (b + 7)) (b) 15 (some (b + 7))) (b + 8)) (b) 16 (some (b + 8))) (b + 9)) (b) 17 (some (b + 9))) (b + 10)) (b) 18 (some (b + 10))) (b + 11)) (b) 19 (some (b + 11))) (b + 12)) (b) 20 (some (b + 12))) (b + 13)) (b) 21 (some (b + 13))) (b + 14)) (b) 22 (some (b + 14))) (b + 15)) (b) 23 (some (b + 15))) (b + 16)) (b) 24 (some (b + 16))) (b + 17)) (b) 25 (some (b + 17))) (b + 18)) (b) 26 (some (b + 18))) (b) 27 (-1)) (b) 30 (-1)) (b) 32 (-1)) (b + 19)) (b) 35 (some (b + 19))) (b + 20)) (b) 36 (some (b + 20))) (b + 21)) (b) 37 (some (b + 21))) (b + 22))) (a := b) (j := 38) (v := some (b + 22))
  refine lv_aload_n hx hb dX12_init_181 rfl (lv_at hl 0 rfl) ?_
  refine lv_iconst (v := 3) hx hb dX12_init_182 rfl ?_
  refine r_newa (atype := .int) (o := b + 23) (kd := 15) (t0 := 1) (N' := 3) hx hb (hts (.arrayClass .int) (List.mem_of_getElem? (i := 4) (by decide +kernel))) rfl htop rfl (by decide) rfl (fun cA h1 h2 => Option.some.inj (h1.symm.trans h2)) hP hK hD hT hS hA new_i (fun _ => arE_e (by decide)) (by decide) rfl (Nat.le_of_ble_eq_true rfl) (Nat.le_of_ble_eq_true rfl) (Nat.le_of_ble_eq_true rfl) (fun ad => [(0, .ref (ad b))]) hl (fun ad' hh => by simp only [hh _ k0.1]) (fun ad => [.ref (ad b)]) (fun ad' hh => by simp only [hh _ k0.1]) rfl dX12_init_183 (fun ad H hh hP hD hT hS hl => ?_)
  have k0 := k0.up1 (k := 15) (n := 3) htop rfl
  have htop := htop.nw1 (k := 15) (n := 3) (o := (b + 23)) rfl
  have k23 := ok.nwt htop
  have hold := fun (y : Nat) hy => (hh y (hsub y hy)).trans (hold y hy)
  have hsub := fun (y : Nat) hy => gN_sub (o := b + 23) (k := 15) (n := 3) (hsub y hy)
  refine r_putF (T := TX12) (v := b + 23) hx hb hts in12 tyX12 tyX12_ok nmX12 hown hK hP hD hT hS k0 (by decide) rfl 39 (by decide) (hts (.fieldLink RX12 88 "StoneWalkModel$Island" "means" "[I") (List.mem_of_getElem? (i := 30) (by decide +kernel))) rfl rfl hin rfl (tyX12_ok 39 (by decide)) rfl rfl rfl (fun t n ht => by cases ht; exact k23) rfl dX12_init_185 (fun H locs hP hD hT hS => ?_)
  have n0 := gR_s (M := (zM (pR (zM (pR (zM (pR (zM (pR (zM (pI (pI (pI (pR (zM (pR (zM (pR (zM (pR (zM (pR (zM (pR (zM (pR (zM (pR (zM (pR (zM (pR (zM (pR (zM (pR (zM (pR (zM (pR (zM (pR (zM (pR (zM (pR (zM (pR (zM M (b + 1)) (b) 9 (some (b + 1))) (b + 2)) (b) 10 (some (b + 2))) (b + 3)) (b) 11 (some (b + 3))) (b + 4)) (b) 12 (some (b + 4))) (b + 5)) (b) 13 (some (b + 5))) (b + 6)) (b) 14 (some (b + 6))) (b + 7)) (b) 15 (some (b + 7))) (b + 8)) (b) 16 (some (b + 8))) (b + 9)) (b) 17 (some (b + 9))) (b + 10)) (b) 18 (some (b + 10))) (b + 11)) (b) 19 (some (b + 11))) (b + 12)) (b) 20 (some (b + 12))) (b + 13)) (b) 21 (some (b + 13))) (b + 14)) (b) 22 (some (b + 14))) (b + 15)) (b) 23 (some (b + 15))) (b + 16)) (b) 24 (some (b + 16))) (b + 17)) (b) 25 (some (b + 17))) (b + 18)) (b) 26 (some (b + 18))) (b) 27 (-1)) (b) 30 (-1)) (b) 32 (-1)) (b + 19)) (b) 35 (some (b + 19))) (b + 20)) (b) 36 (some (b + 20))) (b + 21)) (b) 37 (some (b + 21))) (b + 22)) (b) 38 (some (b + 22))) (b + 23))) (a := b) (j := 39) (v := some (b + 23))
  refine lv_aload_n hx hb dX12_init_188 rfl (lv_at hl 0 rfl) ?_
  refine lv_iconst (v := 5) hx hb dX12_init_189 rfl ?_
  refine r_newa (atype := .int) (o := b + 24) (kd := 15) (t0 := 1) (N' := 5) hx hb (hts (.arrayClass .int) (List.mem_of_getElem? (i := 4) (by decide +kernel))) rfl htop rfl (by decide) rfl (fun cA h1 h2 => Option.some.inj (h1.symm.trans h2)) hP hK hD hT hS hA new_i (fun _ => arE_e (by decide)) (by decide) rfl (Nat.le_of_ble_eq_true rfl) (Nat.le_of_ble_eq_true rfl) (Nat.le_of_ble_eq_true rfl) (fun ad => [(0, .ref (ad b))]) hl (fun ad' hh => by simp only [hh _ k0.1]) (fun ad => [.ref (ad b)]) (fun ad' hh => by simp only [hh _ k0.1]) rfl dX12_init_190 (fun ad H hh hP hD hT hS hl => ?_)
  have k0 := k0.up1 (k := 15) (n := 5) htop rfl
  have htop := htop.nw1 (k := 15) (n := 5) (o := (b + 24)) rfl
  have k24 := ok.nwt htop
  have hold := fun (y : Nat) hy => (hh y (hsub y hy)).trans (hold y hy)
  have hsub := fun (y : Nat) hy => gN_sub (o := b + 24) (k := 15) (n := 5) (hsub y hy)
  refine r_putF (T := TX12) (v := b + 24) hx hb hts in12 tyX12 tyX12_ok nmX12 hown hK hP hD hT hS k0 (by decide) rfl 40 (by decide) (hts (.fieldLink RX12 91 "StoneWalkModel$Island" "tryTons" "[I") (List.mem_of_getElem? (i := 31) (by decide +kernel))) rfl rfl hin rfl (tyX12_ok 40 (by decide)) rfl rfl rfl (fun t n ht => by cases ht; exact k24) rfl dX12_init_192 (fun H locs hP hD hT hS => ?_)
  have n0 := gR_s (M := (zM (pR (zM (pR (zM (pR (zM (pR (zM (pR (zM (pI (pI (pI (pR (zM (pR (zM (pR (zM (pR (zM (pR (zM (pR (zM (pR (zM (pR (zM (pR (zM (pR (zM (pR (zM (pR (zM (pR (zM (pR (zM (pR (zM (pR (zM (pR (zM (pR (zM M (b + 1)) (b) 9 (some (b + 1))) (b + 2)) (b) 10 (some (b + 2))) (b + 3)) (b) 11 (some (b + 3))) (b + 4)) (b) 12 (some (b + 4))) (b + 5)) (b) 13 (some (b + 5))) (b + 6)) (b) 14 (some (b + 6))) (b + 7)) (b) 15 (some (b + 7))) (b + 8)) (b) 16 (some (b + 8))) (b + 9)) (b) 17 (some (b + 9))) (b + 10)) (b) 18 (some (b + 10))) (b + 11)) (b) 19 (some (b + 11))) (b + 12)) (b) 20 (some (b + 12))) (b + 13)) (b) 21 (some (b + 13))) (b + 14)) (b) 22 (some (b + 14))) (b + 15)) (b) 23 (some (b + 15))) (b + 16)) (b) 24 (some (b + 16))) (b + 17)) (b) 25 (some (b + 17))) (b + 18)) (b) 26 (some (b + 18))) (b) 27 (-1)) (b) 30 (-1)) (b) 32 (-1)) (b + 19)) (b) 35 (some (b + 19))) (b + 20)) (b) 36 (some (b + 20))) (b + 21)) (b) 37 (some (b + 21))) (b + 22)) (b) 38 (some (b + 22))) (b + 23)) (b) 39 (some (b + 23))) (b + 24))) (a := b) (j := 40) (v := some (b + 24))
  refine lv_aload_n hx hb dX12_init_195 rfl (lv_at hl 0 rfl) ?_
  refine lv_iconst (v := 5) hx hb dX12_init_196 rfl ?_
  refine r_newa (atype := .int) (o := b + 25) (kd := 15) (t0 := 1) (N' := 5) hx hb (hts (.arrayClass .int) (List.mem_of_getElem? (i := 4) (by decide +kernel))) rfl htop rfl (by decide) rfl (fun cA h1 h2 => Option.some.inj (h1.symm.trans h2)) hP hK hD hT hS hA new_i (fun _ => arE_e (by decide)) (by decide) rfl (Nat.le_of_ble_eq_true rfl) (Nat.le_of_ble_eq_true rfl) (Nat.le_of_ble_eq_true rfl) (fun ad => [(0, .ref (ad b))]) hl (fun ad' hh => by simp only [hh _ k0.1]) (fun ad => [.ref (ad b)]) (fun ad' hh => by simp only [hh _ k0.1]) rfl dX12_init_197 (fun ad H hh hP hD hT hS hl => ?_)
  have k0 := k0.up1 (k := 15) (n := 5) htop rfl
  have htop := htop.nw1 (k := 15) (n := 5) (o := (b + 25)) rfl
  have k25 := ok.nwt htop
  have hold := fun (y : Nat) hy => (hh y (hsub y hy)).trans (hold y hy)
  have hsub := fun (y : Nat) hy => gN_sub (o := b + 25) (k := 15) (n := 5) (hsub y hy)
  refine r_putF (T := TX12) (v := b + 25) hx hb hts in12 tyX12 tyX12_ok nmX12 hown hK hP hD hT hS k0 (by decide) rfl 41 (by decide) (hts (.fieldLink RX12 94 "StoneWalkModel$Island" "tryLean" "[I") (List.mem_of_getElem? (i := 32) (by decide +kernel))) rfl rfl hin rfl (tyX12_ok 41 (by decide)) rfl rfl rfl (fun t n ht => by cases ht; exact k25) rfl dX12_init_199 (fun H locs hP hD hT hS => ?_)
  have n0 := gR_s (M := (zM (pR (zM (pR (zM (pR (zM (pR (zM (pR (zM (pR (zM (pI (pI (pI (pR (zM (pR (zM (pR (zM (pR (zM (pR (zM (pR (zM (pR (zM (pR (zM (pR (zM (pR (zM (pR (zM (pR (zM (pR (zM (pR (zM (pR (zM (pR (zM (pR (zM (pR (zM M (b + 1)) (b) 9 (some (b + 1))) (b + 2)) (b) 10 (some (b + 2))) (b + 3)) (b) 11 (some (b + 3))) (b + 4)) (b) 12 (some (b + 4))) (b + 5)) (b) 13 (some (b + 5))) (b + 6)) (b) 14 (some (b + 6))) (b + 7)) (b) 15 (some (b + 7))) (b + 8)) (b) 16 (some (b + 8))) (b + 9)) (b) 17 (some (b + 9))) (b + 10)) (b) 18 (some (b + 10))) (b + 11)) (b) 19 (some (b + 11))) (b + 12)) (b) 20 (some (b + 12))) (b + 13)) (b) 21 (some (b + 13))) (b + 14)) (b) 22 (some (b + 14))) (b + 15)) (b) 23 (some (b + 15))) (b + 16)) (b) 24 (some (b + 16))) (b + 17)) (b) 25 (some (b + 17))) (b + 18)) (b) 26 (some (b + 18))) (b) 27 (-1)) (b) 30 (-1)) (b) 32 (-1)) (b + 19)) (b) 35 (some (b + 19))) (b + 20)) (b) 36 (some (b + 20))) (b + 21)) (b) 37 (some (b + 21))) (b + 22)) (b) 38 (some (b + 22))) (b + 23)) (b) 39 (some (b + 23))) (b + 24)) (b) 40 (some (b + 24))) (b + 25))) (a := b) (j := 41) (v := some (b + 25))
  refine lv_aload_n hx hb dX12_init_202 rfl (lv_at hl 0 rfl) ?_
  refine lv_iconst (v := 5) hx hb dX12_init_203 rfl ?_
  refine r_newa (atype := .int) (o := b + 26) (kd := 15) (t0 := 1) (N' := 5) hx hb (hts (.arrayClass .int) (List.mem_of_getElem? (i := 4) (by decide +kernel))) rfl htop rfl (by decide) rfl (fun cA h1 h2 => Option.some.inj (h1.symm.trans h2)) hP hK hD hT hS hA new_i (fun _ => arE_e (by decide)) (by decide) rfl (Nat.le_of_ble_eq_true rfl) (Nat.le_of_ble_eq_true rfl) (Nat.le_of_ble_eq_true rfl) (fun ad => [(0, .ref (ad b))]) hl (fun ad' hh => by simp only [hh _ k0.1]) (fun ad => [.ref (ad b)]) (fun ad' hh => by simp only [hh _ k0.1]) rfl dX12_init_204 (fun ad H hh hP hD hT hS hl => ?_)
  have k0 := k0.up1 (k := 15) (n := 5) htop rfl
  have htop := htop.nw1 (k := 15) (n := 5) (o := (b + 26)) rfl
  have k26 := ok.nwt htop
  have hold := fun (y : Nat) hy => (hh y (hsub y hy)).trans (hold y hy)
  have hsub := fun (y : Nat) hy => gN_sub (o := b + 26) (k := 15) (n := 5) (hsub y hy)
  refine r_putF (T := TX12) (v := b + 26) hx hb hts in12 tyX12 tyX12_ok nmX12 hown hK hP hD hT hS k0 (by decide) rfl 42 (by decide) (hts (.fieldLink RX12 97 "StoneWalkModel$Island" "tryEdge" "[I") (List.mem_of_getElem? (i := 33) (by decide +kernel))) rfl rfl hin rfl (tyX12_ok 42 (by decide)) rfl rfl rfl (fun t n ht => by cases ht; exact k26) rfl dX12_init_206 (fun H locs hP hD hT hS => ?_)
  have n0 := gR_s (M := (zM (pR (zM (pR (zM (pR (zM (pR (zM (pR (zM (pR (zM (pR (zM (pI (pI (pI (pR (zM (pR (zM (pR (zM (pR (zM (pR (zM (pR (zM (pR (zM (pR (zM (pR (zM (pR (zM (pR (zM (pR (zM (pR (zM (pR (zM (pR (zM (pR (zM (pR (zM (pR (zM M (b + 1)) (b) 9 (some (b + 1))) (b + 2)) (b) 10 (some (b + 2))) (b + 3)) (b) 11 (some (b + 3))) (b + 4)) (b) 12 (some (b + 4))) (b + 5)) (b) 13 (some (b + 5))) (b + 6)) (b) 14 (some (b + 6))) (b + 7)) (b) 15 (some (b + 7))) (b + 8)) (b) 16 (some (b + 8))) (b + 9)) (b) 17 (some (b + 9))) (b + 10)) (b) 18 (some (b + 10))) (b + 11)) (b) 19 (some (b + 11))) (b + 12)) (b) 20 (some (b + 12))) (b + 13)) (b) 21 (some (b + 13))) (b + 14)) (b) 22 (some (b + 14))) (b + 15)) (b) 23 (some (b + 15))) (b + 16)) (b) 24 (some (b + 16))) (b + 17)) (b) 25 (some (b + 17))) (b + 18)) (b) 26 (some (b + 18))) (b) 27 (-1)) (b) 30 (-1)) (b) 32 (-1)) (b + 19)) (b) 35 (some (b + 19))) (b + 20)) (b) 36 (some (b + 20))) (b + 21)) (b) 37 (some (b + 21))) (b + 22)) (b) 38 (some (b + 22))) (b + 23)) (b) 39 (some (b + 23))) (b + 24)) (b) 40 (some (b + 24))) (b + 25)) (b) 41 (some (b + 25))) (b + 26))) (a := b) (j := 42) (v := some (b + 26))
  refine lv_aload_n hx hb dX12_init_209 rfl (lv_at hl 0 rfl) ?_
  refine lv_iconst (v := 5) hx hb dX12_init_210 rfl ?_
  refine r_newa (atype := .int) (o := b + 27) (kd := 15) (t0 := 1) (N' := 5) hx hb (hts (.arrayClass .int) (List.mem_of_getElem? (i := 4) (by decide +kernel))) rfl htop rfl (by decide) rfl (fun cA h1 h2 => Option.some.inj (h1.symm.trans h2)) hP hK hD hT hS hA new_i (fun _ => arE_e (by decide)) (by decide) rfl (Nat.le_of_ble_eq_true rfl) (Nat.le_of_ble_eq_true rfl) (Nat.le_of_ble_eq_true rfl) (fun ad => [(0, .ref (ad b))]) hl (fun ad' hh => by simp only [hh _ k0.1]) (fun ad => [.ref (ad b)]) (fun ad' hh => by simp only [hh _ k0.1]) rfl dX12_init_211 (fun ad H hh hP hD hT hS hl => ?_)
  have k0 := k0.up1 (k := 15) (n := 5) htop rfl
  have htop := htop.nw1 (k := 15) (n := 5) (o := (b + 27)) rfl
  have k27 := ok.nwt htop
  have hold := fun (y : Nat) hy => (hh y (hsub y hy)).trans (hold y hy)
  have hsub := fun (y : Nat) hy => gN_sub (o := b + 27) (k := 15) (n := 5) (hsub y hy)
  refine r_putF (T := TX12) (v := b + 27) hx hb hts in12 tyX12 tyX12_ok nmX12 hown hK hP hD hT hS k0 (by decide) rfl 43 (by decide) (hts (.fieldLink RX12 100 "StoneWalkModel$Island" "trySlope" "[I") (List.mem_of_getElem? (i := 34) (by decide +kernel))) rfl rfl hin rfl (tyX12_ok 43 (by decide)) rfl rfl rfl (fun t n ht => by cases ht; exact k27) rfl dX12_init_213 (fun H locs hP hD hT hS => ?_)
  have n0 := gR_s (M := (zM (pR (zM (pR (zM (pR (zM (pR (zM (pR (zM (pR (zM (pR (zM (pR (zM (pI (pI (pI (pR (zM (pR (zM (pR (zM (pR (zM (pR (zM (pR (zM (pR (zM (pR (zM (pR (zM (pR (zM (pR (zM (pR (zM (pR (zM (pR (zM (pR (zM (pR (zM (pR (zM (pR (zM M (b + 1)) (b) 9 (some (b + 1))) (b + 2)) (b) 10 (some (b + 2))) (b + 3)) (b) 11 (some (b + 3))) (b + 4)) (b) 12 (some (b + 4))) (b + 5)) (b) 13 (some (b + 5))) (b + 6)) (b) 14 (some (b + 6))) (b + 7)) (b) 15 (some (b + 7))) (b + 8)) (b) 16 (some (b + 8))) (b + 9)) (b) 17 (some (b + 9))) (b + 10)) (b) 18 (some (b + 10))) (b + 11)) (b) 19 (some (b + 11))) (b + 12)) (b) 20 (some (b + 12))) (b + 13)) (b) 21 (some (b + 13))) (b + 14)) (b) 22 (some (b + 14))) (b + 15)) (b) 23 (some (b + 15))) (b + 16)) (b) 24 (some (b + 16))) (b + 17)) (b) 25 (some (b + 17))) (b + 18)) (b) 26 (some (b + 18))) (b) 27 (-1)) (b) 30 (-1)) (b) 32 (-1)) (b + 19)) (b) 35 (some (b + 19))) (b + 20)) (b) 36 (some (b + 20))) (b + 21)) (b) 37 (some (b + 21))) (b + 22)) (b) 38 (some (b + 22))) (b + 23)) (b) 39 (some (b + 23))) (b + 24)) (b) 40 (some (b + 24))) (b + 25)) (b) 41 (some (b + 25))) (b + 26)) (b) 42 (some (b + 26))) (b + 27))) (a := b) (j := 43) (v := some (b + 27))
  refine lv_aload_n hx hb dX12_init_216 rfl (lv_at hl 0 rfl) ?_
  refine lv_iconst (v := 3) hx hb dX12_init_217 rfl ?_
  refine r_newa (atype := .boolean) (o := b + 28) (kd := 17) (t0 := 3) (N' := 3) hx hb (hts (.arrayClass .boolean) (List.mem_of_getElem? (i := 35) (by decide +kernel))) rfl htop rfl (by decide) rfl (fun cA h1 h2 => Option.some.inj (h1.symm.trans h2)) hP hK hD hT hS hA new_z (fun _ => arE_e (by decide)) (by decide) rfl (Nat.le_of_ble_eq_true rfl) (Nat.le_of_ble_eq_true rfl) (Nat.le_of_ble_eq_true rfl) (fun ad => [(0, .ref (ad b))]) hl (fun ad' hh => by simp only [hh _ k0.1]) (fun ad => [.ref (ad b)]) (fun ad' hh => by simp only [hh _ k0.1]) rfl dX12_init_218 (fun ad H hh hP hD hT hS hl => ?_)
  have k0 := k0.up1 (k := 17) (n := 3) htop rfl
  have htop := htop.nw1 (k := 17) (n := 3) (o := (b + 28)) rfl
  have k28 := ok.nwt htop
  have hold := fun (y : Nat) hy => (hh y (hsub y hy)).trans (hold y hy)
  have hsub := fun (y : Nat) hy => gN_sub (o := b + 28) (k := 17) (n := 3) (hsub y hy)
  refine r_putF (T := TX12) (v := b + 28) hx hb hts in12 tyX12 tyX12_ok nmX12 hown hK hP hD hT hS k0 (by decide) rfl 44 (by decide) (hts (.fieldLink RX12 103 "StoneWalkModel$Island" "isStranger" "[Z") (List.mem_of_getElem? (i := 36) (by decide +kernel))) rfl rfl hin rfl (tyX12_ok 44 (by decide)) rfl rfl rfl (fun t n ht => by cases ht; exact k28) rfl dX12_init_220 (fun H locs hP hD hT hS => ?_)
  have n0 := gR_s (M := (zM (pR (zM (pR (zM (pR (zM (pR (zM (pR (zM (pR (zM (pR (zM (pR (zM (pR (zM (pI (pI (pI (pR (zM (pR (zM (pR (zM (pR (zM (pR (zM (pR (zM (pR (zM (pR (zM (pR (zM (pR (zM (pR (zM (pR (zM (pR (zM (pR (zM (pR (zM (pR (zM (pR (zM (pR (zM M (b + 1)) (b) 9 (some (b + 1))) (b + 2)) (b) 10 (some (b + 2))) (b + 3)) (b) 11 (some (b + 3))) (b + 4)) (b) 12 (some (b + 4))) (b + 5)) (b) 13 (some (b + 5))) (b + 6)) (b) 14 (some (b + 6))) (b + 7)) (b) 15 (some (b + 7))) (b + 8)) (b) 16 (some (b + 8))) (b + 9)) (b) 17 (some (b + 9))) (b + 10)) (b) 18 (some (b + 10))) (b + 11)) (b) 19 (some (b + 11))) (b + 12)) (b) 20 (some (b + 12))) (b + 13)) (b) 21 (some (b + 13))) (b + 14)) (b) 22 (some (b + 14))) (b + 15)) (b) 23 (some (b + 15))) (b + 16)) (b) 24 (some (b + 16))) (b + 17)) (b) 25 (some (b + 17))) (b + 18)) (b) 26 (some (b + 18))) (b) 27 (-1)) (b) 30 (-1)) (b) 32 (-1)) (b + 19)) (b) 35 (some (b + 19))) (b + 20)) (b) 36 (some (b + 20))) (b + 21)) (b) 37 (some (b + 21))) (b + 22)) (b) 38 (some (b + 22))) (b + 23)) (b) 39 (some (b + 23))) (b + 24)) (b) 40 (some (b + 24))) (b + 25)) (b) 41 (some (b + 25))) (b + 26)) (b) 42 (some (b + 26))) (b + 27)) (b) 43 (some (b + 27))) (b + 28))) (a := b) (j := 44) (v := some (b + 28))
  refine lv_aload_n hx hb dX12_init_223 rfl (lv_at hl 0 rfl) ?_
  refine lv_bipush (v := 35) hx hb dX12_init_224 rfl ?_
  refine r_newa (atype := .long) (o := b + 29) (kd := 16) (t0 := 2) (N' := 35) hx hb (hts (.arrayClass .long) (List.mem_of_getElem? (i := 37) (by decide +kernel))) rfl htop rfl (by decide) rfl (fun cA h1 h2 => Option.some.inj (h1.symm.trans h2)) hP hK hD hT hS hA new_l (fun _ => arE_e (by decide)) (by decide) rfl (Nat.le_of_ble_eq_true rfl) (Nat.le_of_ble_eq_true rfl) (Nat.le_of_ble_eq_true rfl) (fun ad => [(0, .ref (ad b))]) hl (fun ad' hh => by simp only [hh _ k0.1]) (fun ad => [.ref (ad b)]) (fun ad' hh => by simp only [hh _ k0.1]) rfl dX12_init_226 (fun ad H hh hP hD hT hS hl => ?_)
  have k0 := k0.up1 (k := 16) (n := 35) htop rfl
  have htop := htop.nw1 (k := 16) (n := 35) (o := (b + 29)) rfl
  have k29 := ok.nwt htop
  have hold := fun (y : Nat) hy => (hh y (hsub y hy)).trans (hold y hy)
  have hsub := fun (y : Nat) hy => gN_sub (o := b + 29) (k := 16) (n := 35) (hsub y hy)
  refine r_putF (T := TX12) (v := b + 29) hx hb hts in12 tyX12 tyX12_ok nmX12 hown hK hP hD hT hS k0 (by decide) rfl 45 (by decide) (hts (.fieldLink RX12 107 "StoneWalkModel$Island" "name" "[J") (List.mem_of_getElem? (i := 38) (by decide +kernel))) rfl rfl hin rfl (tyX12_ok 45 (by decide)) rfl rfl rfl (fun t n ht => by cases ht; exact k29) rfl dX12_init_228 (fun H locs hP hD hT hS => ?_)
  have n0 := gR_s (M := (zM (pR (zM (pR (zM (pR (zM (pR (zM (pR (zM (pR (zM (pR (zM (pR (zM (pR (zM (pR (zM (pI (pI (pI (pR (zM (pR (zM (pR (zM (pR (zM (pR (zM (pR (zM (pR (zM (pR (zM (pR (zM (pR (zM (pR (zM (pR (zM (pR (zM (pR (zM (pR (zM (pR (zM (pR (zM (pR (zM M (b + 1)) (b) 9 (some (b + 1))) (b + 2)) (b) 10 (some (b + 2))) (b + 3)) (b) 11 (some (b + 3))) (b + 4)) (b) 12 (some (b + 4))) (b + 5)) (b) 13 (some (b + 5))) (b + 6)) (b) 14 (some (b + 6))) (b + 7)) (b) 15 (some (b + 7))) (b + 8)) (b) 16 (some (b + 8))) (b + 9)) (b) 17 (some (b + 9))) (b + 10)) (b) 18 (some (b + 10))) (b + 11)) (b) 19 (some (b + 11))) (b + 12)) (b) 20 (some (b + 12))) (b + 13)) (b) 21 (some (b + 13))) (b + 14)) (b) 22 (some (b + 14))) (b + 15)) (b) 23 (some (b + 15))) (b + 16)) (b) 24 (some (b + 16))) (b + 17)) (b) 25 (some (b + 17))) (b + 18)) (b) 26 (some (b + 18))) (b) 27 (-1)) (b) 30 (-1)) (b) 32 (-1)) (b + 19)) (b) 35 (some (b + 19))) (b + 20)) (b) 36 (some (b + 20))) (b + 21)) (b) 37 (some (b + 21))) (b + 22)) (b) 38 (some (b + 22))) (b + 23)) (b) 39 (some (b + 23))) (b + 24)) (b) 40 (some (b + 24))) (b + 25)) (b) 41 (some (b + 25))) (b + 26)) (b) 42 (some (b + 26))) (b + 27)) (b) 43 (some (b + 27))) (b + 28)) (b) 44 (some (b + 28))) (b + 29))) (a := b) (j := 45) (v := some (b + 29))
  refine lv_aload_n hx hb dX12_init_231 rfl (lv_at hl 0 rfl) ?_
  refine lv_bipush (v := 35) hx hb dX12_init_232 rfl ?_
  refine r_newa (atype := .int) (o := b + 30) (kd := 15) (t0 := 1) (N' := 35) hx hb (hts (.arrayClass .int) (List.mem_of_getElem? (i := 4) (by decide +kernel))) rfl htop rfl (by decide) rfl (fun cA h1 h2 => Option.some.inj (h1.symm.trans h2)) hP hK hD hT hS hA new_i (fun _ => arE_e (by decide)) (by decide) rfl (Nat.le_of_ble_eq_true rfl) (Nat.le_of_ble_eq_true rfl) (Nat.le_of_ble_eq_true rfl) (fun ad => [(0, .ref (ad b))]) hl (fun ad' hh => by simp only [hh _ k0.1]) (fun ad => [.ref (ad b)]) (fun ad' hh => by simp only [hh _ k0.1]) rfl dX12_init_234 (fun ad H hh hP hD hT hS hl => ?_)
  have k0 := k0.up1 (k := 15) (n := 35) htop rfl
  have htop := htop.nw1 (k := 15) (n := 35) (o := (b + 30)) rfl
  have k30 := ok.nwt htop
  have hold := fun (y : Nat) hy => (hh y (hsub y hy)).trans (hold y hy)
  have hsub := fun (y : Nat) hy => gN_sub (o := b + 30) (k := 15) (n := 35) (hsub y hy)
  refine r_putF (T := TX12) (v := b + 30) hx hb hts in12 tyX12 tyX12_ok nmX12 hown hK hP hD hT hS k0 (by decide) rfl 46 (by decide) (hts (.fieldLink RX12 111 "StoneWalkModel$Island" "nameSort" "[I") (List.mem_of_getElem? (i := 39) (by decide +kernel))) rfl rfl hin rfl (tyX12_ok 46 (by decide)) rfl rfl rfl (fun t n ht => by cases ht; exact k30) rfl dX12_init_236 (fun H locs hP hD hT hS => ?_)
  have n0 := gR_s (M := (zM (pR (zM (pR (zM (pR (zM (pR (zM (pR (zM (pR (zM (pR (zM (pR (zM (pR (zM (pR (zM (pR (zM (pI (pI (pI (pR (zM (pR (zM (pR (zM (pR (zM (pR (zM (pR (zM (pR (zM (pR (zM (pR (zM (pR (zM (pR (zM (pR (zM (pR (zM (pR (zM (pR (zM (pR (zM (pR (zM (pR (zM M (b + 1)) (b) 9 (some (b + 1))) (b + 2)) (b) 10 (some (b + 2))) (b + 3)) (b) 11 (some (b + 3))) (b + 4)) (b) 12 (some (b + 4))) (b + 5)) (b) 13 (some (b + 5))) (b + 6)) (b) 14 (some (b + 6))) (b + 7)) (b) 15 (some (b + 7))) (b + 8)) (b) 16 (some (b + 8))) (b + 9)) (b) 17 (some (b + 9))) (b + 10)) (b) 18 (some (b + 10))) (b + 11)) (b) 19 (some (b + 11))) (b + 12)) (b) 20 (some (b + 12))) (b + 13)) (b) 21 (some (b + 13))) (b + 14)) (b) 22 (some (b + 14))) (b + 15)) (b) 23 (some (b + 15))) (b + 16)) (b) 24 (some (b + 16))) (b + 17)) (b) 25 (some (b + 17))) (b + 18)) (b) 26 (some (b + 18))) (b) 27 (-1)) (b) 30 (-1)) (b) 32 (-1)) (b + 19)) (b) 35 (some (b + 19))) (b + 20)) (b) 36 (some (b + 20))) (b + 21)) (b) 37 (some (b + 21))) (b + 22)) (b) 38 (some (b + 22))) (b + 23)) (b) 39 (some (b + 23))) (b + 24)) (b) 40 (some (b + 24))) (b + 25)) (b) 41 (some (b + 25))) (b + 26)) (b) 42 (some (b + 26))) (b + 27)) (b) 43 (some (b + 27))) (b + 28)) (b) 44 (some (b + 28))) (b + 29)) (b) 45 (some (b + 29))) (b + 30))) (a := b) (j := 46) (v := some (b + 30))
  refine lv_aload_n hx hb dX12_init_239 rfl (lv_at hl 0 rfl) ?_
  refine lv_bipush (v := 35) hx hb dX12_init_240 rfl ?_
  refine r_newa (atype := .int) (o := b + 31) (kd := 15) (t0 := 1) (N' := 35) hx hb (hts (.arrayClass .int) (List.mem_of_getElem? (i := 4) (by decide +kernel))) rfl htop rfl (by decide) rfl (fun cA h1 h2 => Option.some.inj (h1.symm.trans h2)) hP hK hD hT hS hA new_i (fun _ => arE_e (by decide)) (by decide) rfl (Nat.le_of_ble_eq_true rfl) (Nat.le_of_ble_eq_true rfl) (Nat.le_of_ble_eq_true rfl) (fun ad => [(0, .ref (ad b))]) hl (fun ad' hh => by simp only [hh _ k0.1]) (fun ad => [.ref (ad b)]) (fun ad' hh => by simp only [hh _ k0.1]) rfl dX12_init_242 (fun ad H hh hP hD hT hS hl => ?_)
  have k0 := k0.up1 (k := 15) (n := 35) htop rfl
  have htop := htop.nw1 (k := 15) (n := 35) (o := (b + 31)) rfl
  have k31 := ok.nwt htop
  have hold := fun (y : Nat) hy => (hh y (hsub y hy)).trans (hold y hy)
  have hsub := fun (y : Nat) hy => gN_sub (o := b + 31) (k := 15) (n := 35) (hsub y hy)
  refine r_putF (T := TX12) (v := b + 31) hx hb hts in12 tyX12 tyX12_ok nmX12 hown hK hP hD hT hS k0 (by decide) rfl 47 (by decide) (hts (.fieldLink RX12 114 "StoneWalkModel$Island" "nameNumber" "[I") (List.mem_of_getElem? (i := 40) (by decide +kernel))) rfl rfl hin rfl (tyX12_ok 47 (by decide)) rfl rfl rfl (fun t n ht => by cases ht; exact k31) rfl dX12_init_244 (fun H locs hP hD hT hS => ?_)
  have n0 := gR_s (M := (zM (pR (zM (pR (zM (pR (zM (pR (zM (pR (zM (pR (zM (pR (zM (pR (zM (pR (zM (pR (zM (pR (zM (pR (zM (pI (pI (pI (pR (zM (pR (zM (pR (zM (pR (zM (pR (zM (pR (zM (pR (zM (pR (zM (pR (zM (pR (zM (pR (zM (pR (zM (pR (zM (pR (zM (pR (zM (pR (zM (pR (zM (pR (zM M (b + 1)) (b) 9 (some (b + 1))) (b + 2)) (b) 10 (some (b + 2))) (b + 3)) (b) 11 (some (b + 3))) (b + 4)) (b) 12 (some (b + 4))) (b + 5)) (b) 13 (some (b + 5))) (b + 6)) (b) 14 (some (b + 6))) (b + 7)) (b) 15 (some (b + 7))) (b + 8)) (b) 16 (some (b + 8))) (b + 9)) (b) 17 (some (b + 9))) (b + 10)) (b) 18 (some (b + 10))) (b + 11)) (b) 19 (some (b + 11))) (b + 12)) (b) 20 (some (b + 12))) (b + 13)) (b) 21 (some (b + 13))) (b + 14)) (b) 22 (some (b + 14))) (b + 15)) (b) 23 (some (b + 15))) (b + 16)) (b) 24 (some (b + 16))) (b + 17)) (b) 25 (some (b + 17))) (b + 18)) (b) 26 (some (b + 18))) (b) 27 (-1)) (b) 30 (-1)) (b) 32 (-1)) (b + 19)) (b) 35 (some (b + 19))) (b + 20)) (b) 36 (some (b + 20))) (b + 21)) (b) 37 (some (b + 21))) (b + 22)) (b) 38 (some (b + 22))) (b + 23)) (b) 39 (some (b + 23))) (b + 24)) (b) 40 (some (b + 24))) (b + 25)) (b) 41 (some (b + 25))) (b + 26)) (b) 42 (some (b + 26))) (b + 27)) (b) 43 (some (b + 27))) (b + 28)) (b) 44 (some (b + 28))) (b + 29)) (b) 45 (some (b + 29))) (b + 30)) (b) 46 (some (b + 30))) (b + 31))) (a := b) (j := 47) (v := some (b + 31))
  refine W.widen (k := 31) (n := 282) (Nat.le_of_ble_eq_true rfl) (Nat.le_of_ble_eq_true rfl) ?_
  exact r_nret hx hb hr hlocks hP hK hD hT hG hS hold htop rfl rfl dX12_init_247
