theorem hdI_X11_init : yX11_init.cls ≠ "java/lang/invoke/MethodHandle" ∧ yX11_init.cls ≠ "java/lang/invoke/VarHandle" ∧ (parseMethodDescriptor yX11_init.desc).map (fun d => d.parameters.length) = some 0 := by decide +kernel
theorem ok_X11_init {g : CG} {b y kd z : Nat} (htop : topA g b) (h : ok g y kd z) : ok (gF_X11_init g b) y kd z ∧ topA (gF_X11_init g b) (b + 116) := by
  have h := h.up1 (k := 7) (n := 0) (o := b + 1) htop rfl
  have htop := htop.nw1 (k := 7) (n := 0) (o := b + 1) rfl
  obtain ⟨h, htop⟩ := ok_X7_init (b := b + 1) htop h
  have h := h.up1 (k := 2) (n := 0) (o := b + 3) htop rfl
  have htop := htop.nw1 (k := 2) (n := 0) (o := b + 3) rfl
  obtain ⟨h, htop⟩ := ok_X2_init (b := b + 3) htop h
  have h := h.up1 (k := 4) (n := 0) (o := b + 7) htop rfl
  have htop := htop.nw1 (k := 4) (n := 0) (o := b + 7) rfl
  obtain ⟨h, htop⟩ := ok_X4_init (b := b + 7) htop h
  have h := h.up1 (k := 1) (n := 0) (o := b + 11) htop rfl
  have htop := htop.nw1 (k := 1) (n := 0) (o := b + 11) rfl
  have h := h.up1 (k := 1) (n := 0) (o := b + 12) htop rfl
  have htop := htop.nw1 (k := 1) (n := 0) (o := b + 12) rfl
  have h := h.up1 (k := 0) (n := 0) (o := b + 13) htop rfl
  have htop := htop.nw1 (k := 0) (n := 0) (o := b + 13) rfl
  obtain ⟨h, htop⟩ := ok_X0_init (b := b + 13) htop h
  have h := h.up1 (k := 0) (n := 0) (o := b + 65) htop rfl
  have htop := htop.nw1 (k := 0) (n := 0) (o := b + 65) rfl
  obtain ⟨h, htop⟩ := ok_X0_init (b := b + 65) htop h
  exact ⟨h, htop⟩
theorem sub_X11_init {g : CG} {b y : Nat} (h : y ∈ g.1) : y ∈ (gF_X11_init g b).1 := by
  have h := gN_sub (o := b + 1) (k := 7) (n := 0) h
  have h := sub_X7_init (b := b + 1) h
  have h := gN_sub (o := b + 3) (k := 2) (n := 0) h
  have h := sub_X2_init (b := b + 3) h
  have h := gN_sub (o := b + 7) (k := 4) (n := 0) h
  have h := sub_X4_init (b := b + 7) h
  have h := gN_sub (o := b + 11) (k := 1) (n := 0) h
  have h := gN_sub (o := b + 12) (k := 1) (n := 0) h
  have h := gN_sub (o := b + 13) (k := 0) (n := 0) h
  have h := sub_X0_init (b := b + 13) h
  have h := gN_sub (o := b + 65) (k := 0) (n := 0) h
  have h := sub_X0_init (b := b + 65) h
  exact h
theorem gR_X11_init {M : MM} {b y k : Nat} (h : y < b) : gR (f_X11_init M b) y k = gR M y k := by
  unfold f_X11_init
  refine Eq.trans (b := gR _ y k) rfl ?_
  refine (gR_p (by omega)).trans ?_
  refine (gR_X0_init (by omega)).trans ?_
  refine (gR_z (by omega)).trans ?_
  refine (gR_p (by omega)).trans ?_
  refine (gR_X0_init (by omega)).trans ?_
  refine (gR_z (by omega)).trans ?_
  refine (gR_p (by omega)).trans ?_
  refine (gR_z (by omega)).trans ?_
  refine (gR_p (by omega)).trans ?_
  refine (gR_z (by omega)).trans ?_
  refine (gR_p (by omega)).trans ?_
  refine (gR_X4_init (by omega)).trans ?_
  refine (gR_z (by omega)).trans ?_
  refine (gR_p (by omega)).trans ?_
  refine (gR_X2_init (by omega)).trans ?_
  refine (gR_z (by omega)).trans ?_
  refine (gR_p (by omega)).trans ?_
  refine (gR_X7_init (by omega)).trans ?_
  refine (gR_z (by omega)).trans ?_
  rfl
set_option maxHeartbeats 8000000 in
set_option maxRecDepth 100000 in
theorem c_X11_init {l : Launch} {D : va_G} {ad : Nat → Nat} {cy : Nat → ClassId} {A : Nat → Prop} {g : CG} {q : SE} (M : MM) (b : Nat) (k0 : ok g b 11 0) (htop : topA g b) : Met l yX11_init wsX11_init ({ frames := 3, cells := 116, slots := 2635, locals := 53 }) (va_Pc [.ref (ad b)] (WdA D ad cy A g q M)) (va_Qv (fun u => u = f_X11_init M b) (WdN D ad cy A g (gF_X11_init g b) (b + 116) q) A) 116 2635 A := by
  refine Met.ofW (cc := cX11_init) (maxL := 1) (ret := none) (by decide) rfl ?_
  intro p e s m args below meth c s₁ B hml hv
  obtain ⟨rfl, ⟨hP, hK, hD, hT, hG⟩, hA⟩ := hv
  have hx := B.exec
  have hb := B.bytes
  have hr := B.returns
  have hts := atoms_spec (ws := wsX11_init) B.pre
  have hown : s.vm.findClass RX11 = some m.cls := findClass_of_methodNamed B.named
  have hlocks := B.notSynchronized
  have hin : meth.name = "<init>" := (name_of_methodNamed B.named B.method).1
  have in0 : ∀ w ∈ u_ws RX0 TX0 17, w ∈ wsX11_init := fun w h => List.mem_cons_of_mem _ (List.mem_append_left _ (List.mem_append_left _ (List.mem_append_left _ (List.mem_append_left _ (List.mem_append_left _ (List.mem_append_left _ (List.mem_append_right _ h)))))))
  have in1 : ∀ w ∈ u_ws RX1 TX1 11, w ∈ wsX11_init := fun w h => List.mem_cons_of_mem _ (List.mem_append_left _ (List.mem_append_left _ (List.mem_append_left _ (List.mem_append_left _ (List.mem_append_left _ (List.mem_append_left _ (List.mem_append_left _ (List.mem_append_right _ h))))))))
  have in2 : ∀ w ∈ u_ws RX2 TX2 7, w ∈ wsX11_init := fun w h => List.mem_cons_of_mem _ (List.mem_append_left _ (List.mem_append_left _ (List.mem_append_left _ (List.mem_append_left _ (List.mem_append_left _ (List.mem_append_left _ (List.mem_append_left _ (List.mem_append_left _ (List.mem_append_left _ (List.mem_append_right _ h))))))))))
  have in4 : ∀ w ∈ u_ws RX4 TX4 4, w ∈ wsX11_init := fun w h => List.mem_cons_of_mem _ (List.mem_append_left _ (List.mem_append_left _ (List.mem_append_left _ (List.mem_append_left _ (List.mem_append_left _ (List.mem_append_left _ (List.mem_append_left _ (List.mem_append_left _ (List.mem_append_right _ h)))))))))
  have in7 : ∀ w ∈ u_ws RX7 TX7 7, w ∈ wsX11_init := fun w h => List.mem_cons_of_mem _ (List.mem_append_left _ (List.mem_append_left _ (List.mem_append_left _ (List.mem_append_left _ (List.mem_append_left _ (List.mem_append_left _ (List.mem_append_left _ (List.mem_append_left _ (List.mem_append_left _ (List.mem_append_left _ (List.mem_append_left _ (List.mem_append_right _ h))))))))))))
  have in11 : ∀ w ∈ u_ws RX11 TX11 8, w ∈ wsX11_init := fun w h => List.mem_cons_of_mem _ (List.mem_append_left _ (List.mem_append_left _ (List.mem_append_left _ (List.mem_append_left _ (List.mem_append_left _ (List.mem_append_left _ (List.mem_append_left _ (List.mem_append_left _ (List.mem_append_left _ (List.mem_append_left _ (List.mem_append_right _ h)))))))))))
  have hS : va_S A s.heap s.heap [] := va_S.rf
  have hl := lv_entry ([.ref (ad b)]) (n := 1) (Nat.le_of_ble_eq_true rfl)
  rw [lg_entry_eq]
  generalize (lg_sl ([.ref (ad b)]) ++ List.replicate (1 - (lg_sl ([.ref (ad b)])).length) Slot.unset).toArray = ls at hl ⊢
  have hl : lv_has ls 1 [(0, .ref (ad b))] := hl
  have hold : ∀ y ∈ g.1, ad y = ad y := fun _ _ => rfl
  have hsub : ∀ y ∈ g.1, y ∈ g.1 := fun _ h => h
  refine lv_aload_n hx hb dX11_init_0 rfl (lv_at hl 0 rfl) ?_
  refine W.objInit hx hb hown (hts (.methodLink RX11 1 objectInit) (List.mem_of_getElem? (i := 1) (by decide +kernel))) (hts (.instanceMethod objectInit) (List.mem_of_getElem? (i := 2) (by decide +kernel))) (hts (.code objectInit ⟨#[0xb1]⟩ 1 none) (List.mem_of_getElem? (i := 3) (by decide +kernel))) rfl (by rw [hml]; exact hl.1) rfl dX11_init_1 (Nat.le_of_ble_eq_true rfl) (Nat.le_of_ble_eq_true rfl) ?_
  refine W.eq (g2 := F0 m 4 ls []) rfl ?_
  refine lv_aload_n hx hb dX11_init_4 rfl (lv_at hl 0 rfl) ?_
  refine r_new (T := TX7) (ci := 7) (o := b + 1) hx hb hts in7 tyX7 tyX7_ok hown (hts (.classLink RX11 7 RX7) (List.mem_of_getElem? (i := 4) (by decide +kernel))) (hts (.instantiable RX7 7) (List.mem_of_getElem? (i := 5) (by decide +kernel))) (hts (.initialized RX7) (List.mem_of_getElem? (i := 6) (by decide +kernel))) hP hK hD hT hS hA (by decide) rfl htop rfl (fun j hj => by rw [fv_z]; rcases (show j = 0 ∨ j = 1 ∨ j = 2 ∨ j = 3 ∨ j = 4 ∨ j = 5 ∨ j = 6 by omega) with rfl | rfl | rfl | rfl | rfl | rfl | rfl <;> rfl) (fun _ => fv_e) (Nat.le_of_ble_eq_true rfl) (Nat.le_of_ble_eq_true rfl) (fun ad => [(0, .ref (ad b))]) hl (fun ad' hh => by simp only [hh _ k0.1]) (fun ad => [.ref (ad b)]) (fun ad' hh => by simp only [hh _ k0.1]) rfl dX11_init_5 (fun ad H hh hP hD hT hS hl => ?_)
  have k0 := k0.up1 (k := 7) (n := 0) htop rfl
  have htop := htop.nw1 (k := 7) (n := 0) (o := (b + 1)) rfl
  have k1 := ok.nwt htop
  have hold := fun (y : Nat) hy => (hh y (hsub y hy)).trans (hold y hy)
  have hsub := fun (y : Nat) hy => gN_sub (o := b + 1) (k := 7) (n := 0) (hsub y hy)
  refine lv_dup hx hb dX11_init_8 rfl ?_
  refine k_n (va_runIN (As := []) (rest := [.ref (ad (b + 1)), .ref (ad b)]) ⟨hx, hb, hml, hown, hts⟩ (c_X7_init (l := l) _ (b + 1) k1 htop) ⟨va_cnB 0 hts gX11_init_X7_init_n9 rfl rfl rfl (hG.2.1 ("StoneWalk", 9, ⟨"StoneWalk$Tape", "<init>", "()V"⟩, "StoneWalk") (List.mem_of_getElem? (i := 0) rfl)) (hts (.initialized RX7) (List.mem_of_getElem? (i := 6) (by decide +kernel))) hdI_X7_init ⟨Nat.le_of_ble_eq_true rfl, Nat.le_of_ble_eq_true rfl⟩, rfl, (hts (.instanceMethod yX7_init) (List.mem_of_getElem? (i := 27) (by decide +kernel)))⟩ (pSA hP hK hD hT hG hS hA) rfl rfl hl.1 rfl (lv_room (Nat.le_of_ble_eq_true rfl)) dX11_init_9 ⟨Nat.le_of_ble_eq_true rfl, Nat.le_of_ble_eq_true rfl⟩) hS (fun ad => [(0, .ref (ad b))]) hl (fun ad' hh => by simp only [hh _ k0.1]) (fun ad => [.ref (ad (b + 1)), .ref (ad b)]) (fun ad' hh => by simp only [hh _ k1.1, hh _ k0.1]) rfl (fun ad H locs hh hP hD hT htop1 hS hl => ?_)
  have k0 := (ok_X7_init (b := b + 1) htop k0).1
  have k1 := (ok_X7_init (b := b + 1) htop k1).1
  have hold := fun (y : Nat) hy => (hh y (hsub y hy)).trans (hold y hy)
  have hsub := fun (y : Nat) hy => sub_X7_init (b := b + 1) (hsub y hy)
  have htop := htop1
  refine r_putF (T := TX11) (v := b + 1) hx hb hts in11 tyX11 tyX11_ok nmX11 hown hK hP hD hT hS k0 (by decide) rfl 0 (by decide) (hts (.fieldLink RX11 10 "StoneWalk" "tape" "LStoneWalk$Tape;") (List.mem_of_getElem? (i := 7) (by decide +kernel))) rfl rfl hin rfl (tyX11_ok 0 (by decide)) rfl rfl rfl (fun t n ht => by cases ht; exact k1) rfl dX11_init_12 (fun H locs hP hD hT hS => ?_)
  have n0 := gR_s (M := (f_X7_init (zM M (b + 1)) (b + 1))) (a := b) (j := 0) (v := some (b + 1))
  refine lv_aload_n hx hb dX11_init_15 rfl (lv_at hl 0 rfl) ?_
  refine r_new (T := TX2) (ci := 2) (o := b + 3) hx hb hts in2 tyX2 tyX2_ok hown (hts (.classLink RX11 16 RX2) (List.mem_of_getElem? (i := 8) (by decide +kernel))) (hts (.instantiable RX2 7) (List.mem_of_getElem? (i := 9) (by decide +kernel))) (hts (.initialized RX2) (List.mem_of_getElem? (i := 10) (by decide +kernel))) hP hK hD hT hS hA (by decide) rfl htop rfl (fun j hj => by rw [fv_z]; rcases (show j = 0 ∨ j = 1 ∨ j = 2 ∨ j = 3 ∨ j = 4 ∨ j = 5 ∨ j = 6 by omega) with rfl | rfl | rfl | rfl | rfl | rfl | rfl <;> rfl) (fun _ => fv_e) (Nat.le_of_ble_eq_true rfl) (Nat.le_of_ble_eq_true rfl) (fun ad => [(0, .ref (ad b))]) hl (fun ad' hh => by simp only [hh _ k0.1]) (fun ad => [.ref (ad b)]) (fun ad' hh => by simp only [hh _ k0.1]) rfl dX11_init_16 (fun ad H hh hP hD hT hS hl => ?_)
  have k0 := k0.up1 (k := 2) (n := 0) htop rfl
  have k1 := k1.up1 (k := 2) (n := 0) htop rfl
  have htop := htop.nw1 (k := 2) (n := 0) (o := (b + 3)) rfl
  have k2 := ok.nwt htop
  have n0 := (gR_z (o := (b + 3)) (by omega)).trans n0
  have hold := fun (y : Nat) hy => (hh y (hsub y hy)).trans (hold y hy)
  have hsub := fun (y : Nat) hy => gN_sub (o := b + 3) (k := 2) (n := 0) (hsub y hy)
  refine lv_dup hx hb dX11_init_19 rfl ?_
  refine lv_aload_n hx hb dX11_init_20 rfl (lv_at hl 0 rfl) ?_
  refine r_get (T := TX11) (v := .ref (ad (b + 1))) hx hb hts in11 hown hK hP k0 (by decide) rfl 0 (by decide) (hts (.fieldLink RX11 10 "StoneWalk" "tape" "LStoneWalk$Tape;") (List.mem_of_getElem? (i := 7) (by decide +kernel))) rfl (t := 2) rfl (congrArg (fun z : Option Nat => va_rf (z.map ad)) n0) dX11_init_21 ?_
  refine k_n (va_runI (As := [.ref (ad (b + 1))]) (rest := [.ref (ad (b + 3)), .ref (ad b)]) ⟨hx, hb, hml, hown, hts⟩ (c_X2_init (l := l) _ (b + 3) (b + 1) k2 k1 htop) (cwI 1 hts gX11_init_X2_init rfl rfl rfl (hts (.initialized RX2) (List.mem_of_getElem? (i := 10) (by decide +kernel))) (hts (.methodLink RX11 18 yX2_init) (List.mem_of_getElem? (i := 32) (by decide +kernel))) (hts (.instanceMethod yX2_init) (List.mem_of_getElem? (i := 33) (by decide +kernel))) rfl hdI_X2_init ⟨Nat.le_of_ble_eq_true rfl, Nat.le_of_ble_eq_true rfl⟩) (pSA hP hK hD hT hG hS hA) rfl rfl hl.1 rfl (lv_room (Nat.le_of_ble_eq_true rfl)) dX11_init_24 ⟨Nat.le_of_ble_eq_true rfl, Nat.le_of_ble_eq_true rfl⟩) hS (fun ad => [(0, .ref (ad b))]) hl (fun ad' hh => by simp only [hh _ k0.1]) (fun ad => [.ref (ad (b + 3)), .ref (ad b)]) (fun ad' hh => by simp only [hh _ k2.1, hh _ k0.1]) rfl (fun ad H locs hh hP hD hT htop1 hS hl => ?_)
  have k0 := (ok_X2_init (b := b + 3) htop k0).1
  have k1 := (ok_X2_init (b := b + 3) htop k1).1
  have k2 := (ok_X2_init (b := b + 3) htop k2).1
  have n0 := (gR_X2_init (b := b + 3) (a1 := b + 1) (by omega)).trans n0
  have hold := fun (y : Nat) hy => (hh y (hsub y hy)).trans (hold y hy)
  have hsub := fun (y : Nat) hy => sub_X2_init (b := b + 3) (hsub y hy)
  have htop := htop1
  refine r_putF (T := TX11) (v := b + 3) hx hb hts in11 tyX11 tyX11_ok nmX11 hown hK hP hD hT hS k0 (by decide) rfl 1 (by decide) (hts (.fieldLink RX11 21 "StoneWalk" "reader" "LStoneWalk$Reader;") (List.mem_of_getElem? (i := 11) (by decide +kernel))) rfl rfl hin rfl (tyX11_ok 1 (by decide)) rfl rfl rfl (fun t n ht => by cases ht; exact k2) rfl dX11_init_27 (fun H locs hP hD hT hS => ?_)
  have n0 := (gR_p (a := b) (j := 1) (v := some (b + 3)) (by omega)).trans n0
  have n1 := gR_s (M := (f_X2_init (zM (pR (f_X7_init (zM M (b + 1)) (b + 1)) (b) 0 (some (b + 1))) (b + 3)) (b + 3) (b + 1))) (a := b) (j := 1) (v := some (b + 3))
  refine lv_aload_n hx hb dX11_init_30 rfl (lv_at hl 0 rfl) ?_
  refine r_new (T := TX4) (ci := 4) (o := b + 7) hx hb hts in4 tyX4 tyX4_ok hown (hts (.classLink RX11 25 RX4) (List.mem_of_getElem? (i := 12) (by decide +kernel))) (hts (.instantiable RX4 4) (List.mem_of_getElem? (i := 13) (by decide +kernel))) (hts (.initialized RX4) (List.mem_of_getElem? (i := 14) (by decide +kernel))) hP hK hD hT hS hA (by decide) rfl htop rfl (fun j hj => by rw [fv_z]; rcases (show j = 0 ∨ j = 1 ∨ j = 2 ∨ j = 3 by omega) with rfl | rfl | rfl | rfl <;> rfl) (fun _ => fv_e) (Nat.le_of_ble_eq_true rfl) (Nat.le_of_ble_eq_true rfl) (fun ad => [(0, .ref (ad b))]) hl (fun ad' hh => by simp only [hh _ k0.1]) (fun ad => [.ref (ad b)]) (fun ad' hh => by simp only [hh _ k0.1]) rfl dX11_init_31 (fun ad H hh hP hD hT hS hl => ?_)
  have k0 := k0.up1 (k := 4) (n := 0) htop rfl
  have k1 := k1.up1 (k := 4) (n := 0) htop rfl
  have k2 := k2.up1 (k := 4) (n := 0) htop rfl
  have htop := htop.nw1 (k := 4) (n := 0) (o := (b + 7)) rfl
  have k3 := ok.nwt htop
  have n0 := (gR_z (o := (b + 7)) (by omega)).trans n0
  have n1 := (gR_z (o := (b + 7)) (by omega)).trans n1
  have hold := fun (y : Nat) hy => (hh y (hsub y hy)).trans (hold y hy)
  have hsub := fun (y : Nat) hy => gN_sub (o := b + 7) (k := 4) (n := 0) (hsub y hy)
  refine lv_dup hx hb dX11_init_34 rfl ?_
  refine k_n (va_runIN (As := []) (rest := [.ref (ad (b + 7)), .ref (ad b)]) ⟨hx, hb, hml, hown, hts⟩ (c_X4_init (l := l) _ (b + 7) k3 htop) ⟨va_cnB 0 hts gX11_init_X4_init_n27 rfl rfl rfl (hG.2.1 ("StoneWalk", 27, ⟨"StoneWalk$Sights", "<init>", "()V"⟩, "StoneWalk") (List.mem_of_getElem? (i := 1) rfl)) (hts (.initialized RX4) (List.mem_of_getElem? (i := 14) (by decide +kernel))) hdI_X4_init ⟨Nat.le_of_ble_eq_true rfl, Nat.le_of_ble_eq_true rfl⟩, rfl, (hts (.instanceMethod yX4_init) (List.mem_of_getElem? (i := 42) (by decide +kernel)))⟩ (pSA hP hK hD hT hG hS hA) rfl rfl hl.1 rfl (lv_room (Nat.le_of_ble_eq_true rfl)) dX11_init_35 ⟨Nat.le_of_ble_eq_true rfl, Nat.le_of_ble_eq_true rfl⟩) hS (fun ad => [(0, .ref (ad b))]) hl (fun ad' hh => by simp only [hh _ k0.1]) (fun ad => [.ref (ad (b + 7)), .ref (ad b)]) (fun ad' hh => by simp only [hh _ k3.1, hh _ k0.1]) rfl (fun ad H locs hh hP hD hT htop1 hS hl => ?_)
  have k0 := (ok_X4_init (b := b + 7) htop k0).1
  have k1 := (ok_X4_init (b := b + 7) htop k1).1
  have k2 := (ok_X4_init (b := b + 7) htop k2).1
  have k3 := (ok_X4_init (b := b + 7) htop k3).1
  have n0 := (gR_X4_init (b := b + 7) (by omega)).trans n0
  have n1 := (gR_X4_init (b := b + 7) (by omega)).trans n1
  have hold := fun (y : Nat) hy => (hh y (hsub y hy)).trans (hold y hy)
  have hsub := fun (y : Nat) hy => sub_X4_init (b := b + 7) (hsub y hy)
  have htop := htop1
  refine r_putF (T := TX11) (v := b + 7) hx hb hts in11 tyX11 tyX11_ok nmX11 hown hK hP hD hT hS k0 (by decide) rfl 2 (by decide) (hts (.fieldLink RX11 28 "StoneWalk" "sights" "LStoneWalk$Sights;") (List.mem_of_getElem? (i := 15) (by decide +kernel))) rfl rfl hin rfl (tyX11_ok 2 (by decide)) rfl rfl rfl (fun t n ht => by cases ht; exact k3) rfl dX11_init_38 (fun H locs hP hD hT hS => ?_)
  have n0 := (gR_p (a := b) (j := 2) (v := some (b + 7)) (by omega)).trans n0
  have n1 := (gR_p (a := b) (j := 2) (v := some (b + 7)) (by omega)).trans n1
  have n2 := gR_s (M := (f_X4_init (zM (pR (f_X2_init (zM (pR (f_X7_init (zM M (b + 1)) (b + 1)) (b) 0 (some (b + 1))) (b + 3)) (b + 3) (b + 1)) (b) 1 (some (b + 3))) (b + 7)) (b + 7))) (a := b) (j := 2) (v := some (b + 7))
  refine lv_aload_n hx hb dX11_init_41 rfl (lv_at hl 0 rfl) ?_
  refine r_new (T := TX1) (ci := 1) (o := b + 11) hx hb hts in1 tyX1 tyX1_ok hown (hts (.classLink RX11 32 RX1) (List.mem_of_getElem? (i := 16) (by decide +kernel))) (hts (.instantiable RX1 11) (List.mem_of_getElem? (i := 17) (by decide +kernel))) (hts (.initialized RX1) (List.mem_of_getElem? (i := 18) (by decide +kernel))) hP hK hD hT hS hA (by decide) rfl htop rfl (fun j hj => by rw [fv_z]; rcases (show j = 0 ∨ j = 1 ∨ j = 2 ∨ j = 3 ∨ j = 4 ∨ j = 5 ∨ j = 6 ∨ j = 7 ∨ j = 8 ∨ j = 9 ∨ j = 10 by omega) with rfl | rfl | rfl | rfl | rfl | rfl | rfl | rfl | rfl | rfl | rfl <;> rfl) (fun _ => fv_e) (Nat.le_of_ble_eq_true rfl) (Nat.le_of_ble_eq_true rfl) (fun ad => [(0, .ref (ad b))]) hl (fun ad' hh => by simp only [hh _ k0.1]) (fun ad => [.ref (ad b)]) (fun ad' hh => by simp only [hh _ k0.1]) rfl dX11_init_42 (fun ad H hh hP hD hT hS hl => ?_)
  have k0 := k0.up1 (k := 1) (n := 0) htop rfl
  have k1 := k1.up1 (k := 1) (n := 0) htop rfl
  have k2 := k2.up1 (k := 1) (n := 0) htop rfl
  have k3 := k3.up1 (k := 1) (n := 0) htop rfl
  have htop := htop.nw1 (k := 1) (n := 0) (o := (b + 11)) rfl
  have k4 := ok.nwt htop
  have n0 := (gR_z (o := (b + 11)) (by omega)).trans n0
  have n1 := (gR_z (o := (b + 11)) (by omega)).trans n1
  have n2 := (gR_z (o := (b + 11)) (by omega)).trans n2
  have hold := fun (y : Nat) hy => (hh y (hsub y hy)).trans (hold y hy)
  have hsub := fun (y : Nat) hy => gN_sub (o := b + 11) (k := 1) (n := 0) (hsub y hy)
  refine lv_dup hx hb dX11_init_45 rfl ?_
  refine k_n (va_runIN (As := []) (rest := [.ref (ad (b + 11)), .ref (ad b)]) ⟨hx, hb, hml, hown, hts⟩ (c_X1_init (l := l) _ (b + 11) k4 htop) ⟨va_cnB 0 hts gX11_init_X1_init_n34 rfl rfl rfl (hG.2.1 ("StoneWalk", 34, ⟨"StoneWalk$Journey", "<init>", "()V"⟩, "StoneWalk") (List.mem_of_getElem? (i := 2) rfl)) (hts (.initialized RX1) (List.mem_of_getElem? (i := 18) (by decide +kernel))) hdI_X1_init ⟨Nat.le_of_ble_eq_true rfl, Nat.le_of_ble_eq_true rfl⟩, rfl, (hts (.instanceMethod yX1_init) (List.mem_of_getElem? (i := 48) (by decide +kernel)))⟩ (pSA hP hK hD hT hG hS hA) rfl rfl hl.1 rfl (lv_room (Nat.le_of_ble_eq_true rfl)) dX11_init_46 ⟨Nat.le_of_ble_eq_true rfl, Nat.le_of_ble_eq_true rfl⟩) hS (fun ad => [(0, .ref (ad b))]) hl (fun ad' hh => by simp only [hh _ k0.1]) (fun ad => [.ref (ad (b + 11)), .ref (ad b)]) (fun ad' hh => by simp only [hh _ k4.1, hh _ k0.1]) rfl (fun ad H locs hh hP hD hT htop1 hS hl => ?_)
  have hold := fun (y : Nat) hy => (hh y (hsub y hy)).trans (hold y hy)
  have htop := htop1
  refine r_putR (T := TX11) (v := b + 11) hx hb hts in11 tyX11 tyX11_ok nmX11 hown hK hP hD hT hS k0 (by decide) rfl 3 (by decide) (hts (.fieldLink RX11 35 "StoneWalk" "journey" "LStoneWalk$Journey;") (List.mem_of_getElem? (i := 19) (by decide +kernel))) rfl rfl (tyX11_ok 3 (by decide)) rfl (fun t n ht => by cases ht; exact k4) rfl dX11_init_49 (fun H locs hP hD hT hS => ?_)
  have n0 := (gR_p (a := b) (j := 3) (v := some (b + 11)) (by omega)).trans n0
  have n1 := (gR_p (a := b) (j := 3) (v := some (b + 11)) (by omega)).trans n1
  have n2 := (gR_p (a := b) (j := 3) (v := some (b + 11)) (by omega)).trans n2
  have n3 := gR_s (M := (zM (pR (f_X4_init (zM (pR (f_X2_init (zM (pR (f_X7_init (zM M (b + 1)) (b + 1)) (b) 0 (some (b + 1))) (b + 3)) (b + 3) (b + 1)) (b) 1 (some (b + 3))) (b + 7)) (b + 7)) (b) 2 (some (b + 7))) (b + 11))) (a := b) (j := 3) (v := some (b + 11))
  refine lv_aload_n hx hb dX11_init_52 rfl (lv_at hl 0 rfl) ?_
  refine r_new (T := TX1) (ci := 1) (o := b + 12) hx hb hts in1 tyX1 tyX1_ok hown (hts (.classLink RX11 32 RX1) (List.mem_of_getElem? (i := 16) (by decide +kernel))) (hts (.instantiable RX1 11) (List.mem_of_getElem? (i := 17) (by decide +kernel))) (hts (.initialized RX1) (List.mem_of_getElem? (i := 18) (by decide +kernel))) hP hK hD hT hS hA (by decide) rfl htop rfl (fun j hj => by rw [fv_z]; rcases (show j = 0 ∨ j = 1 ∨ j = 2 ∨ j = 3 ∨ j = 4 ∨ j = 5 ∨ j = 6 ∨ j = 7 ∨ j = 8 ∨ j = 9 ∨ j = 10 by omega) with rfl | rfl | rfl | rfl | rfl | rfl | rfl | rfl | rfl | rfl | rfl <;> rfl) (fun _ => fv_e) (Nat.le_of_ble_eq_true rfl) (Nat.le_of_ble_eq_true rfl) (fun ad => [(0, .ref (ad b))]) hl (fun ad' hh => by simp only [hh _ k0.1]) (fun ad => [.ref (ad b)]) (fun ad' hh => by simp only [hh _ k0.1]) rfl dX11_init_53 (fun ad H hh hP hD hT hS hl => ?_)
  have k0 := k0.up1 (k := 1) (n := 0) htop rfl
  have k1 := k1.up1 (k := 1) (n := 0) htop rfl
  have k2 := k2.up1 (k := 1) (n := 0) htop rfl
  have k3 := k3.up1 (k := 1) (n := 0) htop rfl
  have k4 := k4.up1 (k := 1) (n := 0) htop rfl
  have htop := htop.nw1 (k := 1) (n := 0) (o := (b + 12)) rfl
  have k5 := ok.nwt htop
  have n0 := (gR_z (o := (b + 12)) (by omega)).trans n0
  have n1 := (gR_z (o := (b + 12)) (by omega)).trans n1
  have n2 := (gR_z (o := (b + 12)) (by omega)).trans n2
  have n3 := (gR_z (o := (b + 12)) (by omega)).trans n3
  have hold := fun (y : Nat) hy => (hh y (hsub y hy)).trans (hold y hy)
  have hsub := fun (y : Nat) hy => gN_sub (o := b + 12) (k := 1) (n := 0) (hsub y hy)
  refine lv_dup hx hb dX11_init_56 rfl ?_
  refine k_n (va_runIN (As := []) (rest := [.ref (ad (b + 12)), .ref (ad b)]) ⟨hx, hb, hml, hown, hts⟩ (c_X1_init (l := l) _ (b + 12) k5 htop) ⟨va_cnB 0 hts gX11_init_X1_init_n34 rfl rfl rfl (hG.2.1 ("StoneWalk", 34, ⟨"StoneWalk$Journey", "<init>", "()V"⟩, "StoneWalk") (List.mem_of_getElem? (i := 2) rfl)) (hts (.initialized RX1) (List.mem_of_getElem? (i := 18) (by decide +kernel))) hdI_X1_init ⟨Nat.le_of_ble_eq_true rfl, Nat.le_of_ble_eq_true rfl⟩, rfl, (hts (.instanceMethod yX1_init) (List.mem_of_getElem? (i := 48) (by decide +kernel)))⟩ (pSA hP hK hD hT hG hS hA) rfl rfl hl.1 rfl (lv_room (Nat.le_of_ble_eq_true rfl)) dX11_init_57 ⟨Nat.le_of_ble_eq_true rfl, Nat.le_of_ble_eq_true rfl⟩) hS (fun ad => [(0, .ref (ad b))]) hl (fun ad' hh => by simp only [hh _ k0.1]) (fun ad => [.ref (ad (b + 12)), .ref (ad b)]) (fun ad' hh => by simp only [hh _ k5.1, hh _ k0.1]) rfl (fun ad H locs hh hP hD hT htop1 hS hl => ?_)
  have hold := fun (y : Nat) hy => (hh y (hsub y hy)).trans (hold y hy)
  have htop := htop1
  refine r_putR (T := TX11) (v := b + 12) hx hb hts in11 tyX11 tyX11_ok nmX11 hown hK hP hD hT hS k0 (by decide) rfl 4 (by decide) (hts (.fieldLink RX11 39 "StoneWalk" "scout" "LStoneWalk$Journey;") (List.mem_of_getElem? (i := 20) (by decide +kernel))) rfl rfl (tyX11_ok 4 (by decide)) rfl (fun t n ht => by cases ht; exact k5) rfl dX11_init_60 (fun H locs hP hD hT hS => ?_)
  have n0 := (gR_p (a := b) (j := 4) (v := some (b + 12)) (by omega)).trans n0
  have n1 := (gR_p (a := b) (j := 4) (v := some (b + 12)) (by omega)).trans n1
  have n2 := (gR_p (a := b) (j := 4) (v := some (b + 12)) (by omega)).trans n2
  have n3 := (gR_p (a := b) (j := 4) (v := some (b + 12)) (by omega)).trans n3
  have n4 := gR_s (M := (zM (pR (zM (pR (f_X4_init (zM (pR (f_X2_init (zM (pR (f_X7_init (zM M (b + 1)) (b + 1)) (b) 0 (some (b + 1))) (b + 3)) (b + 3) (b + 1)) (b) 1 (some (b + 3))) (b + 7)) (b + 7)) (b) 2 (some (b + 7))) (b + 11)) (b) 3 (some (b + 11))) (b + 12))) (a := b) (j := 4) (v := some (b + 12))
  refine lv_aload_n hx hb dX11_init_63 rfl (lv_at hl 0 rfl) ?_
  refine r_new (T := TX0) (ci := 0) (o := b + 13) hx hb hts in0 tyX0 tyX0_ok hown (hts (.classLink RX11 42 RX0) (List.mem_of_getElem? (i := 21) (by decide +kernel))) (hts (.instantiable RX0 17) (List.mem_of_getElem? (i := 22) (by decide +kernel))) (hts (.initialized RX0) (List.mem_of_getElem? (i := 23) (by decide +kernel))) hP hK hD hT hS hA (by decide) rfl htop rfl (fun j hj => by rw [fv_z]; rcases (show j = 0 ∨ j = 1 ∨ j = 2 ∨ j = 3 ∨ j = 4 ∨ j = 5 ∨ j = 6 ∨ j = 7 ∨ j = 8 ∨ j = 9 ∨ j = 10 ∨ j = 11 ∨ j = 12 ∨ j = 13 ∨ j = 14 ∨ j = 15 ∨ j = 16 by omega) with rfl | rfl | rfl | rfl | rfl | rfl | rfl | rfl | rfl | rfl | rfl | rfl | rfl | rfl | rfl | rfl | rfl <;> rfl) (fun _ => fv_e) (Nat.le_of_ble_eq_true rfl) (Nat.le_of_ble_eq_true rfl) (fun ad => [(0, .ref (ad b))]) hl (fun ad' hh => by simp only [hh _ k0.1]) (fun ad => [.ref (ad b)]) (fun ad' hh => by simp only [hh _ k0.1]) rfl dX11_init_64 (fun ad H hh hP hD hT hS hl => ?_)
  have k0 := k0.up1 (k := 0) (n := 0) htop rfl
  have k1 := k1.up1 (k := 0) (n := 0) htop rfl
  have k2 := k2.up1 (k := 0) (n := 0) htop rfl
  have k3 := k3.up1 (k := 0) (n := 0) htop rfl
  have k4 := k4.up1 (k := 0) (n := 0) htop rfl
  have k5 := k5.up1 (k := 0) (n := 0) htop rfl
  have htop := htop.nw1 (k := 0) (n := 0) (o := (b + 13)) rfl
  have k6 := ok.nwt htop
  have n0 := (gR_z (o := (b + 13)) (by omega)).trans n0
  have n1 := (gR_z (o := (b + 13)) (by omega)).trans n1
  have n2 := (gR_z (o := (b + 13)) (by omega)).trans n2
  have n3 := (gR_z (o := (b + 13)) (by omega)).trans n3
  have n4 := (gR_z (o := (b + 13)) (by omega)).trans n4
  have hold := fun (y : Nat) hy => (hh y (hsub y hy)).trans (hold y hy)
  have hsub := fun (y : Nat) hy => gN_sub (o := b + 13) (k := 0) (n := 0) (hsub y hy)
  refine lv_dup hx hb dX11_init_67 rfl ?_
  refine k_n (va_runI (As := []) (rest := [.ref (ad (b + 13)), .ref (ad b)]) ⟨hx, hb, hml, hown, hts⟩ (c_X0_init (l := l) _ (b + 13) k6 htop) (cwI 0 hts gX11_init_X0_init rfl rfl rfl (hts (.initialized RX0) (List.mem_of_getElem? (i := 23) (by decide +kernel))) (hts (.methodLink RX11 44 yX0_init) (List.mem_of_getElem? (i := 51) (by decide +kernel))) (hts (.instanceMethod yX0_init) (List.mem_of_getElem? (i := 52) (by decide +kernel))) rfl hdI_X0_init ⟨Nat.le_of_ble_eq_true rfl, Nat.le_of_ble_eq_true rfl⟩) (pSA hP hK hD hT hG hS hA) rfl rfl hl.1 rfl (lv_room (Nat.le_of_ble_eq_true rfl)) dX11_init_68 ⟨Nat.le_of_ble_eq_true rfl, Nat.le_of_ble_eq_true rfl⟩) hS (fun ad => [(0, .ref (ad b))]) hl (fun ad' hh => by simp only [hh _ k0.1]) (fun ad => [.ref (ad (b + 13)), .ref (ad b)]) (fun ad' hh => by simp only [hh _ k6.1, hh _ k0.1]) rfl (fun ad H locs hh hP hD hT htop1 hS hl => ?_)
  have k0 := (ok_X0_init (b := b + 13) htop k0).1
  have k1 := (ok_X0_init (b := b + 13) htop k1).1
  have k2 := (ok_X0_init (b := b + 13) htop k2).1
  have k3 := (ok_X0_init (b := b + 13) htop k3).1
  have k4 := (ok_X0_init (b := b + 13) htop k4).1
  have k5 := (ok_X0_init (b := b + 13) htop k5).1
  have k6 := (ok_X0_init (b := b + 13) htop k6).1
  have n0 := (gR_X0_init (b := b + 13) (by omega)).trans n0
  have n1 := (gR_X0_init (b := b + 13) (by omega)).trans n1
  have n2 := (gR_X0_init (b := b + 13) (by omega)).trans n2
  have n3 := (gR_X0_init (b := b + 13) (by omega)).trans n3
  have n4 := (gR_X0_init (b := b + 13) (by omega)).trans n4
  have hold := fun (y : Nat) hy => (hh y (hsub y hy)).trans (hold y hy)
  have hsub := fun (y : Nat) hy => sub_X0_init (b := b + 13) (hsub y hy)
  have htop := htop1
  refine r_putR (T := TX11) (v := b + 13) hx hb hts in11 tyX11 tyX11_ok nmX11 hown hK hP hD hT hS k0 (by decide) rfl 5 (by decide) (hts (.fieldLink RX11 45 "StoneWalk" "island" "LStoneWalk$Island;") (List.mem_of_getElem? (i := 24) (by decide +kernel))) rfl rfl (tyX11_ok 5 (by decide)) rfl (fun t n ht => by cases ht; exact k6) rfl dX11_init_71 (fun H locs hP hD hT hS => ?_)
  have n0 := (gR_p (a := b) (j := 5) (v := some (b + 13)) (by omega)).trans n0
  have n1 := (gR_p (a := b) (j := 5) (v := some (b + 13)) (by omega)).trans n1
  have n2 := (gR_p (a := b) (j := 5) (v := some (b + 13)) (by omega)).trans n2
  have n3 := (gR_p (a := b) (j := 5) (v := some (b + 13)) (by omega)).trans n3
  have n4 := (gR_p (a := b) (j := 5) (v := some (b + 13)) (by omega)).trans n4
  have n5 := gR_s (M := (f_X0_init (zM (pR (zM (pR (zM (pR (f_X4_init (zM (pR (f_X2_init (zM (pR (f_X7_init (zM M (b + 1)) (b + 1)) (b) 0 (some (b + 1))) (b + 3)) (b + 3) (b + 1)) (b) 1 (some (b + 3))) (b + 7)) (b + 7)) (b) 2 (some (b + 7))) (b + 11)) (b) 3 (some (b + 11))) (b + 12)) (b) 4 (some (b + 12))) (b + 13)) (b + 13))) (a := b) (j := 5) (v := some (b + 13))
  refine lv_aload_n hx hb dX11_init_74 rfl (lv_at hl 0 rfl) ?_
  refine r_new (T := TX0) (ci := 0) (o := b + 65) hx hb hts in0 tyX0 tyX0_ok hown (hts (.classLink RX11 42 RX0) (List.mem_of_getElem? (i := 21) (by decide +kernel))) (hts (.instantiable RX0 17) (List.mem_of_getElem? (i := 22) (by decide +kernel))) (hts (.initialized RX0) (List.mem_of_getElem? (i := 23) (by decide +kernel))) hP hK hD hT hS hA (by decide) rfl htop rfl (fun j hj => by rw [fv_z]; rcases (show j = 0 ∨ j = 1 ∨ j = 2 ∨ j = 3 ∨ j = 4 ∨ j = 5 ∨ j = 6 ∨ j = 7 ∨ j = 8 ∨ j = 9 ∨ j = 10 ∨ j = 11 ∨ j = 12 ∨ j = 13 ∨ j = 14 ∨ j = 15 ∨ j = 16 by omega) with rfl | rfl | rfl | rfl | rfl | rfl | rfl | rfl | rfl | rfl | rfl | rfl | rfl | rfl | rfl | rfl | rfl <;> rfl) (fun _ => fv_e) (Nat.le_of_ble_eq_true rfl) (Nat.le_of_ble_eq_true rfl) (fun ad => [(0, .ref (ad b))]) hl (fun ad' hh => by simp only [hh _ k0.1]) (fun ad => [.ref (ad b)]) (fun ad' hh => by simp only [hh _ k0.1]) rfl dX11_init_75 (fun ad H hh hP hD hT hS hl => ?_)
  have k0 := k0.up1 (k := 0) (n := 0) htop rfl
  have k1 := k1.up1 (k := 0) (n := 0) htop rfl
  have k2 := k2.up1 (k := 0) (n := 0) htop rfl
  have k3 := k3.up1 (k := 0) (n := 0) htop rfl
  have k4 := k4.up1 (k := 0) (n := 0) htop rfl
  have k5 := k5.up1 (k := 0) (n := 0) htop rfl
  have k6 := k6.up1 (k := 0) (n := 0) htop rfl
  have htop := htop.nw1 (k := 0) (n := 0) (o := (b + 65)) rfl
  have k7 := ok.nwt htop
  have n0 := (gR_z (o := (b + 65)) (by omega)).trans n0
  have n1 := (gR_z (o := (b + 65)) (by omega)).trans n1
  have n2 := (gR_z (o := (b + 65)) (by omega)).trans n2
  have n3 := (gR_z (o := (b + 65)) (by omega)).trans n3
  have n4 := (gR_z (o := (b + 65)) (by omega)).trans n4
  have n5 := (gR_z (o := (b + 65)) (by omega)).trans n5
  have hold := fun (y : Nat) hy => (hh y (hsub y hy)).trans (hold y hy)
  have hsub := fun (y : Nat) hy => gN_sub (o := b + 65) (k := 0) (n := 0) (hsub y hy)
  refine lv_dup hx hb dX11_init_78 rfl ?_
  refine k_n (va_runI (As := []) (rest := [.ref (ad (b + 65)), .ref (ad b)]) ⟨hx, hb, hml, hown, hts⟩ (c_X0_init (l := l) _ (b + 65) k7 htop) (cwI 0 hts gX11_init_X0_init rfl rfl rfl (hts (.initialized RX0) (List.mem_of_getElem? (i := 23) (by decide +kernel))) (hts (.methodLink RX11 44 yX0_init) (List.mem_of_getElem? (i := 51) (by decide +kernel))) (hts (.instanceMethod yX0_init) (List.mem_of_getElem? (i := 52) (by decide +kernel))) rfl hdI_X0_init ⟨Nat.le_of_ble_eq_true rfl, Nat.le_of_ble_eq_true rfl⟩) (pSA hP hK hD hT hG hS hA) rfl rfl hl.1 rfl (lv_room (Nat.le_of_ble_eq_true rfl)) dX11_init_79 ⟨Nat.le_of_ble_eq_true rfl, Nat.le_of_ble_eq_true rfl⟩) hS (fun ad => [(0, .ref (ad b))]) hl (fun ad' hh => by simp only [hh _ k0.1]) (fun ad => [.ref (ad (b + 65)), .ref (ad b)]) (fun ad' hh => by simp only [hh _ k7.1, hh _ k0.1]) rfl (fun ad H locs hh hP hD hT htop1 hS hl => ?_)
  have k0 := (ok_X0_init (b := b + 65) htop k0).1
  have k1 := (ok_X0_init (b := b + 65) htop k1).1
  have k2 := (ok_X0_init (b := b + 65) htop k2).1
  have k3 := (ok_X0_init (b := b + 65) htop k3).1
  have k4 := (ok_X0_init (b := b + 65) htop k4).1
  have k5 := (ok_X0_init (b := b + 65) htop k5).1
  have k6 := (ok_X0_init (b := b + 65) htop k6).1
  have k7 := (ok_X0_init (b := b + 65) htop k7).1
  have n0 := (gR_X0_init (b := b + 65) (by omega)).trans n0
  have n1 := (gR_X0_init (b := b + 65) (by omega)).trans n1
  have n2 := (gR_X0_init (b := b + 65) (by omega)).trans n2
  have n3 := (gR_X0_init (b := b + 65) (by omega)).trans n3
  have n4 := (gR_X0_init (b := b + 65) (by omega)).trans n4
  have n5 := (gR_X0_init (b := b + 65) (by omega)).trans n5
  have hold := fun (y : Nat) hy => (hh y (hsub y hy)).trans (hold y hy)
  have hsub := fun (y : Nat) hy => sub_X0_init (b := b + 65) (hsub y hy)
  have htop := htop1
  refine r_putR (T := TX11) (v := b + 65) hx hb hts in11 tyX11 tyX11_ok nmX11 hown hK hP hD hT hS k0 (by decide) rfl 6 (by decide) (hts (.fieldLink RX11 49 "StoneWalk" "spare" "LStoneWalk$Island;") (List.mem_of_getElem? (i := 25) (by decide +kernel))) rfl rfl (tyX11_ok 6 (by decide)) rfl (fun t n ht => by cases ht; exact k7) rfl dX11_init_82 (fun H locs hP hD hT hS => ?_)
  have n0 := (gR_p (a := b) (j := 6) (v := some (b + 65)) (by omega)).trans n0
  have n1 := (gR_p (a := b) (j := 6) (v := some (b + 65)) (by omega)).trans n1
  have n2 := (gR_p (a := b) (j := 6) (v := some (b + 65)) (by omega)).trans n2
  have n3 := (gR_p (a := b) (j := 6) (v := some (b + 65)) (by omega)).trans n3
  have n4 := (gR_p (a := b) (j := 6) (v := some (b + 65)) (by omega)).trans n4
  have n5 := (gR_p (a := b) (j := 6) (v := some (b + 65)) (by omega)).trans n5
  have n6 := gR_s (M := (f_X0_init (zM (pR (f_X0_init (zM (pR (zM (pR (zM (pR (f_X4_init (zM (pR (f_X2_init (zM (pR (f_X7_init (zM M (b + 1)) (b + 1)) (b) 0 (some (b + 1))) (b + 3)) (b + 3) (b + 1)) (b) 1 (some (b + 3))) (b + 7)) (b + 7)) (b) 2 (some (b + 7))) (b + 11)) (b) 3 (some (b + 11))) (b + 12)) (b) 4 (some (b + 12))) (b + 13)) (b + 13)) (b) 5 (some (b + 13))) (b + 65)) (b + 65))) (a := b) (j := 6) (v := some (b + 65))
  refine lv_aload_n hx hb dX11_init_85 rfl (lv_at hl 0 rfl) ?_
  refine lv_iconst (v := 0) hx hb dX11_init_86 rfl ?_
  refine r_putI (T := TX11) (ty := .int) (v := 0) hx hb hts in11 tyX11 tyX11_ok nmX11 hown hK hP hD hT hS k0 (by decide) rfl 7 (by decide) (hts (.fieldLink RX11 52 "StoneWalk" "trouble" "I") (List.mem_of_getElem? (i := 26) (by decide +kernel))) rfl rfl (tyX11_ok 7 (by decide)) rfl rfl rfl dX11_init_87 (fun H locs hP hD hT hS => ?_)
  refine W.widen (k := 116) (n := 2635) (Nat.le_of_ble_eq_true rfl) (Nat.le_of_ble_eq_true rfl) ?_
  exact r_nret hx hb hr hlocks hP hK hD hT hG hS hold htop rfl rfl dX11_init_90
