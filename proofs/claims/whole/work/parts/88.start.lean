/-! THE LAW, FROM ITS ENTRY -/
theorem vP_mid {D : va_G} {cl : List vw_C} {w1 w2 w3 : va_W} {H : Heap} (h : va_P D cl (w1 ++ w2 ++ w3) H) : va_P D cl (w1 ++ w3 ++ w2) H := ((vP_l (vP_l h)).app (vP_r h)).app (vP_r (vP_l h))
theorem vD_mid {A : Nat → Prop} {w1 w2 w3 : va_W} (h : va_D A (w1 ++ w2 ++ w3)) : va_D A (w1 ++ w3 ++ w2) := by
  refine ((vD_l (vD_l h)).app (vD_r h) (fun i j p q hi hj => vD_x h i j p q (ap_l hi) hj)).app (vD_r (vD_l h)) (fun i j p q hi hj => ?_)
  rcases List.mem_append.mp (List.mem_of_getElem? hi) with hm | hm
  · obtain ⟨k, hk⟩ := List.getElem?_of_mem hm
    exact vD_x (vD_l h) k j p q hk hj
  · obtain ⟨k, hk⟩ := List.getElem?_of_mem hm
    exact fun e => vD_x h _ k q p (ap_r hj) hk e.symm
abbrev g00 : CG := ([], fun _ => 0, fun _ => 0)
abbrev g01 : CG := gN g00 1 11 0
abbrev g02 : CG := gF_X11_init g01 1
abbrev gR1 : CG := gN g00 118 13 0
abbrev gR2 : CG := gF_X13_init gR1 118
theorem wt00 : WT g00 MM0 := by
  constructor
  · intro a h
    cases h
  · intro a h
    cases h
theorem k01 : ok g01 1 11 0 := by unfold ok; decide +kernel
theorem kR1 : ok gR1 118 13 0 := by unfold ok; decide +kernel
theorem kR2 : ok gR2 118 13 0 := by unfold ok; decide +kernel
theorem k03 : ok (gN g02 118 16 1) 1 11 0 := by unfold ok; decide +kernel
theorem k04 : ok (gN g02 118 16 1) 118 16 1 := by unfold ok; decide +kernel
theorem f02 : 118 ∉ g02.1 := by decide +kernel
theorem i02 : 1 ∈ g02.1 := by decide +kernel
theorem tR1 : topA gR1 118 := by unfold topA; decide +kernel
set_option maxHeartbeats 4000000 in
set_option maxRecDepth 100000 in
theorem whole_start {p : Program} {e : Env} {s : State} {m : MethodId} {below : List Frame} {meth : Method} {c : Code} (l : Launch) (hflags : l.flags = flags0) {b L : Nat} {xs : Nat → Int32} (hL : L ≤ 3072) (C0 : lw_At p s m meth c b L xs) : W p l e room_1 s m #[Value.ref b] below meth c s.heap [] 0 0 (lw_Z below #[Value.ref b] s) (entryFrame m ([Value.ref b] : List Value).toArray 7) := by
  obtain ⟨hx, hb, hr, hml, hown, hlt, hX, hbl, hlocks, hgv⟩ := C0
  have hst : l.stackTraces = false := by
    unfold Launch.stackTraces
    rw [hflags]
    decide +kernel
  have hA : ∀ z : Nat, s.heap.size ≤ z → lwA s z := fun _ h => h
  have hbA : ∀ a : Nat, a < s.heap.size → ¬ lwA s a := fun a h => Nat.not_le.mpr h
  have hf : ∀ w ∈ FLx, w.before #[Value.ref b] s = true := flat_of_before _ hgv
  have hs : ∀ w ∈ tables_1, w.before #[Value.ref b] s = true := fun w h => hlt w (tab_in w h)
  have hts : ∀ w ∈ wsL_law, w.before #[Value.ref b] s = true := fun w h => hlt w (wsL_law_in w h)
  obtain ⟨q, hG⟩ := sf_of (A := lwA s) hf hs hbA
  have hLX := lx_of (A := lwA s) hf hs hbA
  obtain ⟨D, hKD⟩ := d_of hlt
  obtain ⟨cy, hKc⟩ := cy_of hs
  have hK : va_K D vwCl (tyL cy) s := ⟨hKD, hKc⟩
  have K : LawC p s m c b L xs D cy q := ⟨hx, hb, hml, hown, hts, hX, hbl, hK, hG, hLX⟩
  have hS : va_S (lwA s) s.heap s.heap [] := va_S.rf
  have hP : va_P D vwCl (wd (fun _ => 0) cy g00 MM0) s.heap := by
    show va_P D vwCl [] s.heap
    exact fun k q h => by simp at h
  have hD : va_D (lwA s) (wd (fun _ => 0) cy g00 MM0) := by
    show va_D (lwA s) []
    exact ⟨fun i j p q h => by simp at h, fun k q h => by simp at h⟩
  have hl := lv_entry ([.ref b]) (n := 7) (Nat.le_of_ble_eq_true rfl)
  rw [lg_entry_eq]
  generalize (lg_sl ([.ref b]) ++ List.replicate (7 - (lg_sl ([.ref b])).length) Slot.unset).toArray = ls at hl ⊢
  have hl : lv_has ls 7 [(0, .ref b)] := hl
  refine r_new (T := TX11) (ci := 11) (o := 1) hx hb hts inlX11 tyX11 tyX11_ok hown (hts (.classLink RL 8 RX11) (List.mem_of_getElem? (i := 0) (by decide +kernel))) (hts (.instantiable RX11 8) (List.mem_of_getElem? (i := 1) (by decide +kernel))) (hts (.initialized RX11) (List.mem_of_getElem? (i := 2) (by decide +kernel))) hP hK hD wt00 hS hA (by decide) rfl (t := 0) (fun x h => by cases h) rfl (fun j hj => by rw [fv_z]; rcases (show j = 0 ∨ j = 1 ∨ j = 2 ∨ j = 3 ∨ j = 4 ∨ j = 5 ∨ j = 6 ∨ j = 7 by omega) with rfl | rfl | rfl | rfl | rfl | rfl | rfl | rfl <;> rfl) (fun _ => fv_e) (Nat.le_of_ble_eq_true rfl) (Nat.le_of_ble_eq_true rfl) (fun ad => [(0, .ref b)]) hl (fun _ _ => rfl) (fun _ => []) (fun _ _ => rfl) rfl dL_law_0 (fun ad H hh hP hD hT hS hl => ?_)
  refine lv_dup hx hb dL_law_3 rfl ?_
  refine k_n (va_runI (As := []) (rest := [.ref (ad 1)]) ⟨hx, hb, hml, hown, hts⟩ (c_X11_init (l := l) (zM MM0 1) 1 k01 (by unfold topA; decide +kernel)) (cwI 0 hts gL_law_X11_init rfl rfl rfl (hts (.initialized RX11) (List.mem_of_getElem? (i := 2) (by decide +kernel))) (hts (.methodLink RL 15 yX11_init) (List.mem_of_getElem? (i := 8) (by decide +kernel))) (hts (.instanceMethod yX11_init) (List.mem_of_getElem? (i := 9) (by decide +kernel))) rfl hdI_X11_init ⟨Nat.le_of_ble_eq_true rfl, Nat.le_of_ble_eq_true rfl⟩) (pSA hP hK hD hT hG hS hA) rfl rfl hl.1 rfl (lv_room (Nat.le_of_ble_eq_true rfl)) dL_law_4 ⟨Nat.le_of_ble_eq_true rfl, Nat.le_of_ble_eq_true rfl⟩) hS (fun ad => [(0, .ref b)]) hl (fun _ _ => rfl) (fun ad => [.ref (ad 1)]) (fun ad' hh => by simp only [hh _ k01.1]) rfl (fun ad H locs hh hP hD hT htop1 hS hl => ?_)
  generalize hM1 : f_X11_init (zM MM0 1) 1 = M1 at hP hD hT
  have hl : lv_has ls 7 [(0, .ref b)] := hl
  refine lv_astore_n (lv' := [(1, .ref (ad 1)), (0, .ref b)]) hx hb dL_law_7 rfl hl (by decide) rfl (fun ls hl => ?_)
  refine va_new (T := TX13) (ci := 13) (fs := fv (fun _ => 0) (zM MM0 118) 118 0 (lays.getD 13 [])) hx hb hts inlX13 tyX13 tyX13_ok hown (hts (.classLink RL 16 RX13) (List.mem_of_getElem? (i := 3) (by decide +kernel))) (hts (.instantiable RX13 29) (List.mem_of_getElem? (i := 4) (by decide +kernel))) (hts (.initialized RX13) (List.mem_of_getElem? (i := 5) (by decide +kernel))) hK hP hD hS hA rfl (fun j hj => by rw [fv_z]; rcases (show j = 0 ∨ j = 1 ∨ j = 2 ∨ j = 3 ∨ j = 4 ∨ j = 5 ∨ j = 6 ∨ j = 7 ∨ j = 8 ∨ j = 9 ∨ j = 10 ∨ j = 11 ∨ j = 12 ∨ j = 13 ∨ j = 14 ∨ j = 15 ∨ j = 16 ∨ j = 17 ∨ j = 18 ∨ j = 19 ∨ j = 20 ∨ j = 21 ∨ j = 22 ∨ j = 23 ∨ j = 24 ∨ j = 25 ∨ j = 26 ∨ j = 27 ∨ j = 28 by omega) with rfl | rfl | rfl | rfl | rfl | rfl | rfl | rfl | rfl | rfl | rfl | rfl | rfl | rfl | rfl | rfl | rfl | rfl | rfl | rfl | rfl | rfl | rfl | rfl | rfl | rfl | rfl | rfl | rfl <;> rfl) (Nat.le_of_ble_eq_true rfl) (Nat.le_of_ble_eq_true rfl) dL_law_8 (fun x H hP hD hS => ?_)
  have e2 := wd_push (ad := fun _ => 0) (cy := cy) (g := g00) (M := MM0) (o := 118) (k := 13) (n := 0) (q := x) wt00 (by decide) (e := .inr (13, fv (fun _ => 0) (zM MM0 118) 118 0 (lays.getD 13 []))) (by rw [ent_ob (ci := 13) (by decide +kernel) (by decide), fv_e])
  have e2 : [(x, (.inr (13, fv (fun _ => 0) (zM MM0 118) 118 0 (lays.getD 13 [])) : va_E))] = wd (va_up (fun _ => 0) 118 x) cy gR1 (zM MM0 118) := e2
  rw [e2] at hP hD
  have hTR : WT gR1 (zM MM0 118) := wt00.new (by decide)
  obtain ⟨adR, had⟩ : ∃ adR : Nat → Nat, adR = va_up (fun _ => 0) 118 x := ⟨_, rfl⟩
  have ex : adR 118 = x := by rw [had, va_up_self]
  rw [← had] at hP hD
  rw [← ex]
  refine lv_dup hx hb dL_law_11 rfl ?_
  have hF : ∀ z, va_A (wd adR cy gR1 (zM MM0 118)) H.size z → lwA s z := by
    intro z hz
    rcases hz with ⟨k, e, hz⟩ | hz
    · exact hD.2 _ (z, e) (ap_r hz)
    · exact Nat.le_trans hS.1 hz
  have hSA : va_S (va_A (wd adR cy gR1 (zM MM0 118)) H.size) s.heap H [] := ⟨hS.1, fun z hz _ => hS.2.1 z hz (Nat.not_le.mpr hz), fun _ hz => by cases hz⟩
  refine va_callv (va_runI (As := []) (rest := [.ref (adR 118)]) ⟨hx, hb, hml, hown, hts⟩ (c_X13_init (l := l) (D := D) (ad := adR) (cy := cy) (A := va_A (wd adR cy gR1 (zM MM0 118)) H.size) (q := q) (zM MM0 118) 118 kR1 tR1) (cwI 0 hts gL_law_X13_init rfl rfl rfl (hts (.initialized RX13) (List.mem_of_getElem? (i := 5) (by decide +kernel))) (hts (.methodLink RL 18 yX13_init) (List.mem_of_getElem? (i := 110) (by decide +kernel))) (hts (.instanceMethod yX13_init) (List.mem_of_getElem? (i := 111) (by decide +kernel))) rfl hdI_X13_init ⟨Nat.le_of_ble_eq_true rfl, Nat.le_of_ble_eq_true rfl⟩) ⟨WdA.blind, fun U hU hW => ⟨rfl, Wd.at (vP_r hP) hK (vD_r hD).self hTR (hG.narrow hF) hSA hW hU, fun z hz => Or.inr (by rw [← hU]; exact hz)⟩⟩ rfl rfl hl.1 rfl (lv_room (Nat.le_of_ble_eq_true rfl)) dL_law_12 ⟨Nat.le_of_ble_eq_true rfl, Nat.le_of_ble_eq_true rfl⟩) hS (fun z _ hz => hF z hz) hF (fun u t H1 locs1 ht hvm hw hB hz1 hk1 hS1 => ?_)
  obtain rfl := hw
  obtain ⟨adR2, ho, ⟨hP1, -, hD1, hT1, -⟩, htp⟩ := hB
  rw [ht] at hP1
  obtain ⟨hP, hD⟩ := fr_r hP hD hF hk1 hP1 hD1
  generalize hR1 : f_X13_init (zM MM0 118) 118 = MR at hP hD hT1
  have er : adR2 118 = adR 118 := ho 118 kR1.1
  rw [← er]
  refine lv_astore_n (lv' := [(2, .ref (adR2 118)), (1, .ref (ad 1)), (0, .ref b)]) hx hb dL_law_15 rfl hl (by decide) rfl (fun ls hl => ?_)
  refine lv_iconst (v := 1) hx hb dL_law_16 (by decide) ?_
  have z1 := new_l (ad := ad) (M := M1) (o := 118) (n := 1)
  have z2 : ¬ (1 : Int32) < 0 := by decide
  have z3 : (1 : Int32).toNatClampNeg = 1 := rfl
  have z4 := (hts (.arrayClass .long) (List.mem_of_getElem? (i := 6) (by decide +kernel)))
  have z5 : 1 * componentBytes .long ≤ 536870912 := by decide
  refine va_newa (atype := .long) (a0 := (1, arE ad (zM M1 118) 118 16)) (N' := 1) (ty := .long) hx hb z4 rfl hK hP hD hS1 hA z1 z2 z3 z5 (Nat.le_of_ble_eq_true rfl) (Nat.le_of_ble_eq_true rfl) dL_law_17 (fun x2 cA H2 hK2 hP hD hS => ?_)
  have hcA : cA = cy 16 := Option.some.inj (((hK2.2 10 (cA, .long) rfl).2 : s.vm.findClass _ = some cA).symm.trans ((hK.2 2 (cy 16, .long) rfl).2 : s.vm.findClass _ = some (cy 16)))
  subst hcA
  have hP := vP_mid hP
  have hD := vD_mid hD
  have e3 := wd_push (ad := ad) (cy := cy) (g := g02) (M := M1) (o := 118) (k := 16) (n := 1) (q := x2) (e := .inl (cy 16, 1, arE ad (zM M1 118) 118 16)) hT f02 (by rw [ent_ar (t := 16) (by decide +kernel) (by decide), show arE (va_up ad 118 x2) (zM M1 118) 118 16 = arE ad (zM M1 118) 118 16 from arE_e (by decide), show (gN g02 118 16 1).2.2 118 = 1 by decide +kernel])
  rw [e3] at hP hD
  have ea : va_up ad 118 x2 1 = ad 1 := va_up_ne _ _ (by decide)
  have eo : va_up ad 118 x2 118 = x2 := va_up_self _ _ _
  refine lv_astore_n (lv' := [(3, .ref x2), (2, .ref (adR2 118)), (1, .ref (ad 1)), (0, .ref b)]) hx hb dL_law_19 rfl hl (by decide) rfl (fun ls hl => ?_)
  refine lv_iconst (v := 0) hx hb dL_law_20 (by decide) ?_
  refine lv_istore (lv' := [(4, .int 0), (3, .ref x2), (2, .ref (adR2 118)), (1, .ref (ad 1)), (0, .ref b)]) hx hb dL_law_21 hl (by decide) rfl (fun ls hl => ?_)
  refine W.widen (k := 123) (n := 3609) (by omega) (by omega) ?_
  exact law_loop (adC := va_up ad 118 x2) (gC := gN g02 118 16 1) (x0 := ad 1) (m0 := adR2 118) (o0 := x2) hst K hr hlocks hL ea eo 513 0 123 3609 adR2 gR2 123 (zM M1 118) MR H2 locs1 ls (by omega) (by omega) (by omega) (by omega)
    ⟨hP, hD, hT.new f02, hT1, hS, fun y hy => Nat.le_trans (htp y hy) (by decide), by omega, ⟨k03, ea⟩, ⟨kR2, rfl⟩, ⟨k04, eo⟩⟩ (by rw [← hM1, ← hR1]; exact top00) (lv_sub hl [0, 4, 3, 2, 1] rfl)
