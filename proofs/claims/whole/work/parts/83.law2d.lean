set_option maxHeartbeats 4000000 in
set_option maxRecDepth 100000 in
theorem law_c36 {p : Program} {l : Launch} {e : Env} {s : State} {m : MethodId} {below : List Frame} {meth : Method} {c : Code} {cells slots b L : Nat} {xs : Nat → Int32} {D : va_G} {cy : Nat → ClassId} {q : SE} {adC adR : Nat → Nat} {gC gR0 : CG} {top : Nat} {C R : MM} {H : Heap} {locs : List Loc} {ls : Array Slot} {Q : State → Prop} {i : Nat} (hst : l.stackTraces = false) (K : LawC p s m c b L xs D cy q) (hcl : cells + 33 ≤ 601024) (hsl : slots + 336 ≤ 7293034) (hL : L ≤ 3072) (hi : i + 6 ≤ L) (h : LW D cy s (adC 1) (adR 118) (adC 118) adC gC adR gR0 top C R H locs) (hT : TOP C R) (hl : lv_has ls 7 [(4, .int (nI i)), (0, .ref b), (1, .ref (adC 1)), (2, .ref (adR 118)), (3, .ref (adC 118))])
    (kk : ∀ (adR2 : Nat → Nat) (gR2 : CG) (top2 : Nat) (C2 R2 : MM) (H2 : Heap) (locs2 : List Loc) (ls2 : Array Slot), LW D cy s (adC 1) (adR 118) (adC 118) adC gC adR2 gR2 top2 C2 R2 H2 locs2 → TOP C2 R2 → lv_has ls2 7 [(4, .int (nI i)), (0, .ref b), (1, .ref (adC 1)), (2, .ref (adR 118)), (3, .ref (adC 118))] → W p l e room_1 s m #[.ref b] below meth c H2 locs2 (cells + 33) (slots + 336) Q (F0 m 1824 ls2 [])) : W p l e room_1 s m #[.ref b] below meth c H locs cells slots Q (F0 m 1514 ls []) := by
  obtain ⟨hx, hb, hml, hown, hts, hX, hbl, hK, hG, hLX⟩ := K
  have hbA : ¬ lwA s b := Nat.not_le.mpr hbl
  have hS := h.2.2.2.2.1
  have j1 : vp_in (nI i + 1) L := by
    rw [nI_1 i]
    exact vp_in_nI (by omega) (by omega)
  have j2 : vp_in (nI i + 2) L := by
    rw [show (2 : Int32) = nI 2 from rfl, nI_add]
    exact vp_in_nI (by omega) (by omega)
  have j3 : vp_in (nI i + 3) L := by
    rw [show (3 : Int32) = nI 3 from rfl, nI_add]
    exact vp_in_nI (by omega) (by omega)
  obtain ⟨jo, sc, ic, sp, hS0, hR0, -, -, hV0, -, hI0⟩ := id hT
  refine lv_aload_n hx hb dL_law_1514 rfl (lv_at hl 2 rfl) ?_
  refine lv_aload_n hx hb dL_law_1515 rfl (lv_at hl 1 rfl) ?_
  refine lv_iload hx hb dL_law_1516 (lv_at hl 0 rfl) ?_
  refine lv_iconst (v := 1) hx hb dL_law_1518 rfl ?_
  refine lv_iadd hx hb dL_law_1519 ?_
  refine va_sld hx hb hX hbl hbA hS j1 dL_law_1520 ?_
  refine lv_aload_n hx hb dL_law_1521 rfl (lv_at hl 1 rfl) ?_
  refine lv_iload hx hb dL_law_1522 (lv_at hl 0 rfl) ?_
  refine lv_iconst (v := 2) hx hb dL_law_1524 rfl ?_
  refine lv_iadd hx hb dL_law_1525 ?_
  refine va_sld hx hb hX hbl hbA hS j2 dL_law_1526 ?_
  refine lv_aload_n hx hb dL_law_1527 rfl (lv_at hl 1 rfl) ?_
  refine lv_iload hx hb dL_law_1528 (lv_at hl 0 rfl) ?_
  refine lv_iconst (v := 3) hx hb dL_law_1530 rfl ?_
  refine lv_iadd hx hb dL_law_1531 ?_
  refine va_sld hx hb hX hbl hbA hS j3 dL_law_1532 ?_
  obtain ⟨r, C2, R2, e1, e2, hT2⟩ : FT C R (f_X11_see C 1 (xs (nI i + 1).toNatClampNeg) (xs (nI i + 2).toNatClampNeg) (xs (nI i + 3).toNatClampNeg)) (f_X13_see R 118 (xs (nI i + 1).toNatClampNeg) (xs (nI i + 2).toNatClampNeg) (xs (nI i + 3).toNatClampNeg)) := t_see hT (xs (nI i + 1).toNatClampNeg) (xs (nI i + 2).toNatClampNeg) (xs (nI i + 3).toNatClampNeg)
  refine lwC_i (Z := r) (C2 := C2) h (va_runV (As := [.int (xs (nI i + 1).toNatClampNeg), .int (xs (nI i + 2).toNatClampNeg), .int (xs (nI i + 3).toNatClampNeg)]) (rest := []) ⟨hx, hb, hml, hown, hts⟩ (c_X11_see (l := l) C 1 (xs (nI i + 1).toNatClampNeg) (xs (nI i + 2).toNatClampNeg) (xs (nI i + 3).toNatClampNeg) h.2.2.2.2.2.2.2.1.1 e1) (cwV 3 hts gL_law_X11_see rfl rfl rfl hdV_X11_see ⟨Nat.le_of_ble_eq_true rfl, Nat.le_of_ble_eq_true rfl⟩) (pC h hK hG) rfl rfl hl.1 rfl (lv_room (Nat.le_of_ble_eq_true rfl)) dL_law_1533 ⟨by show cells + 0 ≤ 601024; omega, by show slots + 0 ≤ 7293034; omega⟩) (fun H locs h => ?_)
  have hS := h.2.2.2.2.1
  refine lv_aload_n hx hb dL_law_1536 rfl (lv_at hl 3 rfl) ?_
  refine lv_aload_n hx hb dL_law_1537 rfl (lv_at hl 1 rfl) ?_
  refine lv_iload hx hb dL_law_1538 (lv_at hl 0 rfl) ?_
  refine lv_iconst (v := 1) hx hb dL_law_1540 rfl ?_
  refine lv_iadd hx hb dL_law_1541 ?_
  refine va_sld hx hb hX hbl hbA hS j1 dL_law_1542 ?_
  refine lv_aload_n hx hb dL_law_1543 rfl (lv_at hl 1 rfl) ?_
  refine lv_iload hx hb dL_law_1544 (lv_at hl 0 rfl) ?_
  refine lv_iconst (v := 2) hx hb dL_law_1546 rfl ?_
  refine lv_iadd hx hb dL_law_1547 ?_
  refine va_sld hx hb hX hbl hbA hS j2 dL_law_1548 ?_
  refine lv_aload_n hx hb dL_law_1549 rfl (lv_at hl 1 rfl) ?_
  refine lv_iload hx hb dL_law_1550 (lv_at hl 0 rfl) ?_
  refine lv_iconst (v := 3) hx hb dL_law_1552 rfl ?_
  refine lv_iadd hx hb dL_law_1553 ?_
  refine va_sld hx hb hX hbl hbA hS j3 dL_law_1554 ?_
  refine lwR_i (Z := r) (R2 := R2) h (va_runV (As := [.int (xs (nI i + 1).toNatClampNeg), .int (xs (nI i + 2).toNatClampNeg), .int (xs (nI i + 3).toNatClampNeg)]) (rest := [.int r]) ⟨hx, hb, hml, hown, hts⟩ (c_X13_see (l := l) R 118 (xs (nI i + 1).toNatClampNeg) (xs (nI i + 2).toNatClampNeg) (xs (nI i + 3).toNatClampNeg) h.2.2.2.2.2.2.2.2.1.1 e2) (cwV 3 hts gL_law_X13_see rfl rfl rfl hdV_X13_see ⟨Nat.le_of_ble_eq_true rfl, Nat.le_of_ble_eq_true rfl⟩) (pR0 h hK hG) rfl rfl hl.1 rfl (lv_room (Nat.le_of_ble_eq_true rfl)) dL_law_1555 ⟨by show cells + 0 ≤ 601024; omega, by show slots + 0 ≤ 7293034; omega⟩) (fun H locs h => ?_)
  have hS := h.2.2.2.2.1
  refine lv_icmp_eq (tgt := 1824) hx hb dL_law_1558 rfl (fun _ => ?_) (fun c => absurd rfl c)
  refine W.widen (k := cells + 33) (n := slots + 336) (by omega) (by omega) ?_
  exact kk adR gR0 top C2 R2 H locs ls h hT2 hl
set_option maxHeartbeats 4000000 in
set_option maxRecDepth 100000 in
theorem law_c37 {p : Program} {l : Launch} {e : Env} {s : State} {m : MethodId} {below : List Frame} {meth : Method} {c : Code} {cells slots b L : Nat} {xs : Nat → Int32} {D : va_G} {cy : Nat → ClassId} {q : SE} {adC adR : Nat → Nat} {gC gR0 : CG} {top : Nat} {C R : MM} {H : Heap} {locs : List Loc} {ls : Array Slot} {Q : State → Prop} {i : Nat} (hst : l.stackTraces = false) (K : LawC p s m c b L xs D cy q) (hcl : cells + 33 ≤ 601024) (hsl : slots + 336 ≤ 7293034) (hL : L ≤ 3072) (hi : i + 6 ≤ L) (h : LW D cy s (adC 1) (adR 118) (adC 118) adC gC adR gR0 top C R H locs) (hT : TOP C R) (hl : lv_has ls 7 [(4, .int (nI i)), (0, .ref b), (1, .ref (adC 1)), (2, .ref (adR 118)), (3, .ref (adC 118))])
    (kk : ∀ (adR2 : Nat → Nat) (gR2 : CG) (top2 : Nat) (C2 R2 : MM) (H2 : Heap) (locs2 : List Loc) (ls2 : Array Slot), LW D cy s (adC 1) (adR 118) (adC 118) adC gC adR2 gR2 top2 C2 R2 H2 locs2 → TOP C2 R2 → lv_has ls2 7 [(4, .int (nI i)), (0, .ref b), (1, .ref (adC 1)), (2, .ref (adR 118)), (3, .ref (adC 118))] → W p l e room_1 s m #[.ref b] below meth c H2 locs2 (cells + 33) (slots + 336) Q (F0 m 1824 ls2 [])) : W p l e room_1 s m #[.ref b] below meth c H locs cells slots Q (F0 m 1563 ls []) := by
  obtain ⟨hx, hb, hml, hown, hts, hX, hbl, hK, hG, hLX⟩ := K
  have hbA : ¬ lwA s b := Nat.not_le.mpr hbl
  have hS := h.2.2.2.2.1
  obtain ⟨jo, sc, ic, sp, hS0, hR0, -, -, hV0, -, hI0⟩ := id hT
  refine lv_aload_n hx hb dL_law_1563 rfl (lv_at hl 2 rfl) ?_
  obtain ⟨r, C2, R2, e1, e2, hT2⟩ : FT C R (f_X11_forget C 1 ) (f_X13_forget R 118 ) := t_forget hT 
  refine lwC_i (Z := r) (C2 := C2) h (va_runV (As := []) (rest := []) ⟨hx, hb, hml, hown, hts⟩ (c_X11_forget (l := l) C 1 h.2.2.2.2.2.2.2.1.1 e1) (cwV 0 hts gL_law_X11_forget rfl rfl rfl hdV_X11_forget ⟨Nat.le_of_ble_eq_true rfl, Nat.le_of_ble_eq_true rfl⟩) (pC h hK hG) rfl rfl hl.1 rfl (lv_room (Nat.le_of_ble_eq_true rfl)) dL_law_1564 ⟨by show cells + 0 ≤ 601024; omega, by show slots + 0 ≤ 7293034; omega⟩) (fun H locs h => ?_)
  have hS := h.2.2.2.2.1
  refine lv_aload_n hx hb dL_law_1567 rfl (lv_at hl 3 rfl) ?_
  refine lwR_i (Z := r) (R2 := R2) h (va_runV (As := []) (rest := [.int r]) ⟨hx, hb, hml, hown, hts⟩ (c_X13_forget (l := l) R 118 h.2.2.2.2.2.2.2.2.1.1 e2) (cwV 0 hts gL_law_X13_forget rfl rfl rfl hdV_X13_forget ⟨Nat.le_of_ble_eq_true rfl, Nat.le_of_ble_eq_true rfl⟩) (pR0 h hK hG) rfl rfl hl.1 rfl (lv_room (Nat.le_of_ble_eq_true rfl)) dL_law_1568 ⟨by show cells + 0 ≤ 601024; omega, by show slots + 0 ≤ 7293034; omega⟩) (fun H locs h => ?_)
  have hS := h.2.2.2.2.1
  refine lv_icmp_eq (tgt := 1824) hx hb dL_law_1571 rfl (fun _ => ?_) (fun c => absurd rfl c)
  refine W.widen (k := cells + 33) (n := slots + 336) (by omega) (by omega) ?_
  exact kk adR gR0 top C2 R2 H locs ls h hT2 hl
set_option maxHeartbeats 4000000 in
set_option maxRecDepth 100000 in
theorem law_c38 {p : Program} {l : Launch} {e : Env} {s : State} {m : MethodId} {below : List Frame} {meth : Method} {c : Code} {cells slots b L : Nat} {xs : Nat → Int32} {D : va_G} {cy : Nat → ClassId} {q : SE} {adC adR : Nat → Nat} {gC gR0 : CG} {top : Nat} {C R : MM} {H : Heap} {locs : List Loc} {ls : Array Slot} {Q : State → Prop} {i : Nat} (hst : l.stackTraces = false) (K : LawC p s m c b L xs D cy q) (hcl : cells + 33 ≤ 601024) (hsl : slots + 336 ≤ 7293034) (hL : L ≤ 3072) (hi : i + 6 ≤ L) (h : LW D cy s (adC 1) (adR 118) (adC 118) adC gC adR gR0 top C R H locs) (hT : TOP C R) (hl : lv_has ls 7 [(4, .int (nI i)), (0, .ref b), (1, .ref (adC 1)), (2, .ref (adR 118)), (3, .ref (adC 118))])
    (kk : ∀ (adR2 : Nat → Nat) (gR2 : CG) (top2 : Nat) (C2 R2 : MM) (H2 : Heap) (locs2 : List Loc) (ls2 : Array Slot), LW D cy s (adC 1) (adR 118) (adC 118) adC gC adR2 gR2 top2 C2 R2 H2 locs2 → TOP C2 R2 → lv_has ls2 7 [(4, .int (nI i)), (0, .ref b), (1, .ref (adC 1)), (2, .ref (adR 118)), (3, .ref (adC 118))] → W p l e room_1 s m #[.ref b] below meth c H2 locs2 (cells + 33) (slots + 336) Q (F0 m 1824 ls2 [])) : W p l e room_1 s m #[.ref b] below meth c H locs cells slots Q (F0 m 1576 ls []) := by
  obtain ⟨hx, hb, hml, hown, hts, hX, hbl, hK, hG, hLX⟩ := K
  have hbA : ¬ lwA s b := Nat.not_le.mpr hbl
  have hS := h.2.2.2.2.1
  obtain ⟨jo, sc, ic, sp, hS0, hR0, -, -, hV0, -, hI0⟩ := id hT
  refine lv_aload_n hx hb dL_law_1576 rfl (lv_at hl 2 rfl) ?_
  obtain ⟨r, C2, R2, e1, e2, hT2⟩ : FT C R (f_X11_fits C 1 ) (f_X13_fits R 118 ) := (q_fits hS0 hR0 hV0 hI0.ir).top hT
  refine lwC_i (Z := r) (C2 := C2) h (va_runV (As := []) (rest := []) ⟨hx, hb, hml, hown, hts⟩ (c_X11_fits (l := l) C 1 h.2.2.2.2.2.2.2.1.1 e1) (cwV 0 hts gL_law_X11_fits rfl rfl rfl hdV_X11_fits ⟨Nat.le_of_ble_eq_true rfl, Nat.le_of_ble_eq_true rfl⟩) (pC h hK hG) rfl rfl hl.1 rfl (lv_room (Nat.le_of_ble_eq_true rfl)) dL_law_1577 ⟨by show cells + 0 ≤ 601024; omega, by show slots + 0 ≤ 7293034; omega⟩) (fun H locs h => ?_)
  have hS := h.2.2.2.2.1
  refine lv_aload_n hx hb dL_law_1580 rfl (lv_at hl 3 rfl) ?_
  refine lwR_i (Z := r) (R2 := R2) h (va_runV (As := []) (rest := [.int r]) ⟨hx, hb, hml, hown, hts⟩ (c_X13_fits (l := l) R 118 h.2.2.2.2.2.2.2.2.1.1 e2) (cwV 0 hts gL_law_X13_fits rfl rfl rfl hdV_X13_fits ⟨Nat.le_of_ble_eq_true rfl, Nat.le_of_ble_eq_true rfl⟩) (pR0 h hK hG) rfl rfl hl.1 rfl (lv_room (Nat.le_of_ble_eq_true rfl)) dL_law_1581 ⟨by show cells + 0 ≤ 601024; omega, by show slots + 0 ≤ 7293034; omega⟩) (fun H locs h => ?_)
  have hS := h.2.2.2.2.1
  refine lv_icmp_eq (tgt := 1824) hx hb dL_law_1584 rfl (fun _ => ?_) (fun c => absurd rfl c)
  refine W.widen (k := cells + 33) (n := slots + 336) (by omega) (by omega) ?_
  exact kk adR gR0 top C2 R2 H locs ls h hT2 hl
set_option maxHeartbeats 4000000 in
set_option maxRecDepth 100000 in
theorem law_c39 {p : Program} {l : Launch} {e : Env} {s : State} {m : MethodId} {below : List Frame} {meth : Method} {c : Code} {cells slots b L : Nat} {xs : Nat → Int32} {D : va_G} {cy : Nat → ClassId} {q : SE} {adC adR : Nat → Nat} {gC gR0 : CG} {top : Nat} {C R : MM} {H : Heap} {locs : List Loc} {ls : Array Slot} {Q : State → Prop} {i : Nat} (hst : l.stackTraces = false) (K : LawC p s m c b L xs D cy q) (hcl : cells + 33 ≤ 601024) (hsl : slots + 336 ≤ 7293034) (hL : L ≤ 3072) (hi : i + 6 ≤ L) (h : LW D cy s (adC 1) (adR 118) (adC 118) adC gC adR gR0 top C R H locs) (hT : TOP C R) (hl : lv_has ls 7 [(4, .int (nI i)), (0, .ref b), (1, .ref (adC 1)), (2, .ref (adR 118)), (3, .ref (adC 118))])
    (kk : ∀ (adR2 : Nat → Nat) (gR2 : CG) (top2 : Nat) (C2 R2 : MM) (H2 : Heap) (locs2 : List Loc) (ls2 : Array Slot), LW D cy s (adC 1) (adR 118) (adC 118) adC gC adR2 gR2 top2 C2 R2 H2 locs2 → TOP C2 R2 → lv_has ls2 7 [(4, .int (nI i)), (0, .ref b), (1, .ref (adC 1)), (2, .ref (adR 118)), (3, .ref (adC 118))] → W p l e room_1 s m #[.ref b] below meth c H2 locs2 (cells + 33) (slots + 336) Q (F0 m 1824 ls2 [])) : W p l e room_1 s m #[.ref b] below meth c H locs cells slots Q (F0 m 1589 ls []) := by
  obtain ⟨hx, hb, hml, hown, hts, hX, hbl, hK, hG, hLX⟩ := K
  have hbA : ¬ lwA s b := Nat.not_le.mpr hbl
  have hS := h.2.2.2.2.1
  obtain ⟨jo, sc, ic, sp, hS0, hR0, -, -, hV0, -, hI0⟩ := id hT
  refine lv_aload_n hx hb dL_law_1589 rfl (lv_at hl 2 rfl) ?_
  obtain ⟨r, C2, R2, e1, e2, hT2⟩ : FT C R (f_X11_weight C 1 ) (f_X13_weight R 118 ) := (q_weight hS0 hR0 hV0 hI0.ir).top hT
  refine lwC_i (Z := r) (C2 := C2) h (va_runV (As := []) (rest := []) ⟨hx, hb, hml, hown, hts⟩ (c_X11_weight (l := l) C 1 h.2.2.2.2.2.2.2.1.1 e1) (cwV 0 hts gL_law_X11_weight rfl rfl rfl hdV_X11_weight ⟨Nat.le_of_ble_eq_true rfl, Nat.le_of_ble_eq_true rfl⟩) (pC h hK hG) rfl rfl hl.1 rfl (lv_room (Nat.le_of_ble_eq_true rfl)) dL_law_1590 ⟨by show cells + 0 ≤ 601024; omega, by show slots + 0 ≤ 7293034; omega⟩) (fun H locs h => ?_)
  have hS := h.2.2.2.2.1
  refine lv_aload_n hx hb dL_law_1593 rfl (lv_at hl 3 rfl) ?_
  refine lwR_i (Z := r) (R2 := R2) h (va_runV (As := []) (rest := [.int r]) ⟨hx, hb, hml, hown, hts⟩ (c_X13_weight (l := l) R 118 h.2.2.2.2.2.2.2.2.1.1 e2) (cwV 0 hts gL_law_X13_weight rfl rfl rfl hdV_X13_weight ⟨Nat.le_of_ble_eq_true rfl, Nat.le_of_ble_eq_true rfl⟩) (pR0 h hK hG) rfl rfl hl.1 rfl (lv_room (Nat.le_of_ble_eq_true rfl)) dL_law_1594 ⟨by show cells + 0 ≤ 601024; omega, by show slots + 0 ≤ 7293034; omega⟩) (fun H locs h => ?_)
  have hS := h.2.2.2.2.1
  refine lv_icmp_eq (tgt := 1824) hx hb dL_law_1597 rfl (fun _ => ?_) (fun c => absurd rfl c)
  refine W.widen (k := cells + 33) (n := slots + 336) (by omega) (by omega) ?_
  exact kk adR gR0 top C2 R2 H locs ls h hT2 hl
set_option maxHeartbeats 4000000 in
set_option maxRecDepth 100000 in
theorem law_c40 {p : Program} {l : Launch} {e : Env} {s : State} {m : MethodId} {below : List Frame} {meth : Method} {c : Code} {cells slots b L : Nat} {xs : Nat → Int32} {D : va_G} {cy : Nat → ClassId} {q : SE} {adC adR : Nat → Nat} {gC gR0 : CG} {top : Nat} {C R : MM} {H : Heap} {locs : List Loc} {ls : Array Slot} {Q : State → Prop} {i : Nat} (hst : l.stackTraces = false) (K : LawC p s m c b L xs D cy q) (hcl : cells + 33 ≤ 601024) (hsl : slots + 336 ≤ 7293034) (hL : L ≤ 3072) (hi : i + 6 ≤ L) (h : LW D cy s (adC 1) (adR 118) (adC 118) adC gC adR gR0 top C R H locs) (hT : TOP C R) (hl : lv_has ls 7 [(4, .int (nI i)), (0, .ref b), (1, .ref (adC 1)), (2, .ref (adR 118)), (3, .ref (adC 118))])
    (kk : ∀ (adR2 : Nat → Nat) (gR2 : CG) (top2 : Nat) (C2 R2 : MM) (H2 : Heap) (locs2 : List Loc) (ls2 : Array Slot), LW D cy s (adC 1) (adR 118) (adC 118) adC gC adR2 gR2 top2 C2 R2 H2 locs2 → TOP C2 R2 → lv_has ls2 7 [(4, .int (nI i)), (0, .ref b), (1, .ref (adC 1)), (2, .ref (adR 118)), (3, .ref (adC 118))] → W p l e room_1 s m #[.ref b] below meth c H2 locs2 (cells + 33) (slots + 336) Q (F0 m 1824 ls2 [])) : W p l e room_1 s m #[.ref b] below meth c H locs cells slots Q (F0 m 1602 ls []) := by
  obtain ⟨hx, hb, hml, hown, hts, hX, hbl, hK, hG, hLX⟩ := K
  have hbA : ¬ lwA s b := Nat.not_le.mpr hbl
  have hS := h.2.2.2.2.1
  have j1 : vp_in (nI i + 1) L := by
    rw [nI_1 i]
    exact vp_in_nI (by omega) (by omega)
  obtain ⟨jo, sc, ic, sp, hS0, hR0, -, -, hV0, -, hI0⟩ := id hT
  refine lv_aload_n hx hb dL_law_1602 rfl (lv_at hl 2 rfl) ?_
  refine lv_aload_n hx hb dL_law_1603 rfl (lv_at hl 1 rfl) ?_
  refine lv_iload hx hb dL_law_1604 (lv_at hl 0 rfl) ?_
  refine lv_iconst (v := 1) hx hb dL_law_1606 rfl ?_
  refine lv_iadd hx hb dL_law_1607 ?_
  refine va_sld hx hb hX hbl hbA hS j1 dL_law_1608 ?_
  obtain ⟨r, C2, R2, e1, e2, hT2⟩ : FT C R (f_X11_gone C 1 (xs (nI i + 1).toNatClampNeg)) (f_X13_gone R 118 (xs (nI i + 1).toNatClampNeg)) := (q_gone hS0 hI0.ir (xs (nI i + 1).toNatClampNeg)).top hT
  refine lwC_i (Z := r) (C2 := C2) h (va_runV (As := [.int (xs (nI i + 1).toNatClampNeg)]) (rest := []) ⟨hx, hb, hml, hown, hts⟩ (c_X11_gone (l := l) C 1 (xs (nI i + 1).toNatClampNeg) h.2.2.2.2.2.2.2.1.1 e1) (cwV 1 hts gL_law_X11_gone rfl rfl rfl hdV_X11_gone ⟨Nat.le_of_ble_eq_true rfl, Nat.le_of_ble_eq_true rfl⟩) (pC h hK hG) rfl rfl hl.1 rfl (lv_room (Nat.le_of_ble_eq_true rfl)) dL_law_1609 ⟨by show cells + 0 ≤ 601024; omega, by show slots + 0 ≤ 7293034; omega⟩) (fun H locs h => ?_)
  have hS := h.2.2.2.2.1
  refine lv_aload_n hx hb dL_law_1612 rfl (lv_at hl 3 rfl) ?_
  refine lv_aload_n hx hb dL_law_1613 rfl (lv_at hl 1 rfl) ?_
  refine lv_iload hx hb dL_law_1614 (lv_at hl 0 rfl) ?_
  refine lv_iconst (v := 1) hx hb dL_law_1616 rfl ?_
  refine lv_iadd hx hb dL_law_1617 ?_
  refine va_sld hx hb hX hbl hbA hS j1 dL_law_1618 ?_
  refine lwR_i (Z := r) (R2 := R2) h (va_runV (As := [.int (xs (nI i + 1).toNatClampNeg)]) (rest := [.int r]) ⟨hx, hb, hml, hown, hts⟩ (c_X13_gone (l := l) R 118 (xs (nI i + 1).toNatClampNeg) h.2.2.2.2.2.2.2.2.1.1 e2) (cwV 1 hts gL_law_X13_gone rfl rfl rfl hdV_X13_gone ⟨Nat.le_of_ble_eq_true rfl, Nat.le_of_ble_eq_true rfl⟩) (pR0 h hK hG) rfl rfl hl.1 rfl (lv_room (Nat.le_of_ble_eq_true rfl)) dL_law_1619 ⟨by show cells + 0 ≤ 601024; omega, by show slots + 0 ≤ 7293034; omega⟩) (fun H locs h => ?_)
  have hS := h.2.2.2.2.1
  refine lv_icmp_eq (tgt := 1824) hx hb dL_law_1622 rfl (fun _ => ?_) (fun c => absurd rfl c)
  refine W.widen (k := cells + 33) (n := slots + 336) (by omega) (by omega) ?_
  exact kk adR gR0 top C2 R2 H locs ls h hT2 hl
set_option maxHeartbeats 4000000 in
set_option maxRecDepth 100000 in
theorem law_c41 {p : Program} {l : Launch} {e : Env} {s : State} {m : MethodId} {below : List Frame} {meth : Method} {c : Code} {cells slots b L : Nat} {xs : Nat → Int32} {D : va_G} {cy : Nat → ClassId} {q : SE} {adC adR : Nat → Nat} {gC gR0 : CG} {top : Nat} {C R : MM} {H : Heap} {locs : List Loc} {ls : Array Slot} {Q : State → Prop} {i : Nat} (hst : l.stackTraces = false) (K : LawC p s m c b L xs D cy q) (hcl : cells + 33 ≤ 601024) (hsl : slots + 336 ≤ 7293034) (hL : L ≤ 3072) (hi : i + 6 ≤ L) (h : LW D cy s (adC 1) (adR 118) (adC 118) adC gC adR gR0 top C R H locs) (hT : TOP C R) (hl : lv_has ls 7 [(4, .int (nI i)), (0, .ref b), (1, .ref (adC 1)), (2, .ref (adR 118)), (3, .ref (adC 118))])
    (kk : ∀ (adR2 : Nat → Nat) (gR2 : CG) (top2 : Nat) (C2 R2 : MM) (H2 : Heap) (locs2 : List Loc) (ls2 : Array Slot), LW D cy s (adC 1) (adR 118) (adC 118) adC gC adR2 gR2 top2 C2 R2 H2 locs2 → TOP C2 R2 → lv_has ls2 7 [(4, .int (nI i)), (0, .ref b), (1, .ref (adC 1)), (2, .ref (adR 118)), (3, .ref (adC 118))] → W p l e room_1 s m #[.ref b] below meth c H2 locs2 (cells + 33) (slots + 336) Q (F0 m 1824 ls2 [])) : W p l e room_1 s m #[.ref b] below meth c H locs cells slots Q (F0 m 1627 ls []) := by
  obtain ⟨hx, hb, hml, hown, hts, hX, hbl, hK, hG, hLX⟩ := K
  have hbA : ¬ lwA s b := Nat.not_le.mpr hbl
  have hS := h.2.2.2.2.1
  obtain ⟨jo, sc, ic, sp, hS0, hR0, -, -, hV0, -, hI0⟩ := id hT
  refine lv_aload_n hx hb dL_law_1627 rfl (lv_at hl 2 rfl) ?_
  obtain ⟨r, C2, R2, e1, e2, hT2⟩ : FT C R (f_X11_dig C 1 ) (f_X13_dig R 118 ) := (q_dig hS0 hR0 hV0 hI0.ir).top hT
  refine lwC_i (Z := r) (C2 := C2) h (va_runV (As := []) (rest := []) ⟨hx, hb, hml, hown, hts⟩ (c_X11_dig (l := l) C 1 h.2.2.2.2.2.2.2.1.1 e1) (cwV 0 hts gL_law_X11_dig rfl rfl rfl hdV_X11_dig ⟨Nat.le_of_ble_eq_true rfl, Nat.le_of_ble_eq_true rfl⟩) (pC h hK hG) rfl rfl hl.1 rfl (lv_room (Nat.le_of_ble_eq_true rfl)) dL_law_1628 ⟨by show cells + 0 ≤ 601024; omega, by show slots + 0 ≤ 7293034; omega⟩) (fun H locs h => ?_)
  have hS := h.2.2.2.2.1
  refine lv_aload_n hx hb dL_law_1631 rfl (lv_at hl 3 rfl) ?_
  refine lwR_i (Z := r) (R2 := R2) h (va_runV (As := []) (rest := [.int r]) ⟨hx, hb, hml, hown, hts⟩ (c_X13_dig (l := l) R 118 h.2.2.2.2.2.2.2.2.1.1 e2) (cwV 0 hts gL_law_X13_dig rfl rfl rfl hdV_X13_dig ⟨Nat.le_of_ble_eq_true rfl, Nat.le_of_ble_eq_true rfl⟩) (pR0 h hK hG) rfl rfl hl.1 rfl (lv_room (Nat.le_of_ble_eq_true rfl)) dL_law_1632 ⟨by show cells + 0 ≤ 601024; omega, by show slots + 0 ≤ 7293034; omega⟩) (fun H locs h => ?_)
  have hS := h.2.2.2.2.1
  refine lv_icmp_eq (tgt := 1824) hx hb dL_law_1635 rfl (fun _ => ?_) (fun c => absurd rfl c)
  refine W.widen (k := cells + 33) (n := slots + 336) (by omega) (by omega) ?_
  exact kk adR gR0 top C2 R2 H locs ls h hT2 hl
set_option maxHeartbeats 4000000 in
set_option maxRecDepth 100000 in
theorem law_c42 {p : Program} {l : Launch} {e : Env} {s : State} {m : MethodId} {below : List Frame} {meth : Method} {c : Code} {cells slots b L : Nat} {xs : Nat → Int32} {D : va_G} {cy : Nat → ClassId} {q : SE} {adC adR : Nat → Nat} {gC gR0 : CG} {top : Nat} {C R : MM} {H : Heap} {locs : List Loc} {ls : Array Slot} {Q : State → Prop} {i : Nat} (hst : l.stackTraces = false) (K : LawC p s m c b L xs D cy q) (hcl : cells + 33 ≤ 601024) (hsl : slots + 336 ≤ 7293034) (hL : L ≤ 3072) (hi : i + 6 ≤ L) (h : LW D cy s (adC 1) (adR 118) (adC 118) adC gC adR gR0 top C R H locs) (hT : TOP C R) (hl : lv_has ls 7 [(4, .int (nI i)), (0, .ref b), (1, .ref (adC 1)), (2, .ref (adR 118)), (3, .ref (adC 118))])
    (kk : ∀ (adR2 : Nat → Nat) (gR2 : CG) (top2 : Nat) (C2 R2 : MM) (H2 : Heap) (locs2 : List Loc) (ls2 : Array Slot), LW D cy s (adC 1) (adR 118) (adC 118) adC gC adR2 gR2 top2 C2 R2 H2 locs2 → TOP C2 R2 → lv_has ls2 7 [(4, .int (nI i)), (0, .ref b), (1, .ref (adC 1)), (2, .ref (adR 118)), (3, .ref (adC 118))] → W p l e room_1 s m #[.ref b] below meth c H2 locs2 (cells + 33) (slots + 336) Q (F0 m 1824 ls2 [])) : W p l e room_1 s m #[.ref b] below meth c H locs cells slots Q (F0 m 1640 ls []) := by
  obtain ⟨hx, hb, hml, hown, hts, hX, hbl, hK, hG, hLX⟩ := K
  have hbA : ¬ lwA s b := Nat.not_le.mpr hbl
  have hS := h.2.2.2.2.1
  have j1 : vp_in (nI i + 1) L := by
    rw [nI_1 i]
    exact vp_in_nI (by omega) (by omega)
  obtain ⟨jo, sc, ic, sp, hS0, hR0, -, -, hV0, -, hI0⟩ := id hT
  refine lv_aload_n hx hb dL_law_1640 rfl (lv_at hl 2 rfl) ?_
  refine lv_aload_n hx hb dL_law_1641 rfl (lv_at hl 1 rfl) ?_
  refine lv_iload hx hb dL_law_1642 (lv_at hl 0 rfl) ?_
  refine lv_iconst (v := 1) hx hb dL_law_1644 rfl ?_
  refine lv_iadd hx hb dL_law_1645 ?_
  refine va_sld hx hb hX hbl hbA hS j1 dL_law_1646 ?_
  refine lv_if_eq (tgt := 1654) hx hb dL_law_1647 rfl (fun c1 => ?_) (fun c1 => ?_)
  · skip
    refine lv_iconst (v := 0) hx hb dL_law_1654 rfl ?_
    obtain ⟨r, C2, R2, e1, e2, hT2⟩ : FT C R (f_X11_lived C 1 0) (f_X13_lived R 118 0) := (q_lived hS0 hI0.ir 0).top hT
    refine lwC_i (Z := r) (C2 := C2) h (va_runV (As := [.int 0]) (rest := []) ⟨hx, hb, hml, hown, hts⟩ (c_X11_lived (l := l) C 1 0 h.2.2.2.2.2.2.2.1.1 e1) (cwV 1 hts gL_law_X11_lived rfl rfl rfl hdV_X11_lived ⟨Nat.le_of_ble_eq_true rfl, Nat.le_of_ble_eq_true rfl⟩) (pC h hK hG) rfl rfl hl.1 rfl (lv_room (Nat.le_of_ble_eq_true rfl)) dL_law_1655 ⟨by show cells + 0 ≤ 601024; omega, by show slots + 0 ≤ 7293034; omega⟩) (fun H locs h => ?_)
    have hS := h.2.2.2.2.1
    refine lv_aload_n hx hb dL_law_1658 rfl (lv_at hl 3 rfl) ?_
    refine lv_aload_n hx hb dL_law_1659 rfl (lv_at hl 1 rfl) ?_
    refine lv_iload hx hb dL_law_1660 (lv_at hl 0 rfl) ?_
    refine lv_iconst (v := 1) hx hb dL_law_1662 rfl ?_
    refine lv_iadd hx hb dL_law_1663 ?_
    refine va_sld hx hb hX hbl hbA hS j1 dL_law_1664 ?_
    refine lv_if_eq (tgt := 1672) hx hb dL_law_1665 rfl (fun _ => ?_) (fun c => absurd c1 c)
    refine lv_iconst (v := 0) hx hb dL_law_1672 rfl ?_
    refine lwR_i (Z := r) (R2 := R2) h (va_runV (As := [.int 0]) (rest := [.int r]) ⟨hx, hb, hml, hown, hts⟩ (c_X13_lived (l := l) R 118 0 h.2.2.2.2.2.2.2.2.1.1 e2) (cwV 1 hts gL_law_X13_lived rfl rfl rfl hdV_X13_lived ⟨Nat.le_of_ble_eq_true rfl, Nat.le_of_ble_eq_true rfl⟩) (pR0 h hK hG) rfl rfl hl.1 rfl (lv_room (Nat.le_of_ble_eq_true rfl)) dL_law_1673 ⟨by show cells + 0 ≤ 601024; omega, by show slots + 0 ≤ 7293034; omega⟩) (fun H locs h => ?_)
    have hS := h.2.2.2.2.1
    refine lv_icmp_eq (tgt := 1824) hx hb dL_law_1676 rfl (fun _ => ?_) (fun c => absurd rfl c)
    refine W.widen (k := cells + 33) (n := slots + 336) (by omega) (by omega) ?_
    exact kk adR gR0 top C2 R2 H locs ls h hT2 hl
  · skip
    refine lv_iconst (v := 1) hx hb dL_law_1650 rfl ?_
    refine lv_goto (tgt := 1655) hx hb dL_law_1651 rfl ?_
    obtain ⟨r, C2, R2, e1, e2, hT2⟩ : FT C R (f_X11_lived C 1 1) (f_X13_lived R 118 1) := (q_lived hS0 hI0.ir 1).top hT
    refine lwC_i (Z := r) (C2 := C2) h (va_runV (As := [.int 1]) (rest := []) ⟨hx, hb, hml, hown, hts⟩ (c_X11_lived (l := l) C 1 1 h.2.2.2.2.2.2.2.1.1 e1) (cwV 1 hts gL_law_X11_lived rfl rfl rfl hdV_X11_lived ⟨Nat.le_of_ble_eq_true rfl, Nat.le_of_ble_eq_true rfl⟩) (pC h hK hG) rfl rfl hl.1 rfl (lv_room (Nat.le_of_ble_eq_true rfl)) dL_law_1655 ⟨by show cells + 0 ≤ 601024; omega, by show slots + 0 ≤ 7293034; omega⟩) (fun H locs h => ?_)
    have hS := h.2.2.2.2.1
    refine lv_aload_n hx hb dL_law_1658 rfl (lv_at hl 3 rfl) ?_
    refine lv_aload_n hx hb dL_law_1659 rfl (lv_at hl 1 rfl) ?_
    refine lv_iload hx hb dL_law_1660 (lv_at hl 0 rfl) ?_
    refine lv_iconst (v := 1) hx hb dL_law_1662 rfl ?_
    refine lv_iadd hx hb dL_law_1663 ?_
    refine va_sld hx hb hX hbl hbA hS j1 dL_law_1664 ?_
    refine lv_if_eq (tgt := 1672) hx hb dL_law_1665 rfl (fun c => absurd c c1) (fun _ => ?_)
    refine lv_iconst (v := 1) hx hb dL_law_1668 rfl ?_
    refine lv_goto (tgt := 1673) hx hb dL_law_1669 rfl ?_
    refine lwR_i (Z := r) (R2 := R2) h (va_runV (As := [.int 1]) (rest := [.int r]) ⟨hx, hb, hml, hown, hts⟩ (c_X13_lived (l := l) R 118 1 h.2.2.2.2.2.2.2.2.1.1 e2) (cwV 1 hts gL_law_X13_lived rfl rfl rfl hdV_X13_lived ⟨Nat.le_of_ble_eq_true rfl, Nat.le_of_ble_eq_true rfl⟩) (pR0 h hK hG) rfl rfl hl.1 rfl (lv_room (Nat.le_of_ble_eq_true rfl)) dL_law_1673 ⟨by show cells + 0 ≤ 601024; omega, by show slots + 0 ≤ 7293034; omega⟩) (fun H locs h => ?_)
    have hS := h.2.2.2.2.1
    refine lv_icmp_eq (tgt := 1824) hx hb dL_law_1676 rfl (fun _ => ?_) (fun c => absurd rfl c)
    refine W.widen (k := cells + 33) (n := slots + 336) (by omega) (by omega) ?_
    exact kk adR gR0 top C2 R2 H locs ls h hT2 hl
set_option maxHeartbeats 4000000 in
set_option maxRecDepth 100000 in
theorem led_eq {C : MM} {jo sc ic sp : Nat} (hS : ST C jo sc ic sp) (x1 x2 : Int32) : f_X11_led C 1 x1 x2 = ledC C ic x1 x2 := by
  unfold f_X11_led ledC
  rw [hS.a5, oc_x]
  congr 1
  funext z
  cases z with
  | none => rfl
  | some w =>
    show oc (some w) _ _ = oc (some w) _ _
    rw [oc_x, oc_x, oc_x]
    cases hz : f_X0_clearlyLaid C ic w x2 with
    | none => rfl
    | some v =>
      rw [ob_s]
      by_cases hv : v = -1
      · rw [if_pos hv, hv]
      · rw [if_neg hv]
theorem TOP.pLC {C R : MM} (h : TOP C R) (a k : Nat) (v : Int64) : TOP (pL C a k v) R := h
theorem hdS_L_led : yL_led.cls ≠ "java/lang/invoke/MethodHandle" ∧ yL_led.cls ≠ "java/lang/invoke/VarHandle" ∧ (parseMethodDescriptor yL_led.desc).map (fun d => d.parameters.length) = some 4 := by decide +kernel
set_option maxHeartbeats 4000000 in
set_option maxRecDepth 100000 in
theorem law_c43 {p : Program} {l : Launch} {e : Env} {s : State} {m : MethodId} {below : List Frame} {meth : Method} {c : Code} {cells slots b L : Nat} {xs : Nat → Int32} {D : va_G} {cy : Nat → ClassId} {q : SE} {adC adR : Nat → Nat} {gC gR0 : CG} {top : Nat} {C R : MM} {H : Heap} {locs : List Loc} {ls : Array Slot} {Q : State → Prop} {i : Nat} (hst : l.stackTraces = false) (K : LawC p s m c b L xs D cy q) (hcl : cells + 33 ≤ 601024) (hsl : slots + 336 ≤ 7293034) (hL : L ≤ 3072) (hi : i + 6 ≤ L) (h : LW D cy s (adC 1) (adR 118) (adC 118) adC gC adR gR0 top C R H locs) (hT : TOP C R) (hl : lv_has ls 7 [(4, .int (nI i)), (0, .ref b), (1, .ref (adC 1)), (2, .ref (adR 118)), (3, .ref (adC 118))])
    (kk : ∀ (adR2 : Nat → Nat) (gR2 : CG) (top2 : Nat) (C2 R2 : MM) (H2 : Heap) (locs2 : List Loc) (ls2 : Array Slot), LW D cy s (adC 1) (adR 118) (adC 118) adC gC adR2 gR2 top2 C2 R2 H2 locs2 → TOP C2 R2 → lv_has ls2 7 [(4, .int (nI i)), (0, .ref b), (1, .ref (adC 1)), (2, .ref (adR 118)), (3, .ref (adC 118))] → W p l e room_1 s m #[.ref b] below meth c H2 locs2 (cells + 33) (slots + 336) Q (F0 m 1824 ls2 [])) : W p l e room_1 s m #[.ref b] below meth c H locs cells slots Q (F0 m 1681 ls []) := by
  obtain ⟨hx, hb, hml, hown, hts, hX, hbl, hK, hG, hLX⟩ := K
  have hbA : ¬ lwA s b := Nat.not_le.mpr hbl
  have hS := h.2.2.2.2.1
  have j1 : vp_in (nI i + 1) L := by
    rw [nI_1 i]
    exact vp_in_nI (by omega) (by omega)
  have j2 : vp_in (nI i + 2) L := by
    rw [show (2 : Int32) = nI 2 from rfl, nI_add]
    exact vp_in_nI (by omega) (by omega)
  obtain ⟨jo, sc, ic, sp, hS0, hR0, -, -, hV0, -, hI0⟩ := id hT
  obtain ⟨v, e1, e2⟩ := t_led hS0 hI0.ir (xs (nI i + 1).toNatClampNeg) (xs (nI i + 2).toNatClampNeg)
  have e1 : f_X11_led C 1 (xs (nI i + 1).toNatClampNeg) (xs (nI i + 2).toNatClampNeg) = some v := (led_eq hS0 _ _).trans e1
  refine lv_aload_n hx hb dL_law_1681 rfl (lv_at hl 2 rfl) ?_
  refine lv_aload_n hx hb dL_law_1682 rfl (lv_at hl 1 rfl) ?_
  refine lv_iload hx hb dL_law_1683 (lv_at hl 0 rfl) ?_
  refine lv_iconst (v := 1) hx hb dL_law_1685 rfl ?_
  refine lv_iadd hx hb dL_law_1686 ?_
  refine va_sld hx hb hX hbl hbA hS j1 dL_law_1687 ?_
  refine lv_aload_n hx hb dL_law_1688 rfl (lv_at hl 1 rfl) ?_
  refine lv_iload hx hb dL_law_1689 (lv_at hl 0 rfl) ?_
  refine lv_iconst (v := 2) hx hb dL_law_1691 rfl ?_
  refine lv_iadd hx hb dL_law_1692 ?_
  refine va_sld hx hb hX hbl hbA hS j2 dL_law_1693 ?_
  refine lv_aload_n hx hb dL_law_1694 rfl (lv_at hl 4 rfl) ?_
  have hp := pCL (x1 := (xs (nI i + 1).toNatClampNeg)) (x2 := (xs (nI i + 2).toNatClampNeg)) h hK hG hLX
  have tail : ∀ (k0 : Int32) (C2 : MM) (cond : (v = -1 ∧ k0 = 1) ∨ (¬ v = -1 ∧ k0 = 0 ∧ gL C2 118 0 = v.toInt64)) (hT2 : TOP C2 R) (H : Heap) (locs : List Loc) (h : LW D cy s (adC 1) (adR 118) (adC 118) adC gC adR gR0 top C2 R H locs), W p l e room_1 s m #[.ref b] below meth c H locs (cells + 1) (slots + 6) Q (F0 m 1698 ls [.int k0]) := by
    intro k0 C2 cond hT2 H locs h
    have hS := h.2.2.2.2.1
    refine lv_istore (lv' := [(5, .int k0), (4, .int (nI i)), (0, .ref b), (1, .ref (adC 1)), (2, .ref (adR 118)), (3, .ref (adC 118))]) hx hb dL_law_1698 hl (by decide) rfl (fun ls hl => ?_)
    refine lv_aload_n hx hb dL_law_1700 rfl (lv_at hl 4 rfl) ?_
    refine lv_aload_n hx hb dL_law_1701 rfl (lv_at hl 2 rfl) ?_
    refine lv_iload hx hb dL_law_1702 (lv_at hl 1 rfl) ?_
    refine lv_iconst (v := 1) hx hb dL_law_1704 rfl ?_
    refine lv_iadd hx hb dL_law_1705 ?_
    refine va_sld hx hb hX hbl hbA hS j1 dL_law_1706 ?_
    refine lv_aload_n hx hb dL_law_1707 rfl (lv_at hl 2 rfl) ?_
    refine lv_iload hx hb dL_law_1708 (lv_at hl 1 rfl) ?_
    refine lv_iconst (v := 2) hx hb dL_law_1710 rfl ?_
    refine lv_iadd hx hb dL_law_1711 ?_
    refine va_sld hx hb hX hbl hbA hS j2 dL_law_1712 ?_
    obtain ⟨w, R2, th, e3, e4, hT3, hth⟩ : ∃ w R2 th, f_X13_led R 118 (xs (nI i + 1).toNatClampNeg) (xs (nI i + 2).toNatClampNeg) = some (w, R2) ∧ f_X13_thrown R2 118 = some th ∧ TOP C2 R2 ∧ ((v = -1 ∧ th = 1) ∨ (¬ v = -1 ∧ th = 0 ∧ w = v)) := by
      rcases e2 with ⟨hv, e2⟩ | ⟨hv, e2⟩
      · exact ⟨0, _, 1, e2, by unfold f_X13_thrown; rw [gI_pIs], (hT2.t 0).t 1, Or.inl ⟨hv, rfl⟩⟩
      · exact ⟨v, _, 0, e2, by unfold f_X13_thrown; rw [gI_pIs], hT2.t 0, Or.inr ⟨hv, rfl, rfl⟩⟩
    refine lwR_i (Z := w) (R2 := R2) h (va_runV (As := [.int (xs (nI i + 1).toNatClampNeg), .int (xs (nI i + 2).toNatClampNeg)]) (rest := []) ⟨hx, hb, hml, hown, hts⟩ (c_X13_led (l := l) R 118 (xs (nI i + 1).toNatClampNeg) (xs (nI i + 2).toNatClampNeg) h.2.2.2.2.2.2.2.2.1.1 e3) (cwV 2 hts gL_law_X13_led rfl rfl rfl hdV_X13_led ⟨Nat.le_of_ble_eq_true rfl, Nat.le_of_ble_eq_true rfl⟩) (pR0 h hK hG) rfl rfl hl.1 rfl (lv_room (Nat.le_of_ble_eq_true rfl)) dL_law_1713 ⟨by show cells + 1 + 0 ≤ 601024; omega, by show slots + 6 + 0 ≤ 7293034; omega⟩) (fun H locs h => ?_)
    have hS := h.2.2.2.2.1
    refine lv_istore (lv' := [(6, .int w), (5, .int k0), (4, .int (nI i)), (0, .ref b), (1, .ref (adC 1)), (2, .ref (adR 118)), (3, .ref (adC 118))]) hx hb dL_law_1716 hl (by decide) rfl (fun ls hl => ?_)
    refine lv_aload_n hx hb dL_law_1718 rfl (lv_at hl 5 rfl) ?_
    refine lwR_i (Z := th) (R2 := R2) h (va_runV (As := []) (rest := []) ⟨hx, hb, hml, hown, hts⟩ (c_X13_thrown (l := l) R2 118 h.2.2.2.2.2.2.2.2.1.1 e4) (cwV 0 hts gL_law_X13_thrown rfl rfl rfl hdV_X13_thrown ⟨Nat.le_of_ble_eq_true rfl, Nat.le_of_ble_eq_true rfl⟩) (pR0 h hK hG) rfl rfl hl.1 rfl (lv_room (Nat.le_of_ble_eq_true rfl)) dL_law_1719 ⟨by show cells + 1 + 0 ≤ 601024; omega, by show slots + 6 + 0 ≤ 7293034; omega⟩) (fun H locs h => ?_)
    have hS := h.2.2.2.2.1
    have ek : th = k0 := by
      rcases cond with ⟨a1, a2⟩ | ⟨a1, a2, -⟩ <;> rcases hth with ⟨b1, b2⟩ | ⟨b1, b2, -⟩
      · rw [a2, b2]
      · exact absurd a1 b1
      · exact absurd b1 a1
      · rw [a2, b2]
    refine lv_iload hx hb dL_law_1722 (lv_at hl 1 rfl) ?_
    refine lv_icmp_eq (tgt := 1729) hx hb dL_law_1724 rfl (fun _ => ?_) (fun c => absurd ek c)
    refine lv_iload hx hb dL_law_1729 (lv_at hl 1 rfl) ?_
    have fin : W p l e room_1 s m #[.ref b] below meth c H locs (cells + 1) (slots + 6) Q (F0 m 1746 ls []) := by
      refine lv_goto (tgt := 1824) hx hb dL_law_1746 rfl ?_
      refine W.widen (k := cells + 33) (n := slots + 336) (by omega) (by omega) ?_
      exact kk adR gR0 top C2 R2 H locs ls h hT3 (lv_sub hl [2, 3, 4, 5, 6] rfl)
    refine lv_if_ne (tgt := 1746) hx hb dL_law_1731 rfl (fun _ => fin) (fun c0 => ?_)
    obtain ⟨nv, ev, hw⟩ : ¬ v = -1 ∧ gL C2 118 0 = v.toInt64 ∧ w = v := by
      rcases cond with ⟨a1, a2⟩ | ⟨a1, a2, a3⟩
      · rw [c0] at a2; exact absurd a2 (by decide)
      · rcases hth with ⟨b1, b2⟩ | ⟨b1, b2, b3⟩
        · exact absurd b1 a1
        · exact ⟨a1, a3, b3⟩
    refine lv_aload_n hx hb dL_law_1734 rfl (lv_at hl 6 rfl) ?_
    refine lv_iconst (v := 0) hx hb dL_law_1735 rfl ?_
    refine r_lald hx hb hK (vP_l h.1) h.2.2.2.2.2.2.2.2.2.1 (by decide) dL_law_1736 ?_
    refine lv_iload hx hb dL_law_1737 (lv_at hl 0 rfl) ?_
    refine lv_i2l hx hb dL_law_1739 rfl ?_
    refine W.lcmp hx hb dL_law_1740 ?_
    refine lv_if_eq (tgt := 1746) hx hb dL_law_1741 rfl (fun _ => fin) (fun c => absurd ((lg_cmp_eq _ _).mpr ?_) c)
    rw [hw, ← ev]
    rfl
  refine lwC_e (Z := v) h (vx_runSW (As := [.ref (adC 1), .int (xs (nI i + 1).toNatClampNeg), .int (xs (nI i + 2).toNatClampNeg), .ref (adC 118)]) (rest := []) ⟨hx, hb, hml, hown, hts⟩ (c_L_led (l := l) hst C 1 (xs (nI i + 1).toNatClampNeg) (xs (nI i + 2).toNatClampNeg) 118 h.2.2.2.2.2.2.2.1.1 h.2.2.2.2.2.2.2.2.2.1 e1) (vx_cwSW 4 hts gL_law_L_led rfl rfl rfl hdS_L_led ⟨Nat.le_of_ble_eq_true rfl, Nat.le_of_ble_eq_true rfl⟩) hp rfl rfl hl.1 rfl (lv_room (Nat.le_of_ble_eq_true rfl)) dL_law_1695 ⟨by show cells + 1 ≤ 601024; omega, by show slots + 6 ≤ 7293034; omega⟩) (fun hv H locs h => ?_) (fun hv H locs h => ?_)
  · exact tail 1 C (Or.inl ⟨hv, rfl⟩) hT H locs h
  · exact tail 0 _ (Or.inr ⟨hv, rfl, gL_pLs _ _ _ _⟩) (hT.pLC _ _ _) H locs h
set_option maxHeartbeats 4000000 in
set_option maxRecDepth 100000 in
theorem law_c44 {p : Program} {l : Launch} {e : Env} {s : State} {m : MethodId} {below : List Frame} {meth : Method} {c : Code} {cells slots b L : Nat} {xs : Nat → Int32} {D : va_G} {cy : Nat → ClassId} {q : SE} {adC adR : Nat → Nat} {gC gR0 : CG} {top : Nat} {C R : MM} {H : Heap} {locs : List Loc} {ls : Array Slot} {Q : State → Prop} {i : Nat} (hst : l.stackTraces = false) (K : LawC p s m c b L xs D cy q) (hcl : cells + 33 ≤ 601024) (hsl : slots + 336 ≤ 7293034) (hL : L ≤ 3072) (hi : i + 6 ≤ L) (h : LW D cy s (adC 1) (adR 118) (adC 118) adC gC adR gR0 top C R H locs) (hT : TOP C R) (hl : lv_has ls 7 [(4, .int (nI i)), (0, .ref b), (1, .ref (adC 1)), (2, .ref (adR 118)), (3, .ref (adC 118))])
    (kk : ∀ (adR2 : Nat → Nat) (gR2 : CG) (top2 : Nat) (C2 R2 : MM) (H2 : Heap) (locs2 : List Loc) (ls2 : Array Slot), LW D cy s (adC 1) (adR 118) (adC 118) adC gC adR2 gR2 top2 C2 R2 H2 locs2 → TOP C2 R2 → lv_has ls2 7 [(4, .int (nI i)), (0, .ref b), (1, .ref (adC 1)), (2, .ref (adR 118)), (3, .ref (adC 118))] → W p l e room_1 s m #[.ref b] below meth c H2 locs2 (cells + 33) (slots + 336) Q (F0 m 1824 ls2 [])) : W p l e room_1 s m #[.ref b] below meth c H locs cells slots Q (F0 m 1749 ls []) := by
  obtain ⟨hx, hb, hml, hown, hts, hX, hbl, hK, hG, hLX⟩ := K
  have hbA : ¬ lwA s b := Nat.not_le.mpr hbl
  have hS := h.2.2.2.2.1
  have j1 : vp_in (nI i + 1) L := by
    rw [nI_1 i]
    exact vp_in_nI (by omega) (by omega)
  obtain ⟨jo, sc, ic, sp, hS0, hR0, -, -, hV0, -, hI0⟩ := id hT
  refine lv_aload_n hx hb dL_law_1749 rfl (lv_at hl 2 rfl) ?_
  refine lv_aload_n hx hb dL_law_1750 rfl (lv_at hl 1 rfl) ?_
  refine lv_iload hx hb dL_law_1751 (lv_at hl 0 rfl) ?_
  refine lv_iconst (v := 1) hx hb dL_law_1753 rfl ?_
  refine lv_iadd hx hb dL_law_1754 ?_
  refine va_sld hx hb hX hbl hbA hS j1 dL_law_1755 ?_
  obtain ⟨r, e1, e2⟩ : NT C R (f_X11_size C 1 (xs (nI i + 1).toNatClampNeg)) (f_X13_size R 118 (xs (nI i + 1).toNatClampNeg)) := t_size hT (xs (nI i + 1).toNatClampNeg)
  refine lwC_i (Z := r) (C2 := C) h (va_runV (As := [.int (xs (nI i + 1).toNatClampNeg)]) (rest := []) ⟨hx, hb, hml, hown, hts⟩ (c_X11_size (l := l) C 1 (xs (nI i + 1).toNatClampNeg) h.2.2.2.2.2.2.2.1.1 e1) (cwV 1 hts gL_law_X11_size rfl rfl rfl hdV_X11_size ⟨Nat.le_of_ble_eq_true rfl, Nat.le_of_ble_eq_true rfl⟩) (pC h hK hG) rfl rfl hl.1 rfl (lv_room (Nat.le_of_ble_eq_true rfl)) dL_law_1756 ⟨by show cells + 0 ≤ 601024; omega, by show slots + 0 ≤ 7293034; omega⟩) (fun H locs h => ?_)
  have hS := h.2.2.2.2.1
  refine lv_aload_n hx hb dL_law_1759 rfl (lv_at hl 3 rfl) ?_
  refine lv_aload_n hx hb dL_law_1760 rfl (lv_at hl 1 rfl) ?_
  refine lv_iload hx hb dL_law_1761 (lv_at hl 0 rfl) ?_
  refine lv_iconst (v := 1) hx hb dL_law_1763 rfl ?_
  refine lv_iadd hx hb dL_law_1764 ?_
  refine va_sld hx hb hX hbl hbA hS j1 dL_law_1765 ?_
  refine lwR_i (Z := r) (R2 := (pI R 118 0 0)) h (va_runV (As := [.int (xs (nI i + 1).toNatClampNeg)]) (rest := [.int r]) ⟨hx, hb, hml, hown, hts⟩ (c_X13_size (l := l) R 118 (xs (nI i + 1).toNatClampNeg) h.2.2.2.2.2.2.2.2.1.1 e2) (cwV 1 hts gL_law_X13_size rfl rfl rfl hdV_X13_size ⟨Nat.le_of_ble_eq_true rfl, Nat.le_of_ble_eq_true rfl⟩) (pR0 h hK hG) rfl rfl hl.1 rfl (lv_room (Nat.le_of_ble_eq_true rfl)) dL_law_1766 ⟨by show cells + 0 ≤ 601024; omega, by show slots + 0 ≤ 7293034; omega⟩) (fun H locs h => ?_)
  have hS := h.2.2.2.2.1
  refine lv_icmp_eq (tgt := 1824) hx hb dL_law_1769 rfl (fun _ => ?_) (fun c => absurd rfl c)
  refine W.widen (k := cells + 33) (n := slots + 336) (by omega) (by omega) ?_
  exact kk adR gR0 top C (pI R 118 0 0) H locs ls h (hT.t 0) hl
set_option maxHeartbeats 4000000 in
set_option maxRecDepth 100000 in
theorem law_c45 {p : Program} {l : Launch} {e : Env} {s : State} {m : MethodId} {below : List Frame} {meth : Method} {c : Code} {cells slots b L : Nat} {xs : Nat → Int32} {D : va_G} {cy : Nat → ClassId} {q : SE} {adC adR : Nat → Nat} {gC gR0 : CG} {top : Nat} {C R : MM} {H : Heap} {locs : List Loc} {ls : Array Slot} {Q : State → Prop} {i : Nat} (hst : l.stackTraces = false) (K : LawC p s m c b L xs D cy q) (hcl : cells + 33 ≤ 601024) (hsl : slots + 336 ≤ 7293034) (hL : L ≤ 3072) (hi : i + 6 ≤ L) (h : LW D cy s (adC 1) (adR 118) (adC 118) adC gC adR gR0 top C R H locs) (hT : TOP C R) (hl : lv_has ls 7 [(4, .int (nI i)), (0, .ref b), (1, .ref (adC 1)), (2, .ref (adR 118)), (3, .ref (adC 118))])
    (kk : ∀ (adR2 : Nat → Nat) (gR2 : CG) (top2 : Nat) (C2 R2 : MM) (H2 : Heap) (locs2 : List Loc) (ls2 : Array Slot), LW D cy s (adC 1) (adR 118) (adC 118) adC gC adR2 gR2 top2 C2 R2 H2 locs2 → TOP C2 R2 → lv_has ls2 7 [(4, .int (nI i)), (0, .ref b), (1, .ref (adC 1)), (2, .ref (adR 118)), (3, .ref (adC 118))] → W p l e room_1 s m #[.ref b] below meth c H2 locs2 (cells + 33) (slots + 336) Q (F0 m 1824 ls2 [])) : W p l e room_1 s m #[.ref b] below meth c H locs cells slots Q (F0 m 1774 ls []) := by
  obtain ⟨hx, hb, hml, hown, hts, hX, hbl, hK, hG, hLX⟩ := K
  have hbA : ¬ lwA s b := Nat.not_le.mpr hbl
  have hS := h.2.2.2.2.1
  have j1 : vp_in (nI i + 1) L := by
    rw [nI_1 i]
    exact vp_in_nI (by omega) (by omega)
  have j2 : vp_in (nI i + 2) L := by
    rw [show (2 : Int32) = nI 2 from rfl, nI_add]
    exact vp_in_nI (by omega) (by omega)
  obtain ⟨jo, sc, ic, sp, hS0, hR0, -, -, hV0, -, hI0⟩ := id hT
  refine lv_aload_n hx hb dL_law_1774 rfl (lv_at hl 2 rfl) ?_
  refine lv_aload_n hx hb dL_law_1775 rfl (lv_at hl 1 rfl) ?_
  refine lv_iload hx hb dL_law_1776 (lv_at hl 0 rfl) ?_
  refine lv_iconst (v := 1) hx hb dL_law_1778 rfl ?_
  refine lv_iadd hx hb dL_law_1779 ?_
  refine va_sld hx hb hX hbl hbA hS j1 dL_law_1780 ?_
  refine lv_aload_n hx hb dL_law_1781 rfl (lv_at hl 1 rfl) ?_
  refine lv_iload hx hb dL_law_1782 (lv_at hl 0 rfl) ?_
  refine lv_iconst (v := 2) hx hb dL_law_1784 rfl ?_
  refine lv_iadd hx hb dL_law_1785 ?_
  refine va_sld hx hb hX hbl hbA hS j2 dL_law_1786 ?_
  obtain ⟨r, e1, e2⟩ : NT C R (f_X11_statue C 1 (xs (nI i + 1).toNatClampNeg) (xs (nI i + 2).toNatClampNeg)) (f_X13_statue R 118 (xs (nI i + 1).toNatClampNeg) (xs (nI i + 2).toNatClampNeg)) := t_statue hT (xs (nI i + 1).toNatClampNeg) (xs (nI i + 2).toNatClampNeg)
  refine lwC_i (Z := r) (C2 := C) h (va_runV (As := [.int (xs (nI i + 1).toNatClampNeg), .int (xs (nI i + 2).toNatClampNeg)]) (rest := []) ⟨hx, hb, hml, hown, hts⟩ (c_X11_statue (l := l) C 1 (xs (nI i + 1).toNatClampNeg) (xs (nI i + 2).toNatClampNeg) h.2.2.2.2.2.2.2.1.1 e1) (cwV 2 hts gL_law_X11_statue rfl rfl rfl hdV_X11_statue ⟨Nat.le_of_ble_eq_true rfl, Nat.le_of_ble_eq_true rfl⟩) (pC h hK hG) rfl rfl hl.1 rfl (lv_room (Nat.le_of_ble_eq_true rfl)) dL_law_1787 ⟨by show cells + 0 ≤ 601024; omega, by show slots + 0 ≤ 7293034; omega⟩) (fun H locs h => ?_)
  have hS := h.2.2.2.2.1
  refine lv_aload_n hx hb dL_law_1790 rfl (lv_at hl 3 rfl) ?_
  refine lv_aload_n hx hb dL_law_1791 rfl (lv_at hl 1 rfl) ?_
  refine lv_iload hx hb dL_law_1792 (lv_at hl 0 rfl) ?_
  refine lv_iconst (v := 1) hx hb dL_law_1794 rfl ?_
  refine lv_iadd hx hb dL_law_1795 ?_
  refine va_sld hx hb hX hbl hbA hS j1 dL_law_1796 ?_
  refine lv_aload_n hx hb dL_law_1797 rfl (lv_at hl 1 rfl) ?_
  refine lv_iload hx hb dL_law_1798 (lv_at hl 0 rfl) ?_
  refine lv_iconst (v := 2) hx hb dL_law_1800 rfl ?_
  refine lv_iadd hx hb dL_law_1801 ?_
  refine va_sld hx hb hX hbl hbA hS j2 dL_law_1802 ?_
  refine lwR_i (Z := r) (R2 := (pI R 118 0 0)) h (va_runV (As := [.int (xs (nI i + 1).toNatClampNeg), .int (xs (nI i + 2).toNatClampNeg)]) (rest := [.int r]) ⟨hx, hb, hml, hown, hts⟩ (c_X13_statue (l := l) R 118 (xs (nI i + 1).toNatClampNeg) (xs (nI i + 2).toNatClampNeg) h.2.2.2.2.2.2.2.2.1.1 e2) (cwV 2 hts gL_law_X13_statue rfl rfl rfl hdV_X13_statue ⟨Nat.le_of_ble_eq_true rfl, Nat.le_of_ble_eq_true rfl⟩) (pR0 h hK hG) rfl rfl hl.1 rfl (lv_room (Nat.le_of_ble_eq_true rfl)) dL_law_1803 ⟨by show cells + 0 ≤ 601024; omega, by show slots + 0 ≤ 7293034; omega⟩) (fun H locs h => ?_)
  have hS := h.2.2.2.2.1
  refine lv_icmp_eq (tgt := 1824) hx hb dL_law_1806 rfl (fun _ => ?_) (fun c => absurd rfl c)
  refine W.widen (k := cells + 33) (n := slots + 336) (by omega) (by omega) ?_
  exact kk adR gR0 top C (pI R 118 0 0) H locs ls h (hT.t 0) hl
set_option maxHeartbeats 4000000 in
set_option maxRecDepth 100000 in
theorem law_c46 {p : Program} {l : Launch} {e : Env} {s : State} {m : MethodId} {below : List Frame} {meth : Method} {c : Code} {cells slots b L : Nat} {xs : Nat → Int32} {D : va_G} {cy : Nat → ClassId} {q : SE} {adC adR : Nat → Nat} {gC gR0 : CG} {top : Nat} {C R : MM} {H : Heap} {locs : List Loc} {ls : Array Slot} {Q : State → Prop} {i : Nat} (hst : l.stackTraces = false) (K : LawC p s m c b L xs D cy q) (hcl : cells + 33 ≤ 601024) (hsl : slots + 336 ≤ 7293034) (hL : L ≤ 3072) (hi : i + 6 ≤ L) (h : LW D cy s (adC 1) (adR 118) (adC 118) adC gC adR gR0 top C R H locs) (hT : TOP C R) (hl : lv_has ls 7 [(4, .int (nI i)), (0, .ref b), (1, .ref (adC 1)), (2, .ref (adR 118)), (3, .ref (adC 118))])
    (kk : ∀ (adR2 : Nat → Nat) (gR2 : CG) (top2 : Nat) (C2 R2 : MM) (H2 : Heap) (locs2 : List Loc) (ls2 : Array Slot), LW D cy s (adC 1) (adR 118) (adC 118) adC gC adR2 gR2 top2 C2 R2 H2 locs2 → TOP C2 R2 → lv_has ls2 7 [(4, .int (nI i)), (0, .ref b), (1, .ref (adC 1)), (2, .ref (adR 118)), (3, .ref (adC 118))] → W p l e room_1 s m #[.ref b] below meth c H2 locs2 (cells + 33) (slots + 336) Q (F0 m 1824 ls2 [])) : W p l e room_1 s m #[.ref b] below meth c H locs cells slots Q (F0 m 1811 ls []) := by
  obtain ⟨hx, hb, hml, hown, hts, hX, hbl, hK, hG, hLX⟩ := K
  have hbA : ¬ lwA s b := Nat.not_le.mpr hbl
  have hS := h.2.2.2.2.1
  obtain ⟨jo, sc, ic, sp, hS0, hR0, -, -, hV0, -, hI0⟩ := id hT
  refine lv_aload_n hx hb dL_law_1811 rfl (lv_at hl 2 rfl) ?_
  obtain ⟨r, e1, e2⟩ : NT C R (f_X11_trouble C 1 ) (f_X13_trouble R 118 ) := t_trouble hT
  refine lwC_i (Z := r) (C2 := C) h (va_runV (As := []) (rest := []) ⟨hx, hb, hml, hown, hts⟩ (c_X11_trouble (l := l) C 1 h.2.2.2.2.2.2.2.1.1 e1) (cwV 0 hts gL_law_X11_trouble rfl rfl rfl hdV_X11_trouble ⟨Nat.le_of_ble_eq_true rfl, Nat.le_of_ble_eq_true rfl⟩) (pC h hK hG) rfl rfl hl.1 rfl (lv_room (Nat.le_of_ble_eq_true rfl)) dL_law_1812 ⟨by show cells + 0 ≤ 601024; omega, by show slots + 0 ≤ 7293034; omega⟩) (fun H locs h => ?_)
  have hS := h.2.2.2.2.1
  refine lv_aload_n hx hb dL_law_1815 rfl (lv_at hl 3 rfl) ?_
  refine lwR_i (Z := r) (R2 := (pI R 118 0 0)) h (va_runV (As := []) (rest := [.int r]) ⟨hx, hb, hml, hown, hts⟩ (c_X13_trouble (l := l) R 118 h.2.2.2.2.2.2.2.2.1.1 e2) (cwV 0 hts gL_law_X13_trouble rfl rfl rfl hdV_X13_trouble ⟨Nat.le_of_ble_eq_true rfl, Nat.le_of_ble_eq_true rfl⟩) (pR0 h hK hG) rfl rfl hl.1 rfl (lv_room (Nat.le_of_ble_eq_true rfl)) dL_law_1816 ⟨by show cells + 0 ≤ 601024; omega, by show slots + 0 ≤ 7293034; omega⟩) (fun H locs h => ?_)
  have hS := h.2.2.2.2.1
  refine lv_icmp_eq (tgt := 1824) hx hb dL_law_1819 rfl (fun _ => ?_) (fun c => absurd rfl c)
  refine W.widen (k := cells + 33) (n := slots + 336) (by omega) (by omega) ?_
  exact kk adR gR0 top C (pI R 118 0 0) H locs ls h (hT.t 0) hl
