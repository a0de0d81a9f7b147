set_option maxHeartbeats 4000000 in
set_option maxRecDepth 100000 in
theorem law_c12 {p : Program} {l : Launch} {e : Env} {s : State} {m : MethodId} {below : List Frame} {meth : Method} {c : Code} {cells slots b L : Nat} {xs : Nat → Int32} {D : va_G} {cy : Nat → ClassId} {q : SE} {adC adR : Nat → Nat} {gC gR0 : CG} {top : Nat} {C R : MM} {H : Heap} {locs : List Loc} {ls : Array Slot} {Q : State → Prop} {i : Nat} (hst : l.stackTraces = false) (K : LawC p s m c b L xs D cy q) (hcl : cells + 33 ≤ 601024) (hsl : slots + 336 ≤ 7293034) (hL : L ≤ 3072) (hi : i + 6 ≤ L) (h : LW D cy s (adC 1) (adR 118) (adC 118) adC gC adR gR0 top C R H locs) (hT : TOP C R) (hl : lv_has ls 7 [(4, .int (nI i)), (0, .ref b), (1, .ref (adC 1)), (2, .ref (adR 118)), (3, .ref (adC 118))])
    (kk : ∀ (adR2 : Nat → Nat) (gR2 : CG) (top2 : Nat) (C2 R2 : MM) (H2 : Heap) (locs2 : List Loc) (ls2 : Array Slot), LW D cy s (adC 1) (adR 118) (adC 118) adC gC adR2 gR2 top2 C2 R2 H2 locs2 → TOP C2 R2 → lv_has ls2 7 [(4, .int (nI i)), (0, .ref b), (1, .ref (adC 1)), (2, .ref (adR 118)), (3, .ref (adC 118))] → W p l e room_1 s m #[.ref b] below meth c H2 locs2 (cells + 33) (slots + 336) Q (F0 m 1824 ls2 [])) : W p l e room_1 s m #[.ref b] below meth c H locs cells slots Q (F0 m 776 ls []) := by
  obtain ⟨hx, hb, hml, hown, hts, hX, hbl, hK, hG, hLX⟩ := K
  have hbA : ¬ lwA s b := Nat.not_le.mpr hbl
  have hS := h.2.2.2.2.1
  have j1 : vp_in (nI i + 1) L := by
    rw [nI_1 i]
    exact vp_in_nI (by omega) (by omega)
  obtain ⟨jo, sc, ic, sp, hS0, hR0, -, -, hV0, -, hI0⟩ := id hT
  refine lv_aload_n hx hb dL_law_776 rfl (lv_at hl 2 rfl) ?_
  refine lv_aload_n hx hb dL_law_777 rfl (lv_at hl 1 rfl) ?_
  refine lv_iload hx hb dL_law_778 (lv_at hl 0 rfl) ?_
  refine lv_iconst (v := 1) hx hb dL_law_780 rfl ?_
  refine lv_iadd hx hb dL_law_781 ?_
  refine va_sld hx hb hX hbl hbA hS j1 dL_law_782 ?_
  obtain ⟨r, C2, R2, e1, e2, hT2⟩ : FT C R (f_X11_seed C 1 (xs (nI i + 1).toNatClampNeg)) (f_X13_seed R 118 (xs (nI i + 1).toNatClampNeg)) := t_seed hT (xs (nI i + 1).toNatClampNeg)
  refine lwC_z (Z := r) (C2 := C2) h (va_runV (As := [.int (xs (nI i + 1).toNatClampNeg)]) (rest := []) ⟨hx, hb, hml, hown, hts⟩ (c_X11_seed (l := l) C 1 (xs (nI i + 1).toNatClampNeg) h.2.2.2.2.2.2.2.1.1 e1) (cwV 1 hts gL_law_X11_seed rfl rfl rfl hdV_X11_seed ⟨Nat.le_of_ble_eq_true rfl, Nat.le_of_ble_eq_true rfl⟩) (pC h hK hG) rfl rfl hl.1 rfl (lv_room (Nat.le_of_ble_eq_true rfl)) dL_law_783 ⟨by show cells + 0 ≤ 601024; omega, by show slots + 0 ≤ 7293034; omega⟩) (fun H locs h => ?_)
  have hS := h.2.2.2.2.1
  refine lv_aload_n hx hb dL_law_786 rfl (lv_at hl 3 rfl) ?_
  refine lv_aload_n hx hb dL_law_787 rfl (lv_at hl 1 rfl) ?_
  refine lv_iload hx hb dL_law_788 (lv_at hl 0 rfl) ?_
  refine lv_iconst (v := 1) hx hb dL_law_790 rfl ?_
  refine lv_iadd hx hb dL_law_791 ?_
  refine va_sld hx hb hX hbl hbA hS j1 dL_law_792 ?_
  refine lwR_z (Z := r) (R2 := R2) h (va_runV (As := [.int (xs (nI i + 1).toNatClampNeg)]) (rest := [.int r]) ⟨hx, hb, hml, hown, hts⟩ (c_X13_seed (l := l) R 118 (xs (nI i + 1).toNatClampNeg) h.2.2.2.2.2.2.2.2.1.1 e2) (cwV 1 hts gL_law_X13_seed rfl rfl rfl hdV_X13_seed ⟨Nat.le_of_ble_eq_true rfl, Nat.le_of_ble_eq_true rfl⟩) (pR0 h hK hG) rfl rfl hl.1 rfl (lv_room (Nat.le_of_ble_eq_true rfl)) dL_law_793 ⟨by show cells + 0 ≤ 601024; omega, by show slots + 0 ≤ 7293034; omega⟩) (fun H locs h => ?_)
  have hS := h.2.2.2.2.1
  refine lv_icmp_eq (tgt := 1824) hx hb dL_law_796 rfl (fun _ => ?_) (fun c => absurd rfl c)
  refine W.widen (k := cells + 33) (n := slots + 336) (by omega) (by omega) ?_
  exact kk adR gR0 top C2 R2 H locs ls h hT2 hl
set_option maxHeartbeats 4000000 in
set_option maxRecDepth 100000 in
theorem law_c13 {p : Program} {l : Launch} {e : Env} {s : State} {m : MethodId} {below : List Frame} {meth : Method} {c : Code} {cells slots b L : Nat} {xs : Nat → Int32} {D : va_G} {cy : Nat → ClassId} {q : SE} {adC adR : Nat → Nat} {gC gR0 : CG} {top : Nat} {C R : MM} {H : Heap} {locs : List Loc} {ls : Array Slot} {Q : State → Prop} {i : Nat} (hst : l.stackTraces = false) (K : LawC p s m c b L xs D cy q) (hcl : cells + 33 ≤ 601024) (hsl : slots + 336 ≤ 7293034) (hL : L ≤ 3072) (hi : i + 6 ≤ L) (h : LW D cy s (adC 1) (adR 118) (adC 118) adC gC adR gR0 top C R H locs) (hT : TOP C R) (hl : lv_has ls 7 [(4, .int (nI i)), (0, .ref b), (1, .ref (adC 1)), (2, .ref (adR 118)), (3, .ref (adC 118))])
    (kk : ∀ (adR2 : Nat → Nat) (gR2 : CG) (top2 : Nat) (C2 R2 : MM) (H2 : Heap) (locs2 : List Loc) (ls2 : Array Slot), LW D cy s (adC 1) (adR 118) (adC 118) adC gC adR2 gR2 top2 C2 R2 H2 locs2 → TOP C2 R2 → lv_has ls2 7 [(4, .int (nI i)), (0, .ref b), (1, .ref (adC 1)), (2, .ref (adR 118)), (3, .ref (adC 118))] → W p l e room_1 s m #[.ref b] below meth c H2 locs2 (cells + 33) (slots + 336) Q (F0 m 1824 ls2 [])) : W p l e room_1 s m #[.ref b] below meth c H locs cells slots Q (F0 m 801 ls []) := by
  obtain ⟨hx, hb, hml, hown, hts, hX, hbl, hK, hG, hLX⟩ := K
  have hbA : ¬ lwA s b := Nat.not_le.mpr hbl
  have hS := h.2.2.2.2.1
  have j1 : vp_in (nI i + 1) L := by
    rw [nI_1 i]
    exact vp_in_nI (by omega) (by omega)
  have j2 : vp_in (nI i + 2) L := by
    rw [show (2 : Int32) = nI 2 from rfl, nI_add]
    exact vp_in_nI (by omega) (by omega)
  have j3 : vp_in (nI i + 3) L := by
    rw [show (3 : Int32) = nI 3 from rfl, nI_add]
    exact vp_in_nI (by omega) (by omega)
  have j4 : vp_in (nI i + 4) L := by
    rw [show (4 : Int32) = nI 4 from rfl, nI_add]
    exact vp_in_nI (by omega) (by omega)
  obtain ⟨jo, sc, ic, sp, hS0, hR0, -, -, hV0, -, hI0⟩ := id hT
  refine lv_aload_n hx hb dL_law_801 rfl (lv_at hl 2 rfl) ?_
  refine lv_aload_n hx hb dL_law_802 rfl (lv_at hl 1 rfl) ?_
  refine lv_iload hx hb dL_law_803 (lv_at hl 0 rfl) ?_
  refine lv_iconst (v := 1) hx hb dL_law_805 rfl ?_
  refine lv_iadd hx hb dL_law_806 ?_
  refine va_sld hx hb hX hbl hbA hS j1 dL_law_807 ?_
  refine lv_aload_n hx hb dL_law_808 rfl (lv_at hl 1 rfl) ?_
  refine lv_iload hx hb dL_law_809 (lv_at hl 0 rfl) ?_
  refine lv_iconst (v := 2) hx hb dL_law_811 rfl ?_
  refine lv_iadd hx hb dL_law_812 ?_
  refine va_sld hx hb hX hbl hbA hS j2 dL_law_813 ?_
  refine lv_aload_n hx hb dL_law_814 rfl (lv_at hl 1 rfl) ?_
  refine lv_iload hx hb dL_law_815 (lv_at hl 0 rfl) ?_
  refine lv_iconst (v := 3) hx hb dL_law_817 rfl ?_
  refine lv_iadd hx hb dL_law_818 ?_
  refine va_sld hx hb hX hbl hbA hS j3 dL_law_819 ?_
  refine lv_aload_n hx hb dL_law_820 rfl (lv_at hl 1 rfl) ?_
  refine lv_iload hx hb dL_law_821 (lv_at hl 0 rfl) ?_
  refine lv_iconst (v := 4) hx hb dL_law_823 rfl ?_
  refine lv_iadd hx hb dL_law_824 ?_
  refine va_sld hx hb hX hbl hbA hS j4 dL_law_825 ?_
  obtain ⟨r, C2, R2, e1, e2, hT2⟩ : FT C R (f_X11_move C 1 (xs (nI i + 1).toNatClampNeg) (xs (nI i + 2).toNatClampNeg) (xs (nI i + 3).toNatClampNeg) (xs (nI i + 4).toNatClampNeg)) (f_X13_move R 118 (xs (nI i + 1).toNatClampNeg) (xs (nI i + 2).toNatClampNeg) (xs (nI i + 3).toNatClampNeg) (xs (nI i + 4).toNatClampNeg)) := t_move hT (xs (nI i + 1).toNatClampNeg) (xs (nI i + 2).toNatClampNeg) (xs (nI i + 3).toNatClampNeg) (xs (nI i + 4).toNatClampNeg)
  refine lwC_z (Z := r) (C2 := C2) h (va_runV (As := [.int (xs (nI i + 1).toNatClampNeg), .int (xs (nI i + 2).toNatClampNeg), .int (xs (nI i + 3).toNatClampNeg), .int (xs (nI i + 4).toNatClampNeg)]) (rest := []) ⟨hx, hb, hml, hown, hts⟩ (c_X11_move (l := l) C 1 (xs (nI i + 1).toNatClampNeg) (xs (nI i + 2).toNatClampNeg) (xs (nI i + 3).toNatClampNeg) (xs (nI i + 4).toNatClampNeg) h.2.2.2.2.2.2.2.1.1 e1) (cwV 4 hts gL_law_X11_move rfl rfl rfl hdV_X11_move ⟨Nat.le_of_ble_eq_true rfl, Nat.le_of_ble_eq_true rfl⟩) (pC h hK hG) rfl rfl hl.1 rfl (lv_room (Nat.le_of_ble_eq_true rfl)) dL_law_826 ⟨by show cells + 0 ≤ 601024; omega, by show slots + 0 ≤ 7293034; omega⟩) (fun H locs h => ?_)
  have hS := h.2.2.2.2.1
  refine lv_aload_n hx hb dL_law_829 rfl (lv_at hl 3 rfl) ?_
  refine lv_aload_n hx hb dL_law_830 rfl (lv_at hl 1 rfl) ?_
  refine lv_iload hx hb dL_law_831 (lv_at hl 0 rfl) ?_
  refine lv_iconst (v := 1) hx hb dL_law_833 rfl ?_
  refine lv_iadd hx hb dL_law_834 ?_
  refine va_sld hx hb hX hbl hbA hS j1 dL_law_835 ?_
  refine lv_aload_n hx hb dL_law_836 rfl (lv_at hl 1 rfl) ?_
  refine lv_iload hx hb dL_law_837 (lv_at hl 0 rfl) ?_
  refine lv_iconst (v := 2) hx hb dL_law_839 rfl ?_
  refine lv_iadd hx hb dL_law_840 ?_
  refine va_sld hx hb hX hbl hbA hS j2 dL_law_841 ?_
  refine lv_aload_n hx hb dL_law_842 rfl (lv_at hl 1 rfl) ?_
  refine lv_iload hx hb dL_law_843 (lv_at hl 0 rfl) ?_
  refine lv_iconst (v := 3) hx hb dL_law_845 rfl ?_
  refine lv_iadd hx hb dL_law_846 ?_
  refine va_sld hx hb hX hbl hbA hS j3 dL_law_847 ?_
  refine lv_aload_n hx hb dL_law_848 rfl (lv_at hl 1 rfl) ?_
  refine lv_iload hx hb dL_law_849 (lv_at hl 0 rfl) ?_
  refine lv_iconst (v := 4) hx hb dL_law_851 rfl ?_
  refine lv_iadd hx hb dL_law_852 ?_
  refine va_sld hx hb hX hbl hbA hS j4 dL_law_853 ?_
  refine lwR_z (Z := r) (R2 := R2) h (va_runV (As := [.int (xs (nI i + 1).toNatClampNeg), .int (xs (nI i + 2).toNatClampNeg), .int (xs (nI i + 3).toNatClampNeg), .int (xs (nI i + 4).toNatClampNeg)]) (rest := [.int r]) ⟨hx, hb, hml, hown, hts⟩ (c_X13_move (l := l) R 118 (xs (nI i + 1).toNatClampNeg) (xs (nI i + 2).toNatClampNeg) (xs (nI i + 3).toNatClampNeg) (xs (nI i + 4).toNatClampNeg) h.2.2.2.2.2.2.2.2.1.1 e2) (cwV 4 hts gL_law_X13_move rfl rfl rfl hdV_X13_move ⟨Nat.le_of_ble_eq_true rfl, Nat.le_of_ble_eq_true rfl⟩) (pR0 h hK hG) rfl rfl hl.1 rfl (lv_room (Nat.le_of_ble_eq_true rfl)) dL_law_854 ⟨by show cells + 0 ≤ 601024; omega, by show slots + 0 ≤ 7293034; omega⟩) (fun H locs h => ?_)
  have hS := h.2.2.2.2.1
  refine lv_icmp_eq (tgt := 1824) hx hb dL_law_857 rfl (fun _ => ?_) (fun c => absurd rfl c)
  refine W.widen (k := cells + 33) (n := slots + 336) (by omega) (by omega) ?_
  exact kk adR gR0 top C2 R2 H locs ls h hT2 hl
set_option maxHeartbeats 4000000 in
set_option maxRecDepth 100000 in
theorem law_c14 {p : Program} {l : Launch} {e : Env} {s : State} {m : MethodId} {below : List Frame} {meth : Method} {c : Code} {cells slots b L : Nat} {xs : Nat → Int32} {D : va_G} {cy : Nat → ClassId} {q : SE} {adC adR : Nat → Nat} {gC gR0 : CG} {top : Nat} {C R : MM} {H : Heap} {locs : List Loc} {ls : Array Slot} {Q : State → Prop} {i : Nat} (hst : l.stackTraces = false) (K : LawC p s m c b L xs D cy q) (hcl : cells + 33 ≤ 601024) (hsl : slots + 336 ≤ 7293034) (hL : L ≤ 3072) (hi : i + 6 ≤ L) (h : LW D cy s (adC 1) (adR 118) (adC 118) adC gC adR gR0 top C R H locs) (hT : TOP C R) (hl : lv_has ls 7 [(4, .int (nI i)), (0, .ref b), (1, .ref (adC 1)), (2, .ref (adR 118)), (3, .ref (adC 118))])
    (kk : ∀ (adR2 : Nat → Nat) (gR2 : CG) (top2 : Nat) (C2 R2 : MM) (H2 : Heap) (locs2 : List Loc) (ls2 : Array Slot), LW D cy s (adC 1) (adR 118) (adC 118) adC gC adR2 gR2 top2 C2 R2 H2 locs2 → TOP C2 R2 → lv_has ls2 7 [(4, .int (nI i)), (0, .ref b), (1, .ref (adC 1)), (2, .ref (adR 118)), (3, .ref (adC 118))] → W p l e room_1 s m #[.ref b] below meth c H2 locs2 (cells + 33) (slots + 336) Q (F0 m 1824 ls2 [])) : W p l e room_1 s m #[.ref b] below meth c H locs cells slots Q (F0 m 862 ls []) := by
  obtain ⟨hx, hb, hml, hown, hts, hX, hbl, hK, hG, hLX⟩ := K
  have hbA : ¬ lwA s b := Nat.not_le.mpr hbl
  have hS := h.2.2.2.2.1
  obtain ⟨jo, sc, ic, sp, hS0, hR0, -, -, hV0, -, hI0⟩ := id hT
  refine lv_aload_n hx hb dL_law_862 rfl (lv_at hl 2 rfl) ?_
  obtain ⟨r, C2, R2, e1, e2, hT2⟩ : FT C R (f_X11_step C 1 ) (f_X13_step R 118 ) := t_step hT 
  refine lwC_i (Z := r) (C2 := C2) h (va_runV (As := []) (rest := []) ⟨hx, hb, hml, hown, hts⟩ (c_X11_step (l := l) C 1 h.2.2.2.2.2.2.2.1.1 e1) (cwV 0 hts gL_law_X11_step rfl rfl rfl hdV_X11_step ⟨Nat.le_of_ble_eq_true rfl, Nat.le_of_ble_eq_true rfl⟩) (pC h hK hG) rfl rfl hl.1 rfl (lv_room (Nat.le_of_ble_eq_true rfl)) dL_law_863 ⟨by show cells + 0 ≤ 601024; omega, by show slots + 0 ≤ 7293034; omega⟩) (fun H locs h => ?_)
  have hS := h.2.2.2.2.1
  refine lv_aload_n hx hb dL_law_866 rfl (lv_at hl 3 rfl) ?_
  refine lwR_i (Z := r) (R2 := R2) h (va_runV (As := []) (rest := [.int r]) ⟨hx, hb, hml, hown, hts⟩ (c_X13_step (l := l) R 118 h.2.2.2.2.2.2.2.2.1.1 e2) (cwV 0 hts gL_law_X13_step rfl rfl rfl hdV_X13_step ⟨Nat.le_of_ble_eq_true rfl, Nat.le_of_ble_eq_true rfl⟩) (pR0 h hK hG) rfl rfl hl.1 rfl (lv_room (Nat.le_of_ble_eq_true rfl)) dL_law_867 ⟨by show cells + 0 ≤ 601024; omega, by show slots + 0 ≤ 7293034; omega⟩) (fun H locs h => ?_)
  have hS := h.2.2.2.2.1
  refine lv_icmp_eq (tgt := 1824) hx hb dL_law_870 rfl (fun _ => ?_) (fun c => absurd rfl c)
  refine W.widen (k := cells + 33) (n := slots + 336) (by omega) (by omega) ?_
  exact kk adR gR0 top C2 R2 H locs ls h hT2 hl
set_option maxHeartbeats 4000000 in
set_option maxRecDepth 100000 in
theorem law_c15 {p : Program} {l : Launch} {e : Env} {s : State} {m : MethodId} {below : List Frame} {meth : Method} {c : Code} {cells slots b L : Nat} {xs : Nat → Int32} {D : va_G} {cy : Nat → ClassId} {q : SE} {adC adR : Nat → Nat} {gC gR0 : CG} {top : Nat} {C R : MM} {H : Heap} {locs : List Loc} {ls : Array Slot} {Q : State → Prop} {i : Nat} (hst : l.stackTraces = false) (K : LawC p s m c b L xs D cy q) (hcl : cells + 33 ≤ 601024) (hsl : slots + 336 ≤ 7293034) (hL : L ≤ 3072) (hi : i + 6 ≤ L) (h : LW D cy s (adC 1) (adR 118) (adC 118) adC gC adR gR0 top C R H locs) (hT : TOP C R) (hl : lv_has ls 7 [(4, .int (nI i)), (0, .ref b), (1, .ref (adC 1)), (2, .ref (adR 118)), (3, .ref (adC 118))])
    (kk : ∀ (adR2 : Nat → Nat) (gR2 : CG) (top2 : Nat) (C2 R2 : MM) (H2 : Heap) (locs2 : List Loc) (ls2 : Array Slot), LW D cy s (adC 1) (adR 118) (adC 118) adC gC adR2 gR2 top2 C2 R2 H2 locs2 → TOP C2 R2 → lv_has ls2 7 [(4, .int (nI i)), (0, .ref b), (1, .ref (adC 1)), (2, .ref (adR 118)), (3, .ref (adC 118))] → W p l e room_1 s m #[.ref b] below meth c H2 locs2 (cells + 33) (slots + 336) Q (F0 m 1824 ls2 [])) : W p l e room_1 s m #[.ref b] below meth c H locs cells slots Q (F0 m 875 ls []) := by
  obtain ⟨hx, hb, hml, hown, hts, hX, hbl, hK, hG, hLX⟩ := K
  have hbA : ¬ lwA s b := Nat.not_le.mpr hbl
  have hS := h.2.2.2.2.1
  have j1 : vp_in (nI i + 1) L := by
    rw [nI_1 i]
    exact vp_in_nI (by omega) (by omega)
  obtain ⟨jo, sc, ic, sp, hS0, hR0, -, -, hV0, -, hI0⟩ := id hT
  refine lv_aload_n hx hb dL_law_875 rfl (lv_at hl 2 rfl) ?_
  refine lv_aload_n hx hb dL_law_876 rfl (lv_at hl 1 rfl) ?_
  refine lv_iload hx hb dL_law_877 (lv_at hl 0 rfl) ?_
  refine lv_iconst (v := 1) hx hb dL_law_879 rfl ?_
  refine lv_iadd hx hb dL_law_880 ?_
  refine va_sld hx hb hX hbl hbA hS j1 dL_law_881 ?_
  obtain ⟨r, C2, R2, e1, e2, hT2⟩ : FT C R (f_X11_call C 1 (xs (nI i + 1).toNatClampNeg)) (f_X13_call R 118 (xs (nI i + 1).toNatClampNeg)) := t_call hT (xs (nI i + 1).toNatClampNeg)
  refine lwC_z (Z := r) (C2 := C2) h (va_runV (As := [.int (xs (nI i + 1).toNatClampNeg)]) (rest := []) ⟨hx, hb, hml, hown, hts⟩ (c_X11_call (l := l) C 1 (xs (nI i + 1).toNatClampNeg) h.2.2.2.2.2.2.2.1.1 e1) (cwV 1 hts gL_law_X11_call rfl rfl rfl hdV_X11_call ⟨Nat.le_of_ble_eq_true rfl, Nat.le_of_ble_eq_true rfl⟩) (pC h hK hG) rfl rfl hl.1 rfl (lv_room (Nat.le_of_ble_eq_true rfl)) dL_law_882 ⟨by show cells + 0 ≤ 601024; omega, by show slots + 0 ≤ 7293034; omega⟩) (fun H locs h => ?_)
  have hS := h.2.2.2.2.1
  refine lv_aload_n hx hb dL_law_885 rfl (lv_at hl 3 rfl) ?_
  refine lv_aload_n hx hb dL_law_886 rfl (lv_at hl 1 rfl) ?_
  refine lv_iload hx hb dL_law_887 (lv_at hl 0 rfl) ?_
  refine lv_iconst (v := 1) hx hb dL_law_889 rfl ?_
  refine lv_iadd hx hb dL_law_890 ?_
  refine va_sld hx hb hX hbl hbA hS j1 dL_law_891 ?_
  refine lwR_z (Z := r) (R2 := R2) h (va_runV (As := [.int (xs (nI i + 1).toNatClampNeg)]) (rest := [.int r]) ⟨hx, hb, hml, hown, hts⟩ (c_X13_call (l := l) R 118 (xs (nI i + 1).toNatClampNeg) h.2.2.2.2.2.2.2.2.1.1 e2) (cwV 1 hts gL_law_X13_call rfl rfl rfl hdV_X13_call ⟨Nat.le_of_ble_eq_true rfl, Nat.le_of_ble_eq_true rfl⟩) (pR0 h hK hG) rfl rfl hl.1 rfl (lv_room (Nat.le_of_ble_eq_true rfl)) dL_law_892 ⟨by show cells + 0 ≤ 601024; omega, by show slots + 0 ≤ 7293034; omega⟩) (fun H locs h => ?_)
  have hS := h.2.2.2.2.1
  refine lv_icmp_eq (tgt := 1824) hx hb dL_law_895 rfl (fun _ => ?_) (fun c => absurd rfl c)
  refine W.widen (k := cells + 33) (n := slots + 336) (by omega) (by omega) ?_
  exact kk adR gR0 top C2 R2 H locs ls h hT2 hl
set_option maxHeartbeats 4000000 in
set_option maxRecDepth 100000 in
theorem law_c16 {p : Program} {l : Launch} {e : Env} {s : State} {m : MethodId} {below : List Frame} {meth : Method} {c : Code} {cells slots b L : Nat} {xs : Nat → Int32} {D : va_G} {cy : Nat → ClassId} {q : SE} {adC adR : Nat → Nat} {gC gR0 : CG} {top : Nat} {C R : MM} {H : Heap} {locs : List Loc} {ls : Array Slot} {Q : State → Prop} {i : Nat} (hst : l.stackTraces = false) (K : LawC p s m c b L xs D cy q) (hcl : cells + 33 ≤ 601024) (hsl : slots + 336 ≤ 7293034) (hL : L ≤ 3072) (hi : i + 6 ≤ L) (h : LW D cy s (adC 1) (adR 118) (adC 118) adC gC adR gR0 top C R H locs) (hT : TOP C R) (hl : lv_has ls 7 [(4, .int (nI i)), (0, .ref b), (1, .ref (adC 1)), (2, .ref (adR 118)), (3, .ref (adC 118))])
    (kk : ∀ (adR2 : Nat → Nat) (gR2 : CG) (top2 : Nat) (C2 R2 : MM) (H2 : Heap) (locs2 : List Loc) (ls2 : Array Slot), LW D cy s (adC 1) (adR 118) (adC 118) adC gC adR2 gR2 top2 C2 R2 H2 locs2 → TOP C2 R2 → lv_has ls2 7 [(4, .int (nI i)), (0, .ref b), (1, .ref (adC 1)), (2, .ref (adR 118)), (3, .ref (adC 118))] → W p l e room_1 s m #[.ref b] below meth c H2 locs2 (cells + 33) (slots + 336) Q (F0 m 1824 ls2 [])) : W p l e room_1 s m #[.ref b] below meth c H locs cells slots Q (F0 m 900 ls []) := by
  obtain ⟨hx, hb, hml, hown, hts, hX, hbl, hK, hG, hLX⟩ := K
  have hbA : ¬ lwA s b := Nat.not_le.mpr hbl
  have hS := h.2.2.2.2.1
  have j1 : vp_in (nI i + 1) L := by
    rw [nI_1 i]
    exact vp_in_nI (by omega) (by omega)
  obtain ⟨jo, sc, ic, sp, hS0, hR0, -, -, hV0, -, hI0⟩ := id hT
  refine lv_aload_n hx hb dL_law_900 rfl (lv_at hl 2 rfl) ?_
  refine lv_aload_n hx hb dL_law_901 rfl (lv_at hl 1 rfl) ?_
  refine lv_iload hx hb dL_law_902 (lv_at hl 0 rfl) ?_
  refine lv_iconst (v := 1) hx hb dL_law_904 rfl ?_
  refine lv_iadd hx hb dL_law_905 ?_
  refine va_sld hx hb hX hbl hbA hS j1 dL_law_906 ?_
  obtain ⟨r, C2, R2, e1, e2, hT2⟩ : FT C R (f_X11_at C 1 (xs (nI i + 1).toNatClampNeg)) (f_X13_at R 118 (xs (nI i + 1).toNatClampNeg)) := t_at hT (xs (nI i + 1).toNatClampNeg)
  refine lwC_i (Z := r) (C2 := C2) h (va_runV (As := [.int (xs (nI i + 1).toNatClampNeg)]) (rest := []) ⟨hx, hb, hml, hown, hts⟩ (c_X11_at (l := l) C 1 (xs (nI i + 1).toNatClampNeg) h.2.2.2.2.2.2.2.1.1 e1) (cwV 1 hts gL_law_X11_at rfl rfl rfl hdV_X11_at ⟨Nat.le_of_ble_eq_true rfl, Nat.le_of_ble_eq_true rfl⟩) (pC h hK hG) rfl rfl hl.1 rfl (lv_room (Nat.le_of_ble_eq_true rfl)) dL_law_907 ⟨by show cells + 0 ≤ 601024; omega, by show slots + 0 ≤ 7293034; omega⟩) (fun H locs h => ?_)
  have hS := h.2.2.2.2.1
  refine lv_aload_n hx hb dL_law_910 rfl (lv_at hl 3 rfl) ?_
  refine lv_aload_n hx hb dL_law_911 rfl (lv_at hl 1 rfl) ?_
  refine lv_iload hx hb dL_law_912 (lv_at hl 0 rfl) ?_
  refine lv_iconst (v := 1) hx hb dL_law_914 rfl ?_
  refine lv_iadd hx hb dL_law_915 ?_
  refine va_sld hx hb hX hbl hbA hS j1 dL_law_916 ?_
  refine lwR_i (Z := r) (R2 := R2) h (va_runV (As := [.int (xs (nI i + 1).toNatClampNeg)]) (rest := [.int r]) ⟨hx, hb, hml, hown, hts⟩ (c_X13_at (l := l) R 118 (xs (nI i + 1).toNatClampNeg) h.2.2.2.2.2.2.2.2.1.1 e2) (cwV 1 hts gL_law_X13_at rfl rfl rfl hdV_X13_at ⟨Nat.le_of_ble_eq_true rfl, Nat.le_of_ble_eq_true rfl⟩) (pR0 h hK hG) rfl rfl hl.1 rfl (lv_room (Nat.le_of_ble_eq_true rfl)) dL_law_917 ⟨by show cells + 0 ≤ 601024; omega, by show slots + 0 ≤ 7293034; omega⟩) (fun H locs h => ?_)
  have hS := h.2.2.2.2.1
  refine lv_icmp_eq (tgt := 1824) hx hb dL_law_920 rfl (fun _ => ?_) (fun c => absurd rfl c)
  refine W.widen (k := cells + 33) (n := slots + 336) (by omega) (by omega) ?_
  exact kk adR gR0 top C2 R2 H locs ls h hT2 hl
set_option maxHeartbeats 4000000 in
set_option maxRecDepth 100000 in
theorem law_c17 {p : Program} {l : Launch} {e : Env} {s : State} {m : MethodId} {below : List Frame} {meth : Method} {c : Code} {cells slots b L : Nat} {xs : Nat → Int32} {D : va_G} {cy : Nat → ClassId} {q : SE} {adC adR : Nat → Nat} {gC gR0 : CG} {top : Nat} {C R : MM} {H : Heap} {locs : List Loc} {ls : Array Slot} {Q : State → Prop} {i : Nat} (hst : l.stackTraces = false) (K : LawC p s m c b L xs D cy q) (hcl : cells + 33 ≤ 601024) (hsl : slots + 336 ≤ 7293034) (hL : L ≤ 3072) (hi : i + 6 ≤ L) (h : LW D cy s (adC 1) (adR 118) (adC 118) adC gC adR gR0 top C R H locs) (hT : TOP C R) (hl : lv_has ls 7 [(4, .int (nI i)), (0, .ref b), (1, .ref (adC 1)), (2, .ref (adR 118)), (3, .ref (adC 118))])
    (kk : ∀ (adR2 : Nat → Nat) (gR2 : CG) (top2 : Nat) (C2 R2 : MM) (H2 : Heap) (locs2 : List Loc) (ls2 : Array Slot), LW D cy s (adC 1) (adR 118) (adC 118) adC gC adR2 gR2 top2 C2 R2 H2 locs2 → TOP C2 R2 → lv_has ls2 7 [(4, .int (nI i)), (0, .ref b), (1, .ref (adC 1)), (2, .ref (adR 118)), (3, .ref (adC 118))] → W p l e room_1 s m #[.ref b] below meth c H2 locs2 (cells + 33) (slots + 336) Q (F0 m 1824 ls2 [])) : W p l e room_1 s m #[.ref b] below meth c H locs cells slots Q (F0 m 925 ls []) := by
  obtain ⟨hx, hb, hml, hown, hts, hX, hbl, hK, hG, hLX⟩ := K
  have hbA : ¬ lwA s b := Nat.not_le.mpr hbl
  have hS := h.2.2.2.2.1
  have j1 : vp_in (nI i + 1) L := by
    rw [nI_1 i]
    exact vp_in_nI (by omega) (by omega)
  obtain ⟨jo, sc, ic, sp, hS0, hR0, -, -, hV0, -, hI0⟩ := id hT
  refine lv_aload_n hx hb dL_law_925 rfl (lv_at hl 2 rfl) ?_
  refine lv_aload_n hx hb dL_law_926 rfl (lv_at hl 1 rfl) ?_
  refine lv_iload hx hb dL_law_927 (lv_at hl 0 rfl) ?_
  refine lv_iconst (v := 1) hx hb dL_law_929 rfl ?_
  refine lv_iadd hx hb dL_law_930 ?_
  refine va_sld hx hb hX hbl hbA hS j1 dL_law_931 ?_
  obtain ⟨r, C2, R2, e1, e2, hT2⟩ : FT C R (f_X11_tries C 1 (xs (nI i + 1).toNatClampNeg)) (f_X13_tries R 118 (xs (nI i + 1).toNatClampNeg)) := t_tries hT (xs (nI i + 1).toNatClampNeg)
  refine lwC_i (Z := r) (C2 := C2) h (va_runV (As := [.int (xs (nI i + 1).toNatClampNeg)]) (rest := []) ⟨hx, hb, hml, hown, hts⟩ (c_X11_tries (l := l) C 1 (xs (nI i + 1).toNatClampNeg) h.2.2.2.2.2.2.2.1.1 e1) (cwV 1 hts gL_law_X11_tries rfl rfl rfl hdV_X11_tries ⟨Nat.le_of_ble_eq_true rfl, Nat.le_of_ble_eq_true rfl⟩) (pC h hK hG) rfl rfl hl.1 rfl (lv_room (Nat.le_of_ble_eq_true rfl)) dL_law_932 ⟨by show cells + 0 ≤ 601024; omega, by show slots + 0 ≤ 7293034; omega⟩) (fun H locs h => ?_)
  have hS := h.2.2.2.2.1
  refine lv_aload_n hx hb dL_law_935 rfl (lv_at hl 3 rfl) ?_
  refine lv_aload_n hx hb dL_law_936 rfl (lv_at hl 1 rfl) ?_
  refine lv_iload hx hb dL_law_937 (lv_at hl 0 rfl) ?_
  refine lv_iconst (v := 1) hx hb dL_law_939 rfl ?_
  refine lv_iadd hx hb dL_law_940 ?_
  refine va_sld hx hb hX hbl hbA hS j1 dL_law_941 ?_
  refine lwR_i (Z := r) (R2 := R2) h (va_runV (As := [.int (xs (nI i + 1).toNatClampNeg)]) (rest := [.int r]) ⟨hx, hb, hml, hown, hts⟩ (c_X13_tries (l := l) R 118 (xs (nI i + 1).toNatClampNeg) h.2.2.2.2.2.2.2.2.1.1 e2) (cwV 1 hts gL_law_X13_tries rfl rfl rfl hdV_X13_tries ⟨Nat.le_of_ble_eq_true rfl, Nat.le_of_ble_eq_true rfl⟩) (pR0 h hK hG) rfl rfl hl.1 rfl (lv_room (Nat.le_of_ble_eq_true rfl)) dL_law_942 ⟨by show cells + 0 ≤ 601024; omega, by show slots + 0 ≤ 7293034; omega⟩) (fun H locs h => ?_)
  have hS := h.2.2.2.2.1
  refine lv_icmp_eq (tgt := 1824) hx hb dL_law_945 rfl (fun _ => ?_) (fun c => absurd rfl c)
  refine W.widen (k := cells + 33) (n := slots + 336) (by omega) (by omega) ?_
  exact kk adR gR0 top C2 R2 H locs ls h hT2 hl
set_option maxHeartbeats 4000000 in
set_option maxRecDepth 100000 in
theorem law_c18 {p : Program} {l : Launch} {e : Env} {s : State} {m : MethodId} {below : List Frame} {meth : Method} {c : Code} {cells slots b L : Nat} {xs : Nat → Int32} {D : va_G} {cy : Nat → ClassId} {q : SE} {adC adR : Nat → Nat} {gC gR0 : CG} {top : Nat} {C R : MM} {H : Heap} {locs : List Loc} {ls : Array Slot} {Q : State → Prop} {i : Nat} (hst : l.stackTraces = false) (K : LawC p s m c b L xs D cy q) (hcl : cells + 33 ≤ 601024) (hsl : slots + 336 ≤ 7293034) (hL : L ≤ 3072) (hi : i + 6 ≤ L) (h : LW D cy s (adC 1) (adR 118) (adC 118) adC gC adR gR0 top C R H locs) (hT : TOP C R) (hl : lv_has ls 7 [(4, .int (nI i)), (0, .ref b), (1, .ref (adC 1)), (2, .ref (adR 118)), (3, .ref (adC 118))])
    (kk : ∀ (adR2 : Nat → Nat) (gR2 : CG) (top2 : Nat) (C2 R2 : MM) (H2 : Heap) (locs2 : List Loc) (ls2 : Array Slot), LW D cy s (adC 1) (adR 118) (adC 118) adC gC adR2 gR2 top2 C2 R2 H2 locs2 → TOP C2 R2 → lv_has ls2 7 [(4, .int (nI i)), (0, .ref b), (1, .ref (adC 1)), (2, .ref (adR 118)), (3, .ref (adC 118))] → W p l e room_1 s m #[.ref b] below meth c H2 locs2 (cells + 33) (slots + 336) Q (F0 m 1824 ls2 [])) : W p l e room_1 s m #[.ref b] below meth c H locs cells slots Q (F0 m 950 ls []) := by
  obtain ⟨hx, hb, hml, hown, hts, hX, hbl, hK, hG, hLX⟩ := K
  have hbA : ¬ lwA s b := Nat.not_le.mpr hbl
  have hS := h.2.2.2.2.1
  obtain ⟨jo, sc, ic, sp, hS0, hR0, -, -, hV0, -, hI0⟩ := id hT
  refine lv_aload_n hx hb dL_law_950 rfl (lv_at hl 2 rfl) ?_
  obtain ⟨r, C2, R2, e1, e2, hT2⟩ : FL C R (f_X11_image C 1 ) (f_X13_image R 118 ) := t_image hT 
  refine lwC_l (Z := r) (C2 := C2) h (va_runV (As := []) (rest := []) ⟨hx, hb, hml, hown, hts⟩ (c_X11_image (l := l) C 1 h.2.2.2.2.2.2.2.1.1 e1) (cwV 0 hts gL_law_X11_image rfl rfl rfl hdV_X11_image ⟨Nat.le_of_ble_eq_true rfl, Nat.le_of_ble_eq_true rfl⟩) (pC h hK hG) rfl rfl hl.1 rfl (lv_room (Nat.le_of_ble_eq_true rfl)) dL_law_951 ⟨by show cells + 0 ≤ 601024; omega, by show slots + 0 ≤ 7293034; omega⟩) (fun H locs h => ?_)
  have hS := h.2.2.2.2.1
  refine lv_aload_n hx hb dL_law_954 rfl (lv_at hl 3 rfl) ?_
  refine lwR_l (Z := r) (R2 := R2) h (va_runV (As := []) (rest := [.long r]) ⟨hx, hb, hml, hown, hts⟩ (c_X13_image (l := l) R 118 h.2.2.2.2.2.2.2.2.1.1 e2) (cwV 0 hts gL_law_X13_image rfl rfl rfl hdV_X13_image ⟨Nat.le_of_ble_eq_true rfl, Nat.le_of_ble_eq_true rfl⟩) (pR0 h hK hG) rfl rfl hl.1 rfl (lv_room (Nat.le_of_ble_eq_true rfl)) dL_law_955 ⟨by show cells + 0 ≤ 601024; omega, by show slots + 0 ≤ 7293034; omega⟩) (fun H locs h => ?_)
  have hS := h.2.2.2.2.1
  refine W.lcmp hx hb dL_law_958 ?_
  refine lv_if_eq (tgt := 1824) hx hb dL_law_959 rfl (fun _ => ?_) (fun c => absurd ((lg_cmp_eq _ _).mpr rfl) c)
  refine W.widen (k := cells + 33) (n := slots + 336) (by omega) (by omega) ?_
  exact kk adR gR0 top C2 R2 H locs ls h hT2 hl
set_option maxHeartbeats 4000000 in
set_option maxRecDepth 100000 in
theorem law_c19 {p : Program} {l : Launch} {e : Env} {s : State} {m : MethodId} {below : List Frame} {meth : Method} {c : Code} {cells slots b L : Nat} {xs : Nat → Int32} {D : va_G} {cy : Nat → ClassId} {q : SE} {adC adR : Nat → Nat} {gC gR0 : CG} {top : Nat} {C R : MM} {H : Heap} {locs : List Loc} {ls : Array Slot} {Q : State → Prop} {i : Nat} (hst : l.stackTraces = false) (K : LawC p s m c b L xs D cy q) (hcl : cells + 33 ≤ 601024) (hsl : slots + 336 ≤ 7293034) (hL : L ≤ 3072) (hi : i + 6 ≤ L) (h : LW D cy s (adC 1) (adR 118) (adC 118) adC gC adR gR0 top C R H locs) (hT : TOP C R) (hl : lv_has ls 7 [(4, .int (nI i)), (0, .ref b), (1, .ref (adC 1)), (2, .ref (adR 118)), (3, .ref (adC 118))])
    (kk : ∀ (adR2 : Nat → Nat) (gR2 : CG) (top2 : Nat) (C2 R2 : MM) (H2 : Heap) (locs2 : List Loc) (ls2 : Array Slot), LW D cy s (adC 1) (adR 118) (adC 118) adC gC adR2 gR2 top2 C2 R2 H2 locs2 → TOP C2 R2 → lv_has ls2 7 [(4, .int (nI i)), (0, .ref b), (1, .ref (adC 1)), (2, .ref (adR 118)), (3, .ref (adC 118))] → W p l e room_1 s m #[.ref b] below meth c H2 locs2 (cells + 33) (slots + 336) Q (F0 m 1824 ls2 [])) : W p l e room_1 s m #[.ref b] below meth c H locs cells slots Q (F0 m 964 ls []) := by
  obtain ⟨hx, hb, hml, hown, hts, hX, hbl, hK, hG, hLX⟩ := K
  have hbA : ¬ lwA s b := Nat.not_le.mpr hbl
  have hS := h.2.2.2.2.1
  have j1 : vp_in (nI i + 1) L := by
    rw [nI_1 i]
    exact vp_in_nI (by omega) (by omega)
  have j2 : vp_in (nI i + 2) L := by
    rw [show (2 : Int32) = nI 2 from rfl, nI_add]
    exact vp_in_nI (by omega) (by omega)
  obtain ⟨jo, sc, ic, sp, hS0, hR0, -, -, hV0, -, hI0⟩ := id hT
  refine lv_aload_n hx hb dL_law_964 rfl (lv_at hl 2 rfl) ?_
  refine lv_aload_n hx hb dL_law_965 rfl (lv_at hl 1 rfl) ?_
  refine lv_iload hx hb dL_law_966 (lv_at hl 0 rfl) ?_
  refine lv_iconst (v := 1) hx hb dL_law_968 rfl ?_
  refine lv_iadd hx hb dL_law_969 ?_
  refine va_sld hx hb hX hbl hbA hS j1 dL_law_970 ?_
  refine lv_i2l hx hb dL_law_971 rfl ?_
  refine lv_bipush (v := 32) hx hb dL_law_972 rfl ?_
  refine lv_lshl hx hb dL_law_974 rfl ?_
  refine lv_aload_n hx hb dL_law_975 rfl (lv_at hl 1 rfl) ?_
  refine lv_iload hx hb dL_law_976 (lv_at hl 0 rfl) ?_
  refine lv_iconst (v := 2) hx hb dL_law_978 rfl ?_
  refine lv_iadd hx hb dL_law_979 ?_
  refine va_sld hx hb hX hbl hbA hS j2 dL_law_980 ?_
  refine lv_i2l hx hb dL_law_981 rfl ?_
  refine lv_ldc2 hx hb hown (hts (.constantLong RL 104 (4294967295)) (List.mem_of_getElem? (i := 7) (by decide +kernel))) dL_law_982 ?_
  refine lv_land hx hb dL_law_985 ?_
  refine lv_lor hx hb dL_law_986 ?_
  obtain ⟨r, C2, R2, e1, e2, hT2⟩ : FT C R (f_X11_restore C 1 ((((xs (nI i + 1).toNatClampNeg).toInt64) <<< (((32 : Int32)).toInt64 &&& 63)) ||| (((xs (nI i + 2).toNatClampNeg).toInt64) &&& 4294967295))) (f_X13_restore R 118 ((((xs (nI i + 1).toNatClampNeg).toInt64) <<< (((32 : Int32)).toInt64 &&& 63)) ||| (((xs (nI i + 2).toNatClampNeg).toInt64) &&& 4294967295))) := t_restore hT ((((xs (nI i + 1).toNatClampNeg).toInt64) <<< (((32 : Int32)).toInt64 &&& 63)) ||| (((xs (nI i + 2).toNatClampNeg).toInt64) &&& 4294967295))
  refine lwC_z (Z := r) (C2 := C2) h (va_runV (As := [.long ((((xs (nI i + 1).toNatClampNeg).toInt64) <<< (((32 : Int32)).toInt64 &&& 63)) ||| (((xs (nI i + 2).toNatClampNeg).toInt64) &&& 4294967295))]) (rest := []) ⟨hx, hb, hml, hown, hts⟩ (c_X11_restore (l := l) C 1 ((((xs (nI i + 1).toNatClampNeg).toInt64) <<< (((32 : Int32)).toInt64 &&& 63)) ||| (((xs (nI i + 2).toNatClampNeg).toInt64) &&& 4294967295)) h.2.2.2.2.2.2.2.1.1 e1) (cwV 1 hts gL_law_X11_restore rfl rfl rfl hdV_X11_restore ⟨Nat.le_of_ble_eq_true rfl, Nat.le_of_ble_eq_true rfl⟩) (pC h hK hG) rfl rfl hl.1 rfl (lv_room (Nat.le_of_ble_eq_true rfl)) dL_law_987 ⟨by show cells + 0 ≤ 601024; omega, by show slots + 0 ≤ 7293034; omega⟩) (fun H locs h => ?_)
  have hS := h.2.2.2.2.1
  refine lv_aload_n hx hb dL_law_990 rfl (lv_at hl 3 rfl) ?_
  refine lv_aload_n hx hb dL_law_991 rfl (lv_at hl 1 rfl) ?_
  refine lv_iload hx hb dL_law_992 (lv_at hl 0 rfl) ?_
  refine lv_iconst (v := 1) hx hb dL_law_994 rfl ?_
  refine lv_iadd hx hb dL_law_995 ?_
  refine va_sld hx hb hX hbl hbA hS j1 dL_law_996 ?_
  refine lv_i2l hx hb dL_law_997 rfl ?_
  refine lv_bipush (v := 32) hx hb dL_law_998 rfl ?_
  refine lv_lshl hx hb dL_law_1000 rfl ?_
  refine lv_aload_n hx hb dL_law_1001 rfl (lv_at hl 1 rfl) ?_
  refine lv_iload hx hb dL_law_1002 (lv_at hl 0 rfl) ?_
  refine lv_iconst (v := 2) hx hb dL_law_1004 rfl ?_
  refine lv_iadd hx hb dL_law_1005 ?_
  refine va_sld hx hb hX hbl hbA hS j2 dL_law_1006 ?_
  refine lv_i2l hx hb dL_law_1007 rfl ?_
  refine lv_ldc2 hx hb hown (hts (.constantLong RL 104 (4294967295)) (List.mem_of_getElem? (i := 7) (by decide +kernel))) dL_law_1008 ?_
  refine lv_land hx hb dL_law_1011 ?_
  refine lv_lor hx hb dL_law_1012 ?_
  refine lwR_z (Z := r) (R2 := R2) h (va_runV (As := [.long ((((xs (nI i + 1).toNatClampNeg).toInt64) <<< (((32 : Int32)).toInt64 &&& 63)) ||| (((xs (nI i + 2).toNatClampNeg).toInt64) &&& 4294967295))]) (rest := [.int r]) ⟨hx, hb, hml, hown, hts⟩ (c_X13_restore (l := l) R 118 ((((xs (nI i + 1).toNatClampNeg).toInt64) <<< (((32 : Int32)).toInt64 &&& 63)) ||| (((xs (nI i + 2).toNatClampNeg).toInt64) &&& 4294967295)) h.2.2.2.2.2.2.2.2.1.1 e2) (cwV 1 hts gL_law_X13_restore rfl rfl rfl hdV_X13_restore ⟨Nat.le_of_ble_eq_true rfl, Nat.le_of_ble_eq_true rfl⟩) (pR0 h hK hG) rfl rfl hl.1 rfl (lv_room (Nat.le_of_ble_eq_true rfl)) dL_law_1013 ⟨by show cells + 0 ≤ 601024; omega, by show slots + 0 ≤ 7293034; omega⟩) (fun H locs h => ?_)
  have hS := h.2.2.2.2.1
  refine lv_icmp_eq (tgt := 1824) hx hb dL_law_1016 rfl (fun _ => ?_) (fun c => absurd rfl c)
  refine W.widen (k := cells + 33) (n := slots + 336) (by omega) (by omega) ?_
  exact kk adR gR0 top C2 R2 H locs ls h hT2 hl
set_option maxHeartbeats 4000000 in
set_option maxRecDepth 100000 in
theorem law_c20 {p : Program} {l : Launch} {e : Env} {s : State} {m : MethodId} {below : List Frame} {meth : Method} {c : Code} {cells slots b L : Nat} {xs : Nat → Int32} {D : va_G} {cy : Nat → ClassId} {q : SE} {adC adR : Nat → Nat} {gC gR0 : CG} {top : Nat} {C R : MM} {H : Heap} {locs : List Loc} {ls : Array Slot} {Q : State → Prop} {i : Nat} (hst : l.stackTraces = false) (K : LawC p s m c b L xs D cy q) (hcl : cells + 33 ≤ 601024) (hsl : slots + 336 ≤ 7293034) (hL : L ≤ 3072) (hi : i + 6 ≤ L) (h : LW D cy s (adC 1) (adR 118) (adC 118) adC gC adR gR0 top C R H locs) (hT : TOP C R) (hl : lv_has ls 7 [(4, .int (nI i)), (0, .ref b), (1, .ref (adC 1)), (2, .ref (adR 118)), (3, .ref (adC 118))])
    (kk : ∀ (adR2 : Nat → Nat) (gR2 : CG) (top2 : Nat) (C2 R2 : MM) (H2 : Heap) (locs2 : List Loc) (ls2 : Array Slot), LW D cy s (adC 1) (adR 118) (adC 118) adC gC adR2 gR2 top2 C2 R2 H2 locs2 → TOP C2 R2 → lv_has ls2 7 [(4, .int (nI i)), (0, .ref b), (1, .ref (adC 1)), (2, .ref (adR 118)), (3, .ref (adC 118))] → W p l e room_1 s m #[.ref b] below meth c H2 locs2 (cells + 33) (slots + 336) Q (F0 m 1824 ls2 [])) : W p l e room_1 s m #[.ref b] below meth c H locs cells slots Q (F0 m 1021 ls []) := by
  obtain ⟨hx, hb, hml, hown, hts, hX, hbl, hK, hG, hLX⟩ := K
  have hbA : ¬ lwA s b := Nat.not_le.mpr hbl
  have hS := h.2.2.2.2.1
  have j1 : vp_in (nI i + 1) L := by
    rw [nI_1 i]
    exact vp_in_nI (by omega) (by omega)
  obtain ⟨jo, sc, ic, sp, hS0, hR0, -, -, hV0, -, hI0⟩ := id hT
  refine lv_aload_n hx hb dL_law_1021 rfl (lv_at hl 2 rfl) ?_
  refine lv_aload_n hx hb dL_law_1022 rfl (lv_at hl 1 rfl) ?_
  refine lv_iload hx hb dL_law_1023 (lv_at hl 0 rfl) ?_
  refine lv_iconst (v := 1) hx hb dL_law_1025 rfl ?_
  refine lv_iadd hx hb dL_law_1026 ?_
  refine va_sld hx hb hX hbl hbA hS j1 dL_law_1027 ?_
  obtain ⟨r, C2, R2, e1, e2, hT2⟩ : FL C R (f_X11_odds C 1 (xs (nI i + 1).toNatClampNeg)) (f_X13_odds R 118 (xs (nI i + 1).toNatClampNeg)) := (q_odds hS0 hI0.ir (xs (nI i + 1).toNatClampNeg)).top hT
  refine lwC_l (Z := r) (C2 := C2) h (va_runV (As := [.int (xs (nI i + 1).toNatClampNeg)]) (rest := []) ⟨hx, hb, hml, hown, hts⟩ (c_X11_odds (l := l) C 1 (xs (nI i + 1).toNatClampNeg) h.2.2.2.2.2.2.2.1.1 e1) (cwV 1 hts gL_law_X11_odds rfl rfl rfl hdV_X11_odds ⟨Nat.le_of_ble_eq_true rfl, Nat.le_of_ble_eq_true rfl⟩) (pC h hK hG) rfl rfl hl.1 rfl (lv_room (Nat.le_of_ble_eq_true rfl)) dL_law_1028 ⟨by show cells + 0 ≤ 601024; omega, by show slots + 0 ≤ 7293034; omega⟩) (fun H locs h => ?_)
  have hS := h.2.2.2.2.1
  refine lv_aload_n hx hb dL_law_1031 rfl (lv_at hl 3 rfl) ?_
  refine lv_aload_n hx hb dL_law_1032 rfl (lv_at hl 1 rfl) ?_
  refine lv_iload hx hb dL_law_1033 (lv_at hl 0 rfl) ?_
  refine lv_iconst (v := 1) hx hb dL_law_1035 rfl ?_
  refine lv_iadd hx hb dL_law_1036 ?_
  refine va_sld hx hb hX hbl hbA hS j1 dL_law_1037 ?_
  refine lwR_l (Z := r) (R2 := R2) h (va_runV (As := [.int (xs (nI i + 1).toNatClampNeg)]) (rest := [.long r]) ⟨hx, hb, hml, hown, hts⟩ (c_X13_odds (l := l) R 118 (xs (nI i + 1).toNatClampNeg) h.2.2.2.2.2.2.2.2.1.1 e2) (cwV 1 hts gL_law_X13_odds rfl rfl rfl hdV_X13_odds ⟨Nat.le_of_ble_eq_true rfl, Nat.le_of_ble_eq_true rfl⟩) (pR0 h hK hG) rfl rfl hl.1 rfl (lv_room (Nat.le_of_ble_eq_true rfl)) dL_law_1038 ⟨by show cells + 0 ≤ 601024; omega, by show slots + 0 ≤ 7293034; omega⟩) (fun H locs h => ?_)
  have hS := h.2.2.2.2.1
  refine W.lcmp hx hb dL_law_1041 ?_
  refine lv_if_eq (tgt := 1824) hx hb dL_law_1042 rfl (fun _ => ?_) (fun c => absurd ((lg_cmp_eq _ _).mpr rfl) c)
  refine W.widen (k := cells + 33) (n := slots + 336) (by omega) (by omega) ?_
  exact kk adR gR0 top C2 R2 H locs ls h hT2 hl
set_option maxHeartbeats 4000000 in
set_option maxRecDepth 100000 in
theorem law_c21 {p : Program} {l : Launch} {e : Env} {s : State} {m : MethodId} {below : List Frame} {meth : Method} {c : Code} {cells slots b L : Nat} {xs : Nat → Int32} {D : va_G} {cy : Nat → ClassId} {q : SE} {adC adR : Nat → Nat} {gC gR0 : CG} {top : Nat} {C R : MM} {H : Heap} {locs : List Loc} {ls : Array Slot} {Q : State → Prop} {i : Nat} (hst : l.stackTraces = false) (K : LawC p s m c b L xs D cy q) (hcl : cells + 33 ≤ 601024) (hsl : slots + 336 ≤ 7293034) (hL : L ≤ 3072) (hi : i + 6 ≤ L) (h : LW D cy s (adC 1) (adR 118) (adC 118) adC gC adR gR0 top C R H locs) (hT : TOP C R) (hl : lv_has ls 7 [(4, .int (nI i)), (0, .ref b), (1, .ref (adC 1)), (2, .ref (adR 118)), (3, .ref (adC 118))])
    (kk : ∀ (adR2 : Nat → Nat) (gR2 : CG) (top2 : Nat) (C2 R2 : MM) (H2 : Heap) (locs2 : List Loc) (ls2 : Array Slot), LW D cy s (adC 1) (adR 118) (adC 118) adC gC adR2 gR2 top2 C2 R2 H2 locs2 → TOP C2 R2 → lv_has ls2 7 [(4, .int (nI i)), (0, .ref b), (1, .ref (adC 1)), (2, .ref (adR 118)), (3, .ref (adC 118))] → W p l e room_1 s m #[.ref b] below meth c H2 locs2 (cells + 33) (slots + 336) Q (F0 m 1824 ls2 [])) : W p l e room_1 s m #[.ref b] below meth c H locs cells slots Q (F0 m 1047 ls []) := by
  obtain ⟨hx, hb, hml, hown, hts, hX, hbl, hK, hG, hLX⟩ := K
  have hbA : ¬ lwA s b := Nat.not_le.mpr hbl
  have hS := h.2.2.2.2.1
  obtain ⟨jo, sc, ic, sp, hS0, hR0, -, -, hV0, -, hI0⟩ := id hT
  refine lv_aload_n hx hb dL_law_1047 rfl (lv_at hl 2 rfl) ?_
  obtain ⟨r, C2, R2, e1, e2, hT2⟩ : FT C R (f_X11_likeliest C 1 ) (f_X13_likeliest R 118 ) := (q_likeliest hS0 hI0.ir ).top hT
  refine lwC_i (Z := r) (C2 := C2) h (va_runV (As := []) (rest := []) ⟨hx, hb, hml, hown, hts⟩ (c_X11_likeliest (l := l) C 1 h.2.2.2.2.2.2.2.1.1 e1) (cwV 0 hts gL_law_X11_likeliest rfl rfl rfl hdV_X11_likeliest ⟨Nat.le_of_ble_eq_true rfl, Nat.le_of_ble_eq_true rfl⟩) (pC h hK hG) rfl rfl hl.1 rfl (lv_room (Nat.le_of_ble_eq_true rfl)) dL_law_1048 ⟨by show cells + 0 ≤ 601024; omega, by show slots + 0 ≤ 7293034; omega⟩) (fun H locs h => ?_)
  have hS := h.2.2.2.2.1
  refine lv_aload_n hx hb dL_law_1051 rfl (lv_at hl 3 rfl) ?_
  refine lwR_i (Z := r) (R2 := R2) h (va_runV (As := []) (rest := [.int r]) ⟨hx, hb, hml, hown, hts⟩ (c_X13_likeliest (l := l) R 118 h.2.2.2.2.2.2.2.2.1.1 e2) (cwV 0 hts gL_law_X13_likeliest rfl rfl rfl hdV_X13_likeliest ⟨Nat.le_of_ble_eq_true rfl, Nat.le_of_ble_eq_true rfl⟩) (pR0 h hK hG) rfl rfl hl.1 rfl (lv_room (Nat.le_of_ble_eq_true rfl)) dL_law_1052 ⟨by show cells + 0 ≤ 601024; omega, by show slots + 0 ≤ 7293034; omega⟩) (fun H locs h => ?_)
  have hS := h.2.2.2.2.1
  refine lv_icmp_eq (tgt := 1824) hx hb dL_law_1055 rfl (fun _ => ?_) (fun c => absurd rfl c)
  refine W.widen (k := cells + 33) (n := slots + 336) (by omega) (by omega) ?_
  exact kk adR gR0 top C2 R2 H locs ls h hT2 hl
set_option maxHeartbeats 4000000 in
set_option maxRecDepth 100000 in
theorem law_c22 {p : Program} {l : Launch} {e : Env} {s : State} {m : MethodId} {below : List Frame} {meth : Method} {c : Code} {cells slots b L : Nat} {xs : Nat → Int32} {D : va_G} {cy : Nat → ClassId} {q : SE} {adC adR : Nat → Nat} {gC gR0 : CG} {top : Nat} {C R : MM} {H : Heap} {locs : List Loc} {ls : Array Slot} {Q : State → Prop} {i : Nat} (hst : l.stackTraces = false) (K : LawC p s m c b L xs D cy q) (hcl : cells + 33 ≤ 601024) (hsl : slots + 336 ≤ 7293034) (hL : L ≤ 3072) (hi : i + 6 ≤ L) (h : LW D cy s (adC 1) (adR 118) (adC 118) adC gC adR gR0 top C R H locs) (hT : TOP C R) (hl : lv_has ls 7 [(4, .int (nI i)), (0, .ref b), (1, .ref (adC 1)), (2, .ref (adR 118)), (3, .ref (adC 118))])
    (kk : ∀ (adR2 : Nat → Nat) (gR2 : CG) (top2 : Nat) (C2 R2 : MM) (H2 : Heap) (locs2 : List Loc) (ls2 : Array Slot), LW D cy s (adC 1) (adR 118) (adC 118) adC gC adR2 gR2 top2 C2 R2 H2 locs2 → TOP C2 R2 → lv_has ls2 7 [(4, .int (nI i)), (0, .ref b), (1, .ref (adC 1)), (2, .ref (adR 118)), (3, .ref (adC 118))] → W p l e room_1 s m #[.ref b] below meth c H2 locs2 (cells + 33) (slots + 336) Q (F0 m 1824 ls2 [])) : W p l e room_1 s m #[.ref b] below meth c H locs cells slots Q (F0 m 1060 ls []) := by
  obtain ⟨hx, hb, hml, hown, hts, hX, hbl, hK, hG, hLX⟩ := K
  have hbA : ¬ lwA s b := Nat.not_le.mpr hbl
  have hS := h.2.2.2.2.1
  have j1 : vp_in (nI i + 1) L := by
    rw [nI_1 i]
    exact vp_in_nI (by omega) (by omega)
  have j2 : vp_in (nI i + 2) L := by
    rw [show (2 : Int32) = nI 2 from rfl, nI_add]
    exact vp_in_nI (by omega) (by omega)
  obtain ⟨jo, sc, ic, sp, hS0, hR0, -, -, hV0, -, hI0⟩ := id hT
  refine lv_aload_n hx hb dL_law_1060 rfl (lv_at hl 2 rfl) ?_
  refine lv_aload_n hx hb dL_law_1061 rfl (lv_at hl 1 rfl) ?_
  refine lv_iload hx hb dL_law_1062 (lv_at hl 0 rfl) ?_
  refine lv_iconst (v := 1) hx hb dL_law_1064 rfl ?_
  refine lv_iadd hx hb dL_law_1065 ?_
  refine va_sld hx hb hX hbl hbA hS j1 dL_law_1066 ?_
  refine lv_aload_n hx hb dL_law_1067 rfl (lv_at hl 1 rfl) ?_
  refine lv_iload hx hb dL_law_1068 (lv_at hl 0 rfl) ?_
  refine lv_iconst (v := 2) hx hb dL_law_1070 rfl ?_
  refine lv_iadd hx hb dL_law_1071 ?_
  refine va_sld hx hb hX hbl hbA hS j2 dL_law_1072 ?_
  obtain ⟨r, C2, R2, e1, e2, hT2⟩ : FT C R (f_X11_lies C 1 (xs (nI i + 1).toNatClampNeg) (xs (nI i + 2).toNatClampNeg)) (f_X13_lies R 118 (xs (nI i + 1).toNatClampNeg) (xs (nI i + 2).toNatClampNeg)) := (q_lies hS0 hI0.ir (xs (nI i + 1).toNatClampNeg) (xs (nI i + 2).toNatClampNeg)).top hT
  refine lwC_i (Z := r) (C2 := C2) h (va_runV (As := [.int (xs (nI i + 1).toNatClampNeg), .int (xs (nI i + 2).toNatClampNeg)]) (rest := []) ⟨hx, hb, hml, hown, hts⟩ (c_X11_lies (l := l) C 1 (xs (nI i + 1).toNatClampNeg) (xs (nI i + 2).toNatClampNeg) h.2.2.2.2.2.2.2.1.1 e1) (cwV 2 hts gL_law_X11_lies rfl rfl rfl hdV_X11_lies ⟨Nat.le_of_ble_eq_true rfl, Nat.le_of_ble_eq_true rfl⟩) (pC h hK hG) rfl rfl hl.1 rfl (lv_room (Nat.le_of_ble_eq_true rfl)) dL_law_1073 ⟨by show cells + 0 ≤ 601024; omega, by show slots + 0 ≤ 7293034; omega⟩) (fun H locs h => ?_)
  have hS := h.2.2.2.2.1
  refine lv_aload_n hx hb dL_law_1076 rfl (lv_at hl 3 rfl) ?_
  refine lv_aload_n hx hb dL_law_1077 rfl (lv_at hl 1 rfl) ?_
  refine lv_iload hx hb dL_law_1078 (lv_at hl 0 rfl) ?_
  refine lv_iconst (v := 1) hx hb dL_law_1080 rfl ?_
  refine lv_iadd hx hb dL_law_1081 ?_
  refine va_sld hx hb hX hbl hbA hS j1 dL_law_1082 ?_
  refine lv_aload_n hx hb dL_law_1083 rfl (lv_at hl 1 rfl) ?_
  refine lv_iload hx hb dL_law_1084 (lv_at hl 0 rfl) ?_
  refine lv_iconst (v := 2) hx hb dL_law_1086 rfl ?_
  refine lv_iadd hx hb dL_law_1087 ?_
  refine va_sld hx hb hX hbl hbA hS j2 dL_law_1088 ?_
  refine lwR_i (Z := r) (R2 := R2) h (va_runV (As := [.int (xs (nI i + 1).toNatClampNeg), .int (xs (nI i + 2).toNatClampNeg)]) (rest := [.int r]) ⟨hx, hb, hml, hown, hts⟩ (c_X13_lies (l := l) R 118 (xs (nI i + 1).toNatClampNeg) (xs (nI i + 2).toNatClampNeg) h.2.2.2.2.2.2.2.2.1.1 e2) (cwV 2 hts gL_law_X13_lies rfl rfl rfl hdV_X13_lies ⟨Nat.le_of_ble_eq_true rfl, Nat.le_of_ble_eq_true rfl⟩) (pR0 h hK hG) rfl rfl hl.1 rfl (lv_room (Nat.le_of_ble_eq_true rfl)) dL_law_1089 ⟨by show cells + 0 ≤ 601024; omega, by show slots + 0 ≤ 7293034; omega⟩) (fun H locs h => ?_)
  have hS := h.2.2.2.2.1
  refine lv_icmp_eq (tgt := 1824) hx hb dL_law_1092 rfl (fun _ => ?_) (fun c => absurd rfl c)
  refine W.widen (k := cells + 33) (n := slots + 336) (by omega) (by omega) ?_
  exact kk adR gR0 top C2 R2 H locs ls h hT2 hl
set_option maxHeartbeats 4000000 in
set_option maxRecDepth 100000 in
theorem law_c23 {p : Program} {l : Launch} {e : Env} {s : State} {m : MethodId} {below : List Frame} {meth : Method} {c : Code} {cells slots b L : Nat} {xs : Nat → Int32} {D : va_G} {cy : Nat → ClassId} {q : SE} {adC adR : Nat → Nat} {gC gR0 : CG} {top : Nat} {C R : MM} {H : Heap} {locs : List Loc} {ls : Array Slot} {Q : State → Prop} {i : Nat} (hst : l.stackTraces = false) (K : LawC p s m c b L xs D cy q) (hcl : cells + 33 ≤ 601024) (hsl : slots + 336 ≤ 7293034) (hL : L ≤ 3072) (hi : i + 6 ≤ L) (h : LW D cy s (adC 1) (adR 118) (adC 118) adC gC adR gR0 top C R H locs) (hT : TOP C R) (hl : lv_has ls 7 [(4, .int (nI i)), (0, .ref b), (1, .ref (adC 1)), (2, .ref (adR 118)), (3, .ref (adC 118))])
    (kk : ∀ (adR2 : Nat → Nat) (gR2 : CG) (top2 : Nat) (C2 R2 : MM) (H2 : Heap) (locs2 : List Loc) (ls2 : Array Slot), LW D cy s (adC 1) (adR 118) (adC 118) adC gC adR2 gR2 top2 C2 R2 H2 locs2 → TOP C2 R2 → lv_has ls2 7 [(4, .int (nI i)), (0, .ref b), (1, .ref (adC 1)), (2, .ref (adR 118)), (3, .ref (adC 118))] → W p l e room_1 s m #[.ref b] below meth c H2 locs2 (cells + 33) (slots + 336) Q (F0 m 1824 ls2 [])) : W p l e room_1 s m #[.ref b] below meth c H locs cells slots Q (F0 m 1097 ls []) := by
  obtain ⟨hx, hb, hml, hown, hts, hX, hbl, hK, hG, hLX⟩ := K
  have hbA : ¬ lwA s b := Nat.not_le.mpr hbl
  have hS := h.2.2.2.2.1
  have j1 : vp_in (nI i + 1) L := by
    rw [nI_1 i]
    exact vp_in_nI (by omega) (by omega)
  have j2 : vp_in (nI i + 2) L := by
    rw [show (2 : Int32) = nI 2 from rfl, nI_add]
    exact vp_in_nI (by omega) (by omega)
  obtain ⟨jo, sc, ic, sp, hS0, hR0, -, -, hV0, -, hI0⟩ := id hT
  refine lv_aload_n hx hb dL_law_1097 rfl (lv_at hl 2 rfl) ?_
  refine lv_aload_n hx hb dL_law_1098 rfl (lv_at hl 1 rfl) ?_
  refine lv_iload hx hb dL_law_1099 (lv_at hl 0 rfl) ?_
  refine lv_iconst (v := 1) hx hb dL_law_1101 rfl ?_
  refine lv_iadd hx hb dL_law_1102 ?_
  refine va_sld hx hb hX hbl hbA hS j1 dL_law_1103 ?_
  refine lv_aload_n hx hb dL_law_1104 rfl (lv_at hl 1 rfl) ?_
  refine lv_iload hx hb dL_law_1105 (lv_at hl 0 rfl) ?_
  refine lv_iconst (v := 2) hx hb dL_law_1107 rfl ?_
  refine lv_iadd hx hb dL_law_1108 ?_
  refine va_sld hx hb hX hbl hbA hS j2 dL_law_1109 ?_
  obtain ⟨r, C2, R2, e1, e2, hT2⟩ : FT C R (f_X11_hollow C 1 (xs (nI i + 1).toNatClampNeg) (xs (nI i + 2).toNatClampNeg)) (f_X13_hollow R 118 (xs (nI i + 1).toNatClampNeg) (xs (nI i + 2).toNatClampNeg)) := (q_hollow hS0 hI0.ir (xs (nI i + 1).toNatClampNeg) (xs (nI i + 2).toNatClampNeg)).top hT
  refine lwC_i (Z := r) (C2 := C2) h (va_runV (As := [.int (xs (nI i + 1).toNatClampNeg), .int (xs (nI i + 2).toNatClampNeg)]) (rest := []) ⟨hx, hb, hml, hown, hts⟩ (c_X11_hollow (l := l) C 1 (xs (nI i + 1).toNatClampNeg) (xs (nI i + 2).toNatClampNeg) h.2.2.2.2.2.2.2.1.1 e1) (cwV 2 hts gL_law_X11_hollow rfl rfl rfl hdV_X11_hollow ⟨Nat.le_of_ble_eq_true rfl, Nat.le_of_ble_eq_true rfl⟩) (pC h hK hG) rfl rfl hl.1 rfl (lv_room (Nat.le_of_ble_eq_true rfl)) dL_law_1110 ⟨by show cells + 0 ≤ 601024; omega, by show slots + 0 ≤ 7293034; omega⟩) (fun H locs h => ?_)
  have hS := h.2.2.2.2.1
  refine lv_aload_n hx hb dL_law_1113 rfl (lv_at hl 3 rfl) ?_
  refine lv_aload_n hx hb dL_law_1114 rfl (lv_at hl 1 rfl) ?_
  refine lv_iload hx hb dL_law_1115 (lv_at hl 0 rfl) ?_
  refine lv_iconst (v := 1) hx hb dL_law_1117 rfl ?_
  refine lv_iadd hx hb dL_law_1118 ?_
  refine va_sld hx hb hX hbl hbA hS j1 dL_law_1119 ?_
  refine lv_aload_n hx hb dL_law_1120 rfl (lv_at hl 1 rfl) ?_
  refine lv_iload hx hb dL_law_1121 (lv_at hl 0 rfl) ?_
  refine lv_iconst (v := 2) hx hb dL_law_1123 rfl ?_
  refine lv_iadd hx hb dL_law_1124 ?_
  refine va_sld hx hb hX hbl hbA hS j2 dL_law_1125 ?_
  refine lwR_i (Z := r) (R2 := R2) h (va_runV (As := [.int (xs (nI i + 1).toNatClampNeg), .int (xs (nI i + 2).toNatClampNeg)]) (rest := [.int r]) ⟨hx, hb, hml, hown, hts⟩ (c_X13_hollow (l := l) R 118 (xs (nI i + 1).toNatClampNeg) (xs (nI i + 2).toNatClampNeg) h.2.2.2.2.2.2.2.2.1.1 e2) (cwV 2 hts gL_law_X13_hollow rfl rfl rfl hdV_X13_hollow ⟨Nat.le_of_ble_eq_true rfl, Nat.le_of_ble_eq_true rfl⟩) (pR0 h hK hG) rfl rfl hl.1 rfl (lv_room (Nat.le_of_ble_eq_true rfl)) dL_law_1126 ⟨by show cells + 0 ≤ 601024; omega, by show slots + 0 ≤ 7293034; omega⟩) (fun H locs h => ?_)
  have hS := h.2.2.2.2.1
  refine lv_icmp_eq (tgt := 1824) hx hb dL_law_1129 rfl (fun _ => ?_) (fun c => absurd rfl c)
  refine W.widen (k := cells + 33) (n := slots + 336) (by omega) (by omega) ?_
  exact kk adR gR0 top C2 R2 H locs ls h hT2 hl
