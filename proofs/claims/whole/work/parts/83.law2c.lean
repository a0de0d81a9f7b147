set_option maxHeartbeats 4000000 in
set_option maxRecDepth 100000 in
theorem law_c24 {p : Program} {l : Launch} {e : Env} {s : State} {m : MethodId} {below : List Frame} {meth : Method} {c : Code} {cells slots b L : Nat} {xs : Nat → Int32} {D : va_G} {cy : Nat → ClassId} {q : SE} {adC adR : Nat → Nat} {gC gR0 : CG} {top : Nat} {C R : MM} {H : Heap} {locs : List Loc} {ls : Array Slot} {Q : State → Prop} {i : Nat} (hst : l.stackTraces = false) (K : LawC p s m c b L xs D cy q) (hcl : cells + 33 ≤ 601024) (hsl : slots + 336 ≤ 7293034) (hL : L ≤ 3072) (hi : i + 6 ≤ L) (h : LW D cy s (adC 1) (adR 118) (adC 118) adC gC adR gR0 top C R H locs) (hT : TOP C R) (hl : lv_has ls 7 [(4, .int (nI i)), (0, .ref b), (1, .ref (adC 1)), (2, .ref (adR 118)), (3, .ref (adC 118))])
    (kk : ∀ (adR2 : Nat → Nat) (gR2 : CG) (top2 : Nat) (C2 R2 : MM) (H2 : Heap) (locs2 : List Loc) (ls2 : Array Slot), LW D cy s (adC 1) (adR 118) (adC 118) adC gC adR2 gR2 top2 C2 R2 H2 locs2 → TOP C2 R2 → lv_has ls2 7 [(4, .int (nI i)), (0, .ref b), (1, .ref (adC 1)), (2, .ref (adR 118)), (3, .ref (adC 118))] → W p l e room_1 s m #[.ref b] below meth c H2 locs2 (cells + 33) (slots + 336) Q (F0 m 1824 ls2 [])) : W p l e room_1 s m #[.ref b] below meth c H locs cells slots Q (F0 m 1134 ls []) := by
  obtain ⟨hx, hb, hml, hown, hts, hX, hbl, hK, hG, hLX⟩ := K
  have hbA : ¬ lwA s b := Nat.not_le.mpr hbl
  have hS := h.2.2.2.2.1
  have j1 : vp_in (nI i + 1) L := by
    rw [nI_1 i]
    exact vp_in_nI (by omega) (by omega)
  obtain ⟨jo, sc, ic, sp, hS0, hR0, -, -, hV0, -, hI0⟩ := id hT
  refine lv_aload_n hx hb dL_law_1134 rfl (lv_at hl 2 rfl) ?_
  refine lv_aload_n hx hb dL_law_1135 rfl (lv_at hl 1 rfl) ?_
  refine lv_iload hx hb dL_law_1136 (lv_at hl 0 rfl) ?_
  refine lv_iconst (v := 1) hx hb dL_law_1138 rfl ?_
  refine lv_iadd hx hb dL_law_1139 ?_
  refine va_sld hx hb hX hbl hbA hS j1 dL_law_1140 ?_
  obtain ⟨r, C2, R2, e1, e2, hT2⟩ : FT C R (f_X11_shape C 1 (xs (nI i + 1).toNatClampNeg)) (f_X13_shape R 118 (xs (nI i + 1).toNatClampNeg)) := (q_shape hS0 hI0.ir (xs (nI i + 1).toNatClampNeg)).top hT
  refine lwC_i (Z := r) (C2 := C2) h (va_runV (As := [.int (xs (nI i + 1).toNatClampNeg)]) (rest := []) ⟨hx, hb, hml, hown, hts⟩ (c_X11_shape (l := l) C 1 (xs (nI i + 1).toNatClampNeg) h.2.2.2.2.2.2.2.1.1 e1) (cwV 1 hts gL_law_X11_shape rfl rfl rfl hdV_X11_shape ⟨Nat.le_of_ble_eq_true rfl, Nat.le_of_ble_eq_true rfl⟩) (pC h hK hG) rfl rfl hl.1 rfl (lv_room (Nat.le_of_ble_eq_true rfl)) dL_law_1141 ⟨by show cells + 0 ≤ 601024; omega, by show slots + 0 ≤ 7293034; omega⟩) (fun H locs h => ?_)
  have hS := h.2.2.2.2.1
  refine lv_aload_n hx hb dL_law_1144 rfl (lv_at hl 3 rfl) ?_
  refine lv_aload_n hx hb dL_law_1145 rfl (lv_at hl 1 rfl) ?_
  refine lv_iload hx hb dL_law_1146 (lv_at hl 0 rfl) ?_
  refine lv_iconst (v := 1) hx hb dL_law_1148 rfl ?_
  refine lv_iadd hx hb dL_law_1149 ?_
  refine va_sld hx hb hX hbl hbA hS j1 dL_law_1150 ?_
  refine lwR_i (Z := r) (R2 := R2) h (va_runV (As := [.int (xs (nI i + 1).toNatClampNeg)]) (rest := [.int r]) ⟨hx, hb, hml, hown, hts⟩ (c_X13_shape (l := l) R 118 (xs (nI i + 1).toNatClampNeg) h.2.2.2.2.2.2.2.2.1.1 e2) (cwV 1 hts gL_law_X13_shape rfl rfl rfl hdV_X13_shape ⟨Nat.le_of_ble_eq_true rfl, Nat.le_of_ble_eq_true rfl⟩) (pR0 h hK hG) rfl rfl hl.1 rfl (lv_room (Nat.le_of_ble_eq_true rfl)) dL_law_1151 ⟨by show cells + 0 ≤ 601024; omega, by show slots + 0 ≤ 7293034; omega⟩) (fun H locs h => ?_)
  have hS := h.2.2.2.2.1
  refine lv_icmp_eq (tgt := 1824) hx hb dL_law_1154 rfl (fun _ => ?_) (fun c => absurd rfl c)
  refine W.widen (k := cells + 33) (n := slots + 336) (by omega) (by omega) ?_
  exact kk adR gR0 top C2 R2 H locs ls h hT2 hl
set_option maxHeartbeats 4000000 in
set_option maxRecDepth 100000 in
theorem law_c25 {p : Program} {l : Launch} {e : Env} {s : State} {m : MethodId} {below : List Frame} {meth : Method} {c : Code} {cells slots b L : Nat} {xs : Nat → Int32} {D : va_G} {cy : Nat → ClassId} {q : SE} {adC adR : Nat → Nat} {gC gR0 : CG} {top : Nat} {C R : MM} {H : Heap} {locs : List Loc} {ls : Array Slot} {Q : State → Prop} {i : Nat} (hst : l.stackTraces = false) (K : LawC p s m c b L xs D cy q) (hcl : cells + 33 ≤ 601024) (hsl : slots + 336 ≤ 7293034) (hL : L ≤ 3072) (hi : i + 6 ≤ L) (h : LW D cy s (adC 1) (adR 118) (adC 118) adC gC adR gR0 top C R H locs) (hT : TOP C R) (hl : lv_has ls 7 [(4, .int (nI i)), (0, .ref b), (1, .ref (adC 1)), (2, .ref (adR 118)), (3, .ref (adC 118))])
    (kk : ∀ (adR2 : Nat → Nat) (gR2 : CG) (top2 : Nat) (C2 R2 : MM) (H2 : Heap) (locs2 : List Loc) (ls2 : Array Slot), LW D cy s (adC 1) (adR 118) (adC 118) adC gC adR2 gR2 top2 C2 R2 H2 locs2 → TOP C2 R2 → lv_has ls2 7 [(4, .int (nI i)), (0, .ref b), (1, .ref (adC 1)), (2, .ref (adR 118)), (3, .ref (adC 118))] → W p l e room_1 s m #[.ref b] below meth c H2 locs2 (cells + 33) (slots + 336) Q (F0 m 1824 ls2 [])) : W p l e room_1 s m #[.ref b] below meth c H locs cells slots Q (F0 m 1159 ls []) := by
  obtain ⟨hx, hb, hml, hown, hts, hX, hbl, hK, hG, hLX⟩ := K
  have hbA : ¬ lwA s b := Nat.not_le.mpr hbl
  have hS := h.2.2.2.2.1
  obtain ⟨jo, sc, ic, sp, hS0, hR0, -, -, hV0, -, hI0⟩ := id hT
  refine lv_aload_n hx hb dL_law_1159 rfl (lv_at hl 2 rfl) ?_
  obtain ⟨r, C2, R2, e1, e2, hT2⟩ : FT C R (f_X11_changed C 1 ) (f_X13_changed R 118 ) := (q_changed hS0 hI0.ir ).top hT
  refine lwC_i (Z := r) (C2 := C2) h (va_runV (As := []) (rest := []) ⟨hx, hb, hml, hown, hts⟩ (c_X11_changed (l := l) C 1 h.2.2.2.2.2.2.2.1.1 e1) (cwV 0 hts gL_law_X11_changed rfl rfl rfl hdV_X11_changed ⟨Nat.le_of_ble_eq_true rfl, Nat.le_of_ble_eq_true rfl⟩) (pC h hK hG) rfl rfl hl.1 rfl (lv_room (Nat.le_of_ble_eq_true rfl)) dL_law_1160 ⟨by show cells + 0 ≤ 601024; omega, by show slots + 0 ≤ 7293034; omega⟩) (fun H locs h => ?_)
  have hS := h.2.2.2.2.1
  refine lv_aload_n hx hb dL_law_1163 rfl (lv_at hl 3 rfl) ?_
  refine lwR_i (Z := r) (R2 := R2) h (va_runV (As := []) (rest := [.int r]) ⟨hx, hb, hml, hown, hts⟩ (c_X13_changed (l := l) R 118 h.2.2.2.2.2.2.2.2.1.1 e2) (cwV 0 hts gL_law_X13_changed rfl rfl rfl hdV_X13_changed ⟨Nat.le_of_ble_eq_true rfl, Nat.le_of_ble_eq_true rfl⟩) (pR0 h hK hG) rfl rfl hl.1 rfl (lv_room (Nat.le_of_ble_eq_true rfl)) dL_law_1164 ⟨by show cells + 0 ≤ 601024; omega, by show slots + 0 ≤ 7293034; omega⟩) (fun H locs h => ?_)
  have hS := h.2.2.2.2.1
  refine lv_icmp_eq (tgt := 1824) hx hb dL_law_1167 rfl (fun _ => ?_) (fun c => absurd rfl c)
  refine W.widen (k := cells + 33) (n := slots + 336) (by omega) (by omega) ?_
  exact kk adR gR0 top C2 R2 H locs ls h hT2 hl
set_option maxHeartbeats 4000000 in
set_option maxRecDepth 100000 in
theorem law_c26 {p : Program} {l : Launch} {e : Env} {s : State} {m : MethodId} {below : List Frame} {meth : Method} {c : Code} {cells slots b L : Nat} {xs : Nat → Int32} {D : va_G} {cy : Nat → ClassId} {q : SE} {adC adR : Nat → Nat} {gC gR0 : CG} {top : Nat} {C R : MM} {H : Heap} {locs : List Loc} {ls : Array Slot} {Q : State → Prop} {i : Nat} (hst : l.stackTraces = false) (K : LawC p s m c b L xs D cy q) (hcl : cells + 33 ≤ 601024) (hsl : slots + 336 ≤ 7293034) (hL : L ≤ 3072) (hi : i + 6 ≤ L) (h : LW D cy s (adC 1) (adR 118) (adC 118) adC gC adR gR0 top C R H locs) (hT : TOP C R) (hl : lv_has ls 7 [(4, .int (nI i)), (0, .ref b), (1, .ref (adC 1)), (2, .ref (adR 118)), (3, .ref (adC 118))])
    (kk : ∀ (adR2 : Nat → Nat) (gR2 : CG) (top2 : Nat) (C2 R2 : MM) (H2 : Heap) (locs2 : List Loc) (ls2 : Array Slot), LW D cy s (adC 1) (adR 118) (adC 118) adC gC adR2 gR2 top2 C2 R2 H2 locs2 → TOP C2 R2 → lv_has ls2 7 [(4, .int (nI i)), (0, .ref b), (1, .ref (adC 1)), (2, .ref (adR 118)), (3, .ref (adC 118))] → W p l e room_1 s m #[.ref b] below meth c H2 locs2 (cells + 33) (slots + 336) Q (F0 m 1824 ls2 [])) : W p l e room_1 s m #[.ref b] below meth c H locs cells slots Q (F0 m 1172 ls []) := by
  obtain ⟨hx, hb, hml, hown, hts, hX, hbl, hK, hG, hLX⟩ := K
  have hbA : ¬ lwA s b := Nat.not_le.mpr hbl
  have hS := h.2.2.2.2.1
  have j1 : vp_in (nI i + 1) L := by
    rw [nI_1 i]
    exact vp_in_nI (by omega) (by omega)
  have j2 : vp_in (nI i + 2) L := by
    rw [show (2 : Int32) = nI 2 from rfl, nI_add]
    exact vp_in_nI (by omega) (by omega)
  obtain ⟨jo, sc, ic, sp, hS0, hR0, -, -, hV0, -, hI0⟩ := id hT
  refine lv_aload_n hx hb dL_law_1172 rfl (lv_at hl 2 rfl) ?_
  refine lv_aload_n hx hb dL_law_1173 rfl (lv_at hl 1 rfl) ?_
  refine lv_iload hx hb dL_law_1174 (lv_at hl 0 rfl) ?_
  refine lv_iconst (v := 1) hx hb dL_law_1176 rfl ?_
  refine lv_iadd hx hb dL_law_1177 ?_
  refine va_sld hx hb hX hbl hbA hS j1 dL_law_1178 ?_
  refine lv_aload_n hx hb dL_law_1179 rfl (lv_at hl 1 rfl) ?_
  refine lv_iload hx hb dL_law_1180 (lv_at hl 0 rfl) ?_
  refine lv_iconst (v := 2) hx hb dL_law_1182 rfl ?_
  refine lv_iadd hx hb dL_law_1183 ?_
  refine va_sld hx hb hX hbl hbA hS j2 dL_law_1184 ?_
  obtain ⟨r, C2, R2, e1, e2, hT2⟩ : FT C R (f_X11_told C 1 (xs (nI i + 1).toNatClampNeg) (xs (nI i + 2).toNatClampNeg)) (f_X13_told R 118 (xs (nI i + 1).toNatClampNeg) (xs (nI i + 2).toNatClampNeg)) := (q_told hS0 hI0.ir (xs (nI i + 1).toNatClampNeg) (xs (nI i + 2).toNatClampNeg)).top hT
  refine lwC_i (Z := r) (C2 := C2) h (va_runV (As := [.int (xs (nI i + 1).toNatClampNeg), .int (xs (nI i + 2).toNatClampNeg)]) (rest := []) ⟨hx, hb, hml, hown, hts⟩ (c_X11_told (l := l) C 1 (xs (nI i + 1).toNatClampNeg) (xs (nI i + 2).toNatClampNeg) h.2.2.2.2.2.2.2.1.1 e1) (cwV 2 hts gL_law_X11_told rfl rfl rfl hdV_X11_told ⟨Nat.le_of_ble_eq_true rfl, Nat.le_of_ble_eq_true rfl⟩) (pC h hK hG) rfl rfl hl.1 rfl (lv_room (Nat.le_of_ble_eq_true rfl)) dL_law_1185 ⟨by show cells + 0 ≤ 601024; omega, by show slots + 0 ≤ 7293034; omega⟩) (fun H locs h => ?_)
  have hS := h.2.2.2.2.1
  refine lv_aload_n hx hb dL_law_1188 rfl (lv_at hl 3 rfl) ?_
  refine lv_aload_n hx hb dL_law_1189 rfl (lv_at hl 1 rfl) ?_
  refine lv_iload hx hb dL_law_1190 (lv_at hl 0 rfl) ?_
  refine lv_iconst (v := 1) hx hb dL_law_1192 rfl ?_
  refine lv_iadd hx hb dL_law_1193 ?_
  refine va_sld hx hb hX hbl hbA hS j1 dL_law_1194 ?_
  refine lv_aload_n hx hb dL_law_1195 rfl (lv_at hl 1 rfl) ?_
  refine lv_iload hx hb dL_law_1196 (lv_at hl 0 rfl) ?_
  refine lv_iconst (v := 2) hx hb dL_law_1198 rfl ?_
  refine lv_iadd hx hb dL_law_1199 ?_
  refine va_sld hx hb hX hbl hbA hS j2 dL_law_1200 ?_
  refine lwR_i (Z := r) (R2 := R2) h (va_runV (As := [.int (xs (nI i + 1).toNatClampNeg), .int (xs (nI i + 2).toNatClampNeg)]) (rest := [.int r]) ⟨hx, hb, hml, hown, hts⟩ (c_X13_told (l := l) R 118 (xs (nI i + 1).toNatClampNeg) (xs (nI i + 2).toNatClampNeg) h.2.2.2.2.2.2.2.2.1.1 e2) (cwV 2 hts gL_law_X13_told rfl rfl rfl hdV_X13_told ⟨Nat.le_of_ble_eq_true rfl, Nat.le_of_ble_eq_true rfl⟩) (pR0 h hK hG) rfl rfl hl.1 rfl (lv_room (Nat.le_of_ble_eq_true rfl)) dL_law_1201 ⟨by show cells + 0 ≤ 601024; omega, by show slots + 0 ≤ 7293034; omega⟩) (fun H locs h => ?_)
  have hS := h.2.2.2.2.1
  refine lv_icmp_eq (tgt := 1824) hx hb dL_law_1204 rfl (fun _ => ?_) (fun c => absurd rfl c)
  refine W.widen (k := cells + 33) (n := slots + 336) (by omega) (by omega) ?_
  exact kk adR gR0 top C2 R2 H locs ls h hT2 hl
set_option maxHeartbeats 4000000 in
set_option maxRecDepth 100000 in
theorem law_c27 {p : Program} {l : Launch} {e : Env} {s : State} {m : MethodId} {below : List Frame} {meth : Method} {c : Code} {cells slots b L : Nat} {xs : Nat → Int32} {D : va_G} {cy : Nat → ClassId} {q : SE} {adC adR : Nat → Nat} {gC gR0 : CG} {top : Nat} {C R : MM} {H : Heap} {locs : List Loc} {ls : Array Slot} {Q : State → Prop} {i : Nat} (hst : l.stackTraces = false) (K : LawC p s m c b L xs D cy q) (hcl : cells + 33 ≤ 601024) (hsl : slots + 336 ≤ 7293034) (hL : L ≤ 3072) (hi : i + 6 ≤ L) (h : LW D cy s (adC 1) (adR 118) (adC 118) adC gC adR gR0 top C R H locs) (hT : TOP C R) (hl : lv_has ls 7 [(4, .int (nI i)), (0, .ref b), (1, .ref (adC 1)), (2, .ref (adR 118)), (3, .ref (adC 118))])
    (kk : ∀ (adR2 : Nat → Nat) (gR2 : CG) (top2 : Nat) (C2 R2 : MM) (H2 : Heap) (locs2 : List Loc) (ls2 : Array Slot), LW D cy s (adC 1) (adR 118) (adC 118) adC gC adR2 gR2 top2 C2 R2 H2 locs2 → TOP C2 R2 → lv_has ls2 7 [(4, .int (nI i)), (0, .ref b), (1, .ref (adC 1)), (2, .ref (adR 118)), (3, .ref (adC 118))] → W p l e room_1 s m #[.ref b] below meth c H2 locs2 (cells + 33) (slots + 336) Q (F0 m 1824 ls2 [])) : W p l e room_1 s m #[.ref b] below meth c H locs cells slots Q (F0 m 1209 ls []) := by
  obtain ⟨hx, hb, hml, hown, hts, hX, hbl, hK, hG, hLX⟩ := K
  have hbA : ¬ lwA s b := Nat.not_le.mpr hbl
  have hS := h.2.2.2.2.1
  have j1 : vp_in (nI i + 1) L := by
    rw [nI_1 i]
    exact vp_in_nI (by omega) (by omega)
  have j2 : vp_in (nI i + 2) L := by
    rw [show (2 : Int32) = nI 2 from rfl, nI_add]
    exact vp_in_nI (by omega) (by omega)
  obtain ⟨jo, sc, ic, sp, hS0, hR0, -, -, hV0, -, hI0⟩ := id hT
  refine lv_aload_n hx hb dL_law_1209 rfl (lv_at hl 2 rfl) ?_
  refine lv_aload_n hx hb dL_law_1210 rfl (lv_at hl 1 rfl) ?_
  refine lv_iload hx hb dL_law_1211 (lv_at hl 0 rfl) ?_
  refine lv_iconst (v := 1) hx hb dL_law_1213 rfl ?_
  refine lv_iadd hx hb dL_law_1214 ?_
  refine va_sld hx hb hX hbl hbA hS j1 dL_law_1215 ?_
  refine lv_aload_n hx hb dL_law_1216 rfl (lv_at hl 1 rfl) ?_
  refine lv_iload hx hb dL_law_1217 (lv_at hl 0 rfl) ?_
  refine lv_iconst (v := 2) hx hb dL_law_1219 rfl ?_
  refine lv_iadd hx hb dL_law_1220 ?_
  refine va_sld hx hb hX hbl hbA hS j2 dL_law_1221 ?_
  obtain ⟨r, C2, R2, e1, e2, hT2⟩ : FT C R (f_X11_turn C 1 (xs (nI i + 1).toNatClampNeg) (xs (nI i + 2).toNatClampNeg)) (f_X13_turn R 118 (xs (nI i + 1).toNatClampNeg) (xs (nI i + 2).toNatClampNeg)) := t_turn hT (xs (nI i + 1).toNatClampNeg) (xs (nI i + 2).toNatClampNeg)
  refine lwC_z (Z := r) (C2 := C2) h (va_runV (As := [.int (xs (nI i + 1).toNatClampNeg), .int (xs (nI i + 2).toNatClampNeg)]) (rest := []) ⟨hx, hb, hml, hown, hts⟩ (c_X11_turn (l := l) C 1 (xs (nI i + 1).toNatClampNeg) (xs (nI i + 2).toNatClampNeg) h.2.2.2.2.2.2.2.1.1 e1) (cwV 2 hts gL_law_X11_turn rfl rfl rfl hdV_X11_turn ⟨Nat.le_of_ble_eq_true rfl, Nat.le_of_ble_eq_true rfl⟩) (pC h hK hG) rfl rfl hl.1 rfl (lv_room (Nat.le_of_ble_eq_true rfl)) dL_law_1222 ⟨by show cells + 0 ≤ 601024; omega, by show slots + 0 ≤ 7293034; omega⟩) (fun H locs h => ?_)
  have hS := h.2.2.2.2.1
  refine lv_aload_n hx hb dL_law_1225 rfl (lv_at hl 3 rfl) ?_
  refine lv_aload_n hx hb dL_law_1226 rfl (lv_at hl 1 rfl) ?_
  refine lv_iload hx hb dL_law_1227 (lv_at hl 0 rfl) ?_
  refine lv_iconst (v := 1) hx hb dL_law_1229 rfl ?_
  refine lv_iadd hx hb dL_law_1230 ?_
  refine va_sld hx hb hX hbl hbA hS j1 dL_law_1231 ?_
  refine lv_aload_n hx hb dL_law_1232 rfl (lv_at hl 1 rfl) ?_
  refine lv_iload hx hb dL_law_1233 (lv_at hl 0 rfl) ?_
  refine lv_iconst (v := 2) hx hb dL_law_1235 rfl ?_
  refine lv_iadd hx hb dL_law_1236 ?_
  refine va_sld hx hb hX hbl hbA hS j2 dL_law_1237 ?_
  refine lwR_z (Z := r) (R2 := R2) h (va_runV (As := [.int (xs (nI i + 1).toNatClampNeg), .int (xs (nI i + 2).toNatClampNeg)]) (rest := [.int r]) ⟨hx, hb, hml, hown, hts⟩ (c_X13_turn (l := l) R 118 (xs (nI i + 1).toNatClampNeg) (xs (nI i + 2).toNatClampNeg) h.2.2.2.2.2.2.2.2.1.1 e2) (cwV 2 hts gL_law_X13_turn rfl rfl rfl hdV_X13_turn ⟨Nat.le_of_ble_eq_true rfl, Nat.le_of_ble_eq_true rfl⟩) (pR0 h hK hG) rfl rfl hl.1 rfl (lv_room (Nat.le_of_ble_eq_true rfl)) dL_law_1238 ⟨by show cells + 0 ≤ 601024; omega, by show slots + 0 ≤ 7293034; omega⟩) (fun H locs h => ?_)
  have hS := h.2.2.2.2.1
  refine lv_icmp_eq (tgt := 1824) hx hb dL_law_1241 rfl (fun _ => ?_) (fun c => absurd rfl c)
  refine W.widen (k := cells + 33) (n := slots + 336) (by omega) (by omega) ?_
  exact kk adR gR0 top C2 R2 H locs ls h hT2 hl
set_option maxHeartbeats 4000000 in
set_option maxRecDepth 100000 in
theorem law_c28 {p : Program} {l : Launch} {e : Env} {s : State} {m : MethodId} {below : List Frame} {meth : Method} {c : Code} {cells slots b L : Nat} {xs : Nat → Int32} {D : va_G} {cy : Nat → ClassId} {q : SE} {adC adR : Nat → Nat} {gC gR0 : CG} {top : Nat} {C R : MM} {H : Heap} {locs : List Loc} {ls : Array Slot} {Q : State → Prop} {i : Nat} (hst : l.stackTraces = false) (K : LawC p s m c b L xs D cy q) (hcl : cells + 33 ≤ 601024) (hsl : slots + 336 ≤ 7293034) (hL : L ≤ 3072) (hi : i + 6 ≤ L) (h : LW D cy s (adC 1) (adR 118) (adC 118) adC gC adR gR0 top C R H locs) (hT : TOP C R) (hl : lv_has ls 7 [(4, .int (nI i)), (0, .ref b), (1, .ref (adC 1)), (2, .ref (adR 118)), (3, .ref (adC 118))])
    (kk : ∀ (adR2 : Nat → Nat) (gR2 : CG) (top2 : Nat) (C2 R2 : MM) (H2 : Heap) (locs2 : List Loc) (ls2 : Array Slot), LW D cy s (adC 1) (adR 118) (adC 118) adC gC adR2 gR2 top2 C2 R2 H2 locs2 → TOP C2 R2 → lv_has ls2 7 [(4, .int (nI i)), (0, .ref b), (1, .ref (adC 1)), (2, .ref (adR 118)), (3, .ref (adC 118))] → W p l e room_1 s m #[.ref b] below meth c H2 locs2 (cells + 33) (slots + 336) Q (F0 m 1824 ls2 [])) : W p l e room_1 s m #[.ref b] below meth c H locs cells slots Q (F0 m 1246 ls []) := by
  obtain ⟨hx, hb, hml, hown, hts, hX, hbl, hK, hG, hLX⟩ := K
  have hbA : ¬ lwA s b := Nat.not_le.mpr hbl
  have hS := h.2.2.2.2.1
  obtain ⟨jo, sc, ic, sp, hS0, hR0, -, -, hV0, -, hI0⟩ := id hT
  refine lv_aload_n hx hb dL_law_1246 rfl (lv_at hl 2 rfl) ?_
  obtain ⟨r, C2, R2, e1, e2, hT2⟩ : FT C R (f_X11_hangs C 1 ) (f_X13_hangs R 118 ) := (q_hangs hS0 hI0.ir ).top hT
  refine lwC_i (Z := r) (C2 := C2) h (va_runV (As := []) (rest := []) ⟨hx, hb, hml, hown, hts⟩ (c_X11_hangs (l := l) C 1 h.2.2.2.2.2.2.2.1.1 e1) (cwV 0 hts gL_law_X11_hangs rfl rfl rfl hdV_X11_hangs ⟨Nat.le_of_ble_eq_true rfl, Nat.le_of_ble_eq_true rfl⟩) (pC h hK hG) rfl rfl hl.1 rfl (lv_room (Nat.le_of_ble_eq_true rfl)) dL_law_1247 ⟨by show cells + 0 ≤ 601024; omega, by show slots + 0 ≤ 7293034; omega⟩) (fun H locs h => ?_)
  have hS := h.2.2.2.2.1
  refine lv_aload_n hx hb dL_law_1250 rfl (lv_at hl 3 rfl) ?_
  refine lwR_i (Z := r) (R2 := R2) h (va_runV (As := []) (rest := [.int r]) ⟨hx, hb, hml, hown, hts⟩ (c_X13_hangs (l := l) R 118 h.2.2.2.2.2.2.2.2.1.1 e2) (cwV 0 hts gL_law_X13_hangs rfl rfl rfl hdV_X13_hangs ⟨Nat.le_of_ble_eq_true rfl, Nat.le_of_ble_eq_true rfl⟩) (pR0 h hK hG) rfl rfl hl.1 rfl (lv_room (Nat.le_of_ble_eq_true rfl)) dL_law_1251 ⟨by show cells + 0 ≤ 601024; omega, by show slots + 0 ≤ 7293034; omega⟩) (fun H locs h => ?_)
  have hS := h.2.2.2.2.1
  refine lv_icmp_eq (tgt := 1824) hx hb dL_law_1254 rfl (fun _ => ?_) (fun c => absurd rfl c)
  refine W.widen (k := cells + 33) (n := slots + 336) (by omega) (by omega) ?_
  exact kk adR gR0 top C2 R2 H locs ls h hT2 hl
set_option maxHeartbeats 4000000 in
set_option maxRecDepth 100000 in
theorem law_c29 {p : Program} {l : Launch} {e : Env} {s : State} {m : MethodId} {below : List Frame} {meth : Method} {c : Code} {cells slots b L : Nat} {xs : Nat → Int32} {D : va_G} {cy : Nat → ClassId} {q : SE} {adC adR : Nat → Nat} {gC gR0 : CG} {top : Nat} {C R : MM} {H : Heap} {locs : List Loc} {ls : Array Slot} {Q : State → Prop} {i : Nat} (hst : l.stackTraces = false) (K : LawC p s m c b L xs D cy q) (hcl : cells + 33 ≤ 601024) (hsl : slots + 336 ≤ 7293034) (hL : L ≤ 3072) (hi : i + 6 ≤ L) (h : LW D cy s (adC 1) (adR 118) (adC 118) adC gC adR gR0 top C R H locs) (hT : TOP C R) (hl : lv_has ls 7 [(4, .int (nI i)), (0, .ref b), (1, .ref (adC 1)), (2, .ref (adR 118)), (3, .ref (adC 118))])
    (kk : ∀ (adR2 : Nat → Nat) (gR2 : CG) (top2 : Nat) (C2 R2 : MM) (H2 : Heap) (locs2 : List Loc) (ls2 : Array Slot), LW D cy s (adC 1) (adR 118) (adC 118) adC gC adR2 gR2 top2 C2 R2 H2 locs2 → TOP C2 R2 → lv_has ls2 7 [(4, .int (nI i)), (0, .ref b), (1, .ref (adC 1)), (2, .ref (adR 118)), (3, .ref (adC 118))] → W p l e room_1 s m #[.ref b] below meth c H2 locs2 (cells + 33) (slots + 336) Q (F0 m 1824 ls2 [])) : W p l e room_1 s m #[.ref b] below meth c H locs cells slots Q (F0 m 1259 ls []) := by
  obtain ⟨hx, hb, hml, hown, hts, hX, hbl, hK, hG, hLX⟩ := K
  have hbA : ¬ lwA s b := Nat.not_le.mpr hbl
  have hS := h.2.2.2.2.1
  obtain ⟨jo, sc, ic, sp, hS0, hR0, -, -, hV0, -, hI0⟩ := id hT
  refine lv_aload_n hx hb dL_law_1259 rfl (lv_at hl 2 rfl) ?_
  obtain ⟨r, C2, R2, e1, e2, hT2⟩ : FT C R (f_X11_tryout C 1 ) (f_X13_tryout R 118 ) := (q_tryout hS0 hI0.ir ).top hT
  refine lwC_i (Z := r) (C2 := C2) h (va_runV (As := []) (rest := []) ⟨hx, hb, hml, hown, hts⟩ (c_X11_tryout (l := l) C 1 h.2.2.2.2.2.2.2.1.1 e1) (cwV 0 hts gL_law_X11_tryout rfl rfl rfl hdV_X11_tryout ⟨Nat.le_of_ble_eq_true rfl, Nat.le_of_ble_eq_true rfl⟩) (pC h hK hG) rfl rfl hl.1 rfl (lv_room (Nat.le_of_ble_eq_true rfl)) dL_law_1260 ⟨by show cells + 0 ≤ 601024; omega, by show slots + 0 ≤ 7293034; omega⟩) (fun H locs h => ?_)
  have hS := h.2.2.2.2.1
  refine lv_aload_n hx hb dL_law_1263 rfl (lv_at hl 3 rfl) ?_
  refine lwR_i (Z := r) (R2 := R2) h (va_runV (As := []) (rest := [.int r]) ⟨hx, hb, hml, hown, hts⟩ (c_X13_tryout (l := l) R 118 h.2.2.2.2.2.2.2.2.1.1 e2) (cwV 0 hts gL_law_X13_tryout rfl rfl rfl hdV_X13_tryout ⟨Nat.le_of_ble_eq_true rfl, Nat.le_of_ble_eq_true rfl⟩) (pR0 h hK hG) rfl rfl hl.1 rfl (lv_room (Nat.le_of_ble_eq_true rfl)) dL_law_1264 ⟨by show cells + 0 ≤ 601024; omega, by show slots + 0 ≤ 7293034; omega⟩) (fun H locs h => ?_)
  have hS := h.2.2.2.2.1
  refine lv_icmp_eq (tgt := 1824) hx hb dL_law_1267 rfl (fun _ => ?_) (fun c => absurd rfl c)
  refine W.widen (k := cells + 33) (n := slots + 336) (by omega) (by omega) ?_
  exact kk adR gR0 top C2 R2 H locs ls h hT2 hl
set_option maxHeartbeats 4000000 in
set_option maxRecDepth 100000 in
theorem law_c30 {p : Program} {l : Launch} {e : Env} {s : State} {m : MethodId} {below : List Frame} {meth : Method} {c : Code} {cells slots b L : Nat} {xs : Nat → Int32} {D : va_G} {cy : Nat → ClassId} {q : SE} {adC adR : Nat → Nat} {gC gR0 : CG} {top : Nat} {C R : MM} {H : Heap} {locs : List Loc} {ls : Array Slot} {Q : State → Prop} {i : Nat} (hst : l.stackTraces = false) (K : LawC p s m c b L xs D cy q) (hcl : cells + 33 ≤ 601024) (hsl : slots + 336 ≤ 7293034) (hL : L ≤ 3072) (hi : i + 6 ≤ L) (h : LW D cy s (adC 1) (adR 118) (adC 118) adC gC adR gR0 top C R H locs) (hT : TOP C R) (hl : lv_has ls 7 [(4, .int (nI i)), (0, .ref b), (1, .ref (adC 1)), (2, .ref (adR 118)), (3, .ref (adC 118))])
    (kk : ∀ (adR2 : Nat → Nat) (gR2 : CG) (top2 : Nat) (C2 R2 : MM) (H2 : Heap) (locs2 : List Loc) (ls2 : Array Slot), LW D cy s (adC 1) (adR 118) (adC 118) adC gC adR2 gR2 top2 C2 R2 H2 locs2 → TOP C2 R2 → lv_has ls2 7 [(4, .int (nI i)), (0, .ref b), (1, .ref (adC 1)), (2, .ref (adR 118)), (3, .ref (adC 118))] → W p l e room_1 s m #[.ref b] below meth c H2 locs2 (cells + 33) (slots + 336) Q (F0 m 1824 ls2 [])) : W p l e room_1 s m #[.ref b] below meth c H locs cells slots Q (F0 m 1272 ls []) := by
  obtain ⟨hx, hb, hml, hown, hts, hX, hbl, hK, hG, hLX⟩ := K
  have hbA : ¬ lwA s b := Nat.not_le.mpr hbl
  have hS := h.2.2.2.2.1
  have j1 : vp_in (nI i + 1) L := by
    rw [nI_1 i]
    exact vp_in_nI (by omega) (by omega)
  have j2 : vp_in (nI i + 2) L := by
    rw [show (2 : Int32) = nI 2 from rfl, nI_add]
    exact vp_in_nI (by omega) (by omega)
  have j3 : vp_in (nI i + 3) L := by
    rw [show (3 : Int32) = nI 3 from rfl, nI_add]
    exact vp_in_nI (by omega) (by omega)
  obtain ⟨jo, sc, ic, sp, hS0, hR0, -, -, hV0, -, hI0⟩ := id hT
  refine lv_aload_n hx hb dL_law_1272 rfl (lv_at hl 2 rfl) ?_
  refine lv_aload_n hx hb dL_law_1273 rfl (lv_at hl 1 rfl) ?_
  refine lv_iload hx hb dL_law_1274 (lv_at hl 0 rfl) ?_
  refine lv_iconst (v := 1) hx hb dL_law_1276 rfl ?_
  refine lv_iadd hx hb dL_law_1277 ?_
  refine va_sld hx hb hX hbl hbA hS j1 dL_law_1278 ?_
  refine lv_aload_n hx hb dL_law_1279 rfl (lv_at hl 1 rfl) ?_
  refine lv_iload hx hb dL_law_1280 (lv_at hl 0 rfl) ?_
  refine lv_iconst (v := 2) hx hb dL_law_1282 rfl ?_
  refine lv_iadd hx hb dL_law_1283 ?_
  refine va_sld hx hb hX hbl hbA hS j2 dL_law_1284 ?_
  refine lv_aload_n hx hb dL_law_1285 rfl (lv_at hl 1 rfl) ?_
  refine lv_iload hx hb dL_law_1286 (lv_at hl 0 rfl) ?_
  refine lv_iconst (v := 3) hx hb dL_law_1288 rfl ?_
  refine lv_iadd hx hb dL_law_1289 ?_
  refine va_sld hx hb hX hbl hbA hS j3 dL_law_1290 ?_
  refine lv_if_eq (tgt := 1298) hx hb dL_law_1291 rfl (fun c1 => ?_) (fun c1 => ?_)
  · skip
    refine lv_iconst (v := 0) hx hb dL_law_1298 rfl ?_
    obtain ⟨r, C2, R2, e1, e2, hT2⟩ : FT C R (f_X11_people C 1 (xs (nI i + 1).toNatClampNeg) (xs (nI i + 2).toNatClampNeg) 0) (f_X13_people R 118 (xs (nI i + 1).toNatClampNeg) (xs (nI i + 2).toNatClampNeg) 0) := (q_people hS0 hI0.ir (xs (nI i + 1).toNatClampNeg) (xs (nI i + 2).toNatClampNeg) 0).top hT
    refine lwC_i (Z := r) (C2 := C2) h (va_runV (As := [.int (xs (nI i + 1).toNatClampNeg), .int (xs (nI i + 2).toNatClampNeg), .int 0]) (rest := []) ⟨hx, hb, hml, hown, hts⟩ (c_X11_people (l := l) C 1 (xs (nI i + 1).toNatClampNeg) (xs (nI i + 2).toNatClampNeg) 0 h.2.2.2.2.2.2.2.1.1 e1) (cwV 3 hts gL_law_X11_people rfl rfl rfl hdV_X11_people ⟨Nat.le_of_ble_eq_true rfl, Nat.le_of_ble_eq_true rfl⟩) (pC h hK hG) rfl rfl hl.1 rfl (lv_room (Nat.le_of_ble_eq_true rfl)) dL_law_1299 ⟨by show cells + 0 ≤ 601024; omega, by show slots + 0 ≤ 7293034; omega⟩) (fun H locs h => ?_)
    have hS := h.2.2.2.2.1
    refine lv_aload_n hx hb dL_law_1302 rfl (lv_at hl 3 rfl) ?_
    refine lv_aload_n hx hb dL_law_1303 rfl (lv_at hl 1 rfl) ?_
    refine lv_iload hx hb dL_law_1304 (lv_at hl 0 rfl) ?_
    refine lv_iconst (v := 1) hx hb dL_law_1306 rfl ?_
    refine lv_iadd hx hb dL_law_1307 ?_
    refine va_sld hx hb hX hbl hbA hS j1 dL_law_1308 ?_
    refine lv_aload_n hx hb dL_law_1309 rfl (lv_at hl 1 rfl) ?_
    refine lv_iload hx hb dL_law_1310 (lv_at hl 0 rfl) ?_
    refine lv_iconst (v := 2) hx hb dL_law_1312 rfl ?_
    refine lv_iadd hx hb dL_law_1313 ?_
    refine va_sld hx hb hX hbl hbA hS j2 dL_law_1314 ?_
    refine lv_aload_n hx hb dL_law_1315 rfl (lv_at hl 1 rfl) ?_
    refine lv_iload hx hb dL_law_1316 (lv_at hl 0 rfl) ?_
    refine lv_iconst (v := 3) hx hb dL_law_1318 rfl ?_
    refine lv_iadd hx hb dL_law_1319 ?_
    refine va_sld hx hb hX hbl hbA hS j3 dL_law_1320 ?_
    refine lv_if_eq (tgt := 1328) hx hb dL_law_1321 rfl (fun _ => ?_) (fun c => absurd c1 c)
    refine lv_iconst (v := 0) hx hb dL_law_1328 rfl ?_
    refine lwR_i (Z := r) (R2 := R2) h (va_runV (As := [.int (xs (nI i + 1).toNatClampNeg), .int (xs (nI i + 2).toNatClampNeg), .int 0]) (rest := [.int r]) ⟨hx, hb, hml, hown, hts⟩ (c_X13_people (l := l) R 118 (xs (nI i + 1).toNatClampNeg) (xs (nI i + 2).toNatClampNeg) 0 h.2.2.2.2.2.2.2.2.1.1 e2) (cwV 3 hts gL_law_X13_people rfl rfl rfl hdV_X13_people ⟨Nat.le_of_ble_eq_true rfl, Nat.le_of_ble_eq_true rfl⟩) (pR0 h hK hG) rfl rfl hl.1 rfl (lv_room (Nat.le_of_ble_eq_true rfl)) dL_law_1329 ⟨by show cells + 0 ≤ 601024; omega, by show slots + 0 ≤ 7293034; omega⟩) (fun H locs h => ?_)
    have hS := h.2.2.2.2.1
    refine lv_icmp_eq (tgt := 1824) hx hb dL_law_1332 rfl (fun _ => ?_) (fun c => absurd rfl c)
    refine W.widen (k := cells + 33) (n := slots + 336) (by omega) (by omega) ?_
    exact kk adR gR0 top C2 R2 H locs ls h hT2 hl
  · skip
    refine lv_iconst (v := 1) hx hb dL_law_1294 rfl ?_
    refine lv_goto (tgt := 1299) hx hb dL_law_1295 rfl ?_
    obtain ⟨r, C2, R2, e1, e2, hT2⟩ : FT C R (f_X11_people C 1 (xs (nI i + 1).toNatClampNeg) (xs (nI i + 2).toNatClampNeg) 1) (f_X13_people R 118 (xs (nI i + 1).toNatClampNeg) (xs (nI i + 2).toNatClampNeg) 1) := (q_people hS0 hI0.ir (xs (nI i + 1).toNatClampNeg) (xs (nI i + 2).toNatClampNeg) 1).top hT
    refine lwC_i (Z := r) (C2 := C2) h (va_runV (As := [.int (xs (nI i + 1).toNatClampNeg), .int (xs (nI i + 2).toNatClampNeg), .int 1]) (rest := []) ⟨hx, hb, hml, hown, hts⟩ (c_X11_people (l := l) C 1 (xs (nI i + 1).toNatClampNeg) (xs (nI i + 2).toNatClampNeg) 1 h.2.2.2.2.2.2.2.1.1 e1) (cwV 3 hts gL_law_X11_people rfl rfl rfl hdV_X11_people ⟨Nat.le_of_ble_eq_true rfl, Nat.le_of_ble_eq_true rfl⟩) (pC h hK hG) rfl rfl hl.1 rfl (lv_room (Nat.le_of_ble_eq_true rfl)) dL_law_1299 ⟨by show cells + 0 ≤ 601024; omega, by show slots + 0 ≤ 7293034; omega⟩) (fun H locs h => ?_)
    have hS := h.2.2.2.2.1
    refine lv_aload_n hx hb dL_law_1302 rfl (lv_at hl 3 rfl) ?_
    refine lv_aload_n hx hb dL_law_1303 rfl (lv_at hl 1 rfl) ?_
    refine lv_iload hx hb dL_law_1304 (lv_at hl 0 rfl) ?_
    refine lv_iconst (v := 1) hx hb dL_law_1306 rfl ?_
    refine lv_iadd hx hb dL_law_1307 ?_
    refine va_sld hx hb hX hbl hbA hS j1 dL_law_1308 ?_
    refine lv_aload_n hx hb dL_law_1309 rfl (lv_at hl 1 rfl) ?_
    refine lv_iload hx hb dL_law_1310 (lv_at hl 0 rfl) ?_
    refine lv_iconst (v := 2) hx hb dL_law_1312 rfl ?_
    refine lv_iadd hx hb dL_law_1313 ?_
    refine va_sld hx hb hX hbl hbA hS j2 dL_law_1314 ?_
    refine lv_aload_n hx hb dL_law_1315 rfl (lv_at hl 1 rfl) ?_
    refine lv_iload hx hb dL_law_1316 (lv_at hl 0 rfl) ?_
    refine lv_iconst (v := 3) hx hb dL_law_1318 rfl ?_
    refine lv_iadd hx hb dL_law_1319 ?_
    refine va_sld hx hb hX hbl hbA hS j3 dL_law_1320 ?_
    refine lv_if_eq (tgt := 1328) hx hb dL_law_1321 rfl (fun c => absurd c c1) (fun _ => ?_)
    refine lv_iconst (v := 1) hx hb dL_law_1324 rfl ?_
    refine lv_goto (tgt := 1329) hx hb dL_law_1325 rfl ?_
    refine lwR_i (Z := r) (R2 := R2) h (va_runV (As := [.int (xs (nI i + 1).toNatClampNeg), .int (xs (nI i + 2).toNatClampNeg), .int 1]) (rest := [.int r]) ⟨hx, hb, hml, hown, hts⟩ (c_X13_people (l := l) R 118 (xs (nI i + 1).toNatClampNeg) (xs (nI i + 2).toNatClampNeg) 1 h.2.2.2.2.2.2.2.2.1.1 e2) (cwV 3 hts gL_law_X13_people rfl rfl rfl hdV_X13_people ⟨Nat.le_of_ble_eq_true rfl, Nat.le_of_ble_eq_true rfl⟩) (pR0 h hK hG) rfl rfl hl.1 rfl (lv_room (Nat.le_of_ble_eq_true rfl)) dL_law_1329 ⟨by show cells + 0 ≤ 601024; omega, by show slots + 0 ≤ 7293034; omega⟩) (fun H locs h => ?_)
    have hS := h.2.2.2.2.1
    refine lv_icmp_eq (tgt := 1824) hx hb dL_law_1332 rfl (fun _ => ?_) (fun c => absurd rfl c)
    refine W.widen (k := cells + 33) (n := slots + 336) (by omega) (by omega) ?_
    exact kk adR gR0 top C2 R2 H locs ls h hT2 hl
set_option maxHeartbeats 4000000 in
set_option maxRecDepth 100000 in
theorem law_c31 {p : Program} {l : Launch} {e : Env} {s : State} {m : MethodId} {below : List Frame} {meth : Method} {c : Code} {cells slots b L : Nat} {xs : Nat → Int32} {D : va_G} {cy : Nat → ClassId} {q : SE} {adC adR : Nat → Nat} {gC gR0 : CG} {top : Nat} {C R : MM} {H : Heap} {locs : List Loc} {ls : Array Slot} {Q : State → Prop} {i : Nat} (hst : l.stackTraces = false) (K : LawC p s m c b L xs D cy q) (hcl : cells + 33 ≤ 601024) (hsl : slots + 336 ≤ 7293034) (hL : L ≤ 3072) (hi : i + 6 ≤ L) (h : LW D cy s (adC 1) (adR 118) (adC 118) adC gC adR gR0 top C R H locs) (hT : TOP C R) (hl : lv_has ls 7 [(4, .int (nI i)), (0, .ref b), (1, .ref (adC 1)), (2, .ref (adR 118)), (3, .ref (adC 118))])
    (kk : ∀ (adR2 : Nat → Nat) (gR2 : CG) (top2 : Nat) (C2 R2 : MM) (H2 : Heap) (locs2 : List Loc) (ls2 : Array Slot), LW D cy s (adC 1) (adR 118) (adC 118) adC gC adR2 gR2 top2 C2 R2 H2 locs2 → TOP C2 R2 → lv_has ls2 7 [(4, .int (nI i)), (0, .ref b), (1, .ref (adC 1)), (2, .ref (adR 118)), (3, .ref (adC 118))] → W p l e room_1 s m #[.ref b] below meth c H2 locs2 (cells + 33) (slots + 336) Q (F0 m 1824 ls2 [])) : W p l e room_1 s m #[.ref b] below meth c H locs cells slots Q (F0 m 1337 ls []) := by
  obtain ⟨hx, hb, hml, hown, hts, hX, hbl, hK, hG, hLX⟩ := K
  have hbA : ¬ lwA s b := Nat.not_le.mpr hbl
  have hS := h.2.2.2.2.1
  have j1 : vp_in (nI i + 1) L := by
    rw [nI_1 i]
    exact vp_in_nI (by omega) (by omega)
  have j2 : vp_in (nI i + 2) L := by
    rw [show (2 : Int32) = nI 2 from rfl, nI_add]
    exact vp_in_nI (by omega) (by omega)
  have j3 : vp_in (nI i + 3) L := by
    rw [show (3 : Int32) = nI 3 from rfl, nI_add]
    exact vp_in_nI (by omega) (by omega)
  obtain ⟨jo, sc, ic, sp, hS0, hR0, -, -, hV0, -, hI0⟩ := id hT
  refine lv_aload_n hx hb dL_law_1337 rfl (lv_at hl 2 rfl) ?_
  refine lv_aload_n hx hb dL_law_1338 rfl (lv_at hl 1 rfl) ?_
  refine lv_iload hx hb dL_law_1339 (lv_at hl 0 rfl) ?_
  refine lv_iconst (v := 1) hx hb dL_law_1341 rfl ?_
  refine lv_iadd hx hb dL_law_1342 ?_
  refine va_sld hx hb hX hbl hbA hS j1 dL_law_1343 ?_
  refine lv_aload_n hx hb dL_law_1344 rfl (lv_at hl 1 rfl) ?_
  refine lv_iload hx hb dL_law_1345 (lv_at hl 0 rfl) ?_
  refine lv_iconst (v := 2) hx hb dL_law_1347 rfl ?_
  refine lv_iadd hx hb dL_law_1348 ?_
  refine va_sld hx hb hX hbl hbA hS j2 dL_law_1349 ?_
  refine lv_aload_n hx hb dL_law_1350 rfl (lv_at hl 1 rfl) ?_
  refine lv_iload hx hb dL_law_1351 (lv_at hl 0 rfl) ?_
  refine lv_iconst (v := 3) hx hb dL_law_1353 rfl ?_
  refine lv_iadd hx hb dL_law_1354 ?_
  refine va_sld hx hb hX hbl hbA hS j3 dL_law_1355 ?_
  refine lv_if_eq (tgt := 1363) hx hb dL_law_1356 rfl (fun c1 => ?_) (fun c1 => ?_)
  · skip
    refine lv_iconst (v := 0) hx hb dL_law_1363 rfl ?_
    obtain ⟨r, C2, R2, e1, e2, hT2⟩ : FT C R (f_X11_takes C 1 (xs (nI i + 1).toNatClampNeg) (xs (nI i + 2).toNatClampNeg) 0) (f_X13_takes R 118 (xs (nI i + 1).toNatClampNeg) (xs (nI i + 2).toNatClampNeg) 0) := (q_takes hS0 hI0.ir (xs (nI i + 1).toNatClampNeg) (xs (nI i + 2).toNatClampNeg) 0).top hT
    refine lwC_i (Z := r) (C2 := C2) h (va_runV (As := [.int (xs (nI i + 1).toNatClampNeg), .int (xs (nI i + 2).toNatClampNeg), .int 0]) (rest := []) ⟨hx, hb, hml, hown, hts⟩ (c_X11_takes (l := l) C 1 (xs (nI i + 1).toNatClampNeg) (xs (nI i + 2).toNatClampNeg) 0 h.2.2.2.2.2.2.2.1.1 e1) (cwV 3 hts gL_law_X11_takes rfl rfl rfl hdV_X11_takes ⟨Nat.le_of_ble_eq_true rfl, Nat.le_of_ble_eq_true rfl⟩) (pC h hK hG) rfl rfl hl.1 rfl (lv_room (Nat.le_of_ble_eq_true rfl)) dL_law_1364 ⟨by show cells + 0 ≤ 601024; omega, by show slots + 0 ≤ 7293034; omega⟩) (fun H locs h => ?_)
    have hS := h.2.2.2.2.1
    refine lv_aload_n hx hb dL_law_1367 rfl (lv_at hl 3 rfl) ?_
    refine lv_aload_n hx hb dL_law_1368 rfl (lv_at hl 1 rfl) ?_
    refine lv_iload hx hb dL_law_1369 (lv_at hl 0 rfl) ?_
    refine lv_iconst (v := 1) hx hb dL_law_1371 rfl ?_
    refine lv_iadd hx hb dL_law_1372 ?_
    refine va_sld hx hb hX hbl hbA hS j1 dL_law_1373 ?_
    refine lv_aload_n hx hb dL_law_1374 rfl (lv_at hl 1 rfl) ?_
    refine lv_iload hx hb dL_law_1375 (lv_at hl 0 rfl) ?_
    refine lv_iconst (v := 2) hx hb dL_law_1377 rfl ?_
    refine lv_iadd hx hb dL_law_1378 ?_
    refine va_sld hx hb hX hbl hbA hS j2 dL_law_1379 ?_
    refine lv_aload_n hx hb dL_law_1380 rfl (lv_at hl 1 rfl) ?_
    refine lv_iload hx hb dL_law_1381 (lv_at hl 0 rfl) ?_
    refine lv_iconst (v := 3) hx hb dL_law_1383 rfl ?_
    refine lv_iadd hx hb dL_law_1384 ?_
    refine va_sld hx hb hX hbl hbA hS j3 dL_law_1385 ?_
    refine lv_if_eq (tgt := 1393) hx hb dL_law_1386 rfl (fun _ => ?_) (fun c => absurd c1 c)
    refine lv_iconst (v := 0) hx hb dL_law_1393 rfl ?_
    refine lwR_i (Z := r) (R2 := R2) h (va_runV (As := [.int (xs (nI i + 1).toNatClampNeg), .int (xs (nI i + 2).toNatClampNeg), .int 0]) (rest := [.int r]) ⟨hx, hb, hml, hown, hts⟩ (c_X13_takes (l := l) R 118 (xs (nI i + 1).toNatClampNeg) (xs (nI i + 2).toNatClampNeg) 0 h.2.2.2.2.2.2.2.2.1.1 e2) (cwV 3 hts gL_law_X13_takes rfl rfl rfl hdV_X13_takes ⟨Nat.le_of_ble_eq_true rfl, Nat.le_of_ble_eq_true rfl⟩) (pR0 h hK hG) rfl rfl hl.1 rfl (lv_room (Nat.le_of_ble_eq_true rfl)) dL_law_1394 ⟨by show cells + 0 ≤ 601024; omega, by show slots + 0 ≤ 7293034; omega⟩) (fun H locs h => ?_)
    have hS := h.2.2.2.2.1
    refine lv_icmp_eq (tgt := 1824) hx hb dL_law_1397 rfl (fun _ => ?_) (fun c => absurd rfl c)
    refine W.widen (k := cells + 33) (n := slots + 336) (by omega) (by omega) ?_
    exact kk adR gR0 top C2 R2 H locs ls h hT2 hl
  · skip
    refine lv_iconst (v := 1) hx hb dL_law_1359 rfl ?_
    refine lv_goto (tgt := 1364) hx hb dL_law_1360 rfl ?_
    obtain ⟨r, C2, R2, e1, e2, hT2⟩ : FT C R (f_X11_takes C 1 (xs (nI i + 1).toNatClampNeg) (xs (nI i + 2).toNatClampNeg) 1) (f_X13_takes R 118 (xs (nI i + 1).toNatClampNeg) (xs (nI i + 2).toNatClampNeg) 1) := (q_takes hS0 hI0.ir (xs (nI i + 1).toNatClampNeg) (xs (nI i + 2).toNatClampNeg) 1).top hT
    refine lwC_i (Z := r) (C2 := C2) h (va_runV (As := [.int (xs (nI i + 1).toNatClampNeg), .int (xs (nI i + 2).toNatClampNeg), .int 1]) (rest := []) ⟨hx, hb, hml, hown, hts⟩ (c_X11_takes (l := l) C 1 (xs (nI i + 1).toNatClampNeg) (xs (nI i + 2).toNatClampNeg) 1 h.2.2.2.2.2.2.2.1.1 e1) (cwV 3 hts gL_law_X11_takes rfl rfl rfl hdV_X11_takes ⟨Nat.le_of_ble_eq_true rfl, Nat.le_of_ble_eq_true rfl⟩) (pC h hK hG) rfl rfl hl.1 rfl (lv_room (Nat.le_of_ble_eq_true rfl)) dL_law_1364 ⟨by show cells + 0 ≤ 601024; omega, by show slots + 0 ≤ 7293034; omega⟩) (fun H locs h => ?_)
    have hS := h.2.2.2.2.1
    refine lv_aload_n hx hb dL_law_1367 rfl (lv_at hl 3 rfl) ?_
    refine lv_aload_n hx hb dL_law_1368 rfl (lv_at hl 1 rfl) ?_
    refine lv_iload hx hb dL_law_1369 (lv_at hl 0 rfl) ?_
    refine lv_iconst (v := 1) hx hb dL_law_1371 rfl ?_
    refine lv_iadd hx hb dL_law_1372 ?_
    refine va_sld hx hb hX hbl hbA hS j1 dL_law_1373 ?_
    refine lv_aload_n hx hb dL_law_1374 rfl (lv_at hl 1 rfl) ?_
    refine lv_iload hx hb dL_law_1375 (lv_at hl 0 rfl) ?_
    refine lv_iconst (v := 2) hx hb dL_law_1377 rfl ?_
    refine lv_iadd hx hb dL_law_1378 ?_
    refine va_sld hx hb hX hbl hbA hS j2 dL_law_1379 ?_
    refine lv_aload_n hx hb dL_law_1380 rfl (lv_at hl 1 rfl) ?_
    refine lv_iload hx hb dL_law_1381 (lv_at hl 0 rfl) ?_
    refine lv_iconst (v := 3) hx hb dL_law_1383 rfl ?_
    refine lv_iadd hx hb dL_law_1384 ?_
    refine va_sld hx hb hX hbl hbA hS j3 dL_law_1385 ?_
    refine lv_if_eq (tgt := 1393) hx hb dL_law_1386 rfl (fun c => absurd c c1) (fun _ => ?_)
    refine lv_iconst (v := 1) hx hb dL_law_1389 rfl ?_
    refine lv_goto (tgt := 1394) hx hb dL_law_1390 rfl ?_
    refine lwR_i (Z := r) (R2 := R2) h (va_runV (As := [.int (xs (nI i + 1).toNatClampNeg), .int (xs (nI i + 2).toNatClampNeg), .int 1]) (rest := [.int r]) ⟨hx, hb, hml, hown, hts⟩ (c_X13_takes (l := l) R 118 (xs (nI i + 1).toNatClampNeg) (xs (nI i + 2).toNatClampNeg) 1 h.2.2.2.2.2.2.2.2.1.1 e2) (cwV 3 hts gL_law_X13_takes rfl rfl rfl hdV_X13_takes ⟨Nat.le_of_ble_eq_true rfl, Nat.le_of_ble_eq_true rfl⟩) (pR0 h hK hG) rfl rfl hl.1 rfl (lv_room (Nat.le_of_ble_eq_true rfl)) dL_law_1394 ⟨by show cells + 0 ≤ 601024; omega, by show slots + 0 ≤ 7293034; omega⟩) (fun H locs h => ?_)
    have hS := h.2.2.2.2.1
    refine lv_icmp_eq (tgt := 1824) hx hb dL_law_1397 rfl (fun _ => ?_) (fun c => absurd rfl c)
    refine W.widen (k := cells + 33) (n := slots + 336) (by omega) (by omega) ?_
    exact kk adR gR0 top C2 R2 H locs ls h hT2 hl
set_option maxHeartbeats 4000000 in
set_option maxRecDepth 100000 in
theorem law_c32 {p : Program} {l : Launch} {e : Env} {s : State} {m : MethodId} {below : List Frame} {meth : Method} {c : Code} {cells slots b L : Nat} {xs : Nat → Int32} {D : va_G} {cy : Nat → ClassId} {q : SE} {adC adR : Nat → Nat} {gC gR0 : CG} {top : Nat} {C R : MM} {H : Heap} {locs : List Loc} {ls : Array Slot} {Q : State → Prop} {i : Nat} (hst : l.stackTraces = false) (K : LawC p s m c b L xs D cy q) (hcl : cells + 33 ≤ 601024) (hsl : slots + 336 ≤ 7293034) (hL : L ≤ 3072) (hi : i + 6 ≤ L) (h : LW D cy s (adC 1) (adR 118) (adC 118) adC gC adR gR0 top C R H locs) (hT : TOP C R) (hl : lv_has ls 7 [(4, .int (nI i)), (0, .ref b), (1, .ref (adC 1)), (2, .ref (adR 118)), (3, .ref (adC 118))])
    (kk : ∀ (adR2 : Nat → Nat) (gR2 : CG) (top2 : Nat) (C2 R2 : MM) (H2 : Heap) (locs2 : List Loc) (ls2 : Array Slot), LW D cy s (adC 1) (adR 118) (adC 118) adC gC adR2 gR2 top2 C2 R2 H2 locs2 → TOP C2 R2 → lv_has ls2 7 [(4, .int (nI i)), (0, .ref b), (1, .ref (adC 1)), (2, .ref (adR 118)), (3, .ref (adC 118))] → W p l e room_1 s m #[.ref b] below meth c H2 locs2 (cells + 33) (slots + 336) Q (F0 m 1824 ls2 [])) : W p l e room_1 s m #[.ref b] below meth c H locs cells slots Q (F0 m 1402 ls []) := by
  obtain ⟨hx, hb, hml, hown, hts, hX, hbl, hK, hG, hLX⟩ := K
  have hbA : ¬ lwA s b := Nat.not_le.mpr hbl
  have hS := h.2.2.2.2.1
  have j1 : vp_in (nI i + 1) L := by
    rw [nI_1 i]
    exact vp_in_nI (by omega) (by omega)
  obtain ⟨jo, sc, ic, sp, hS0, hR0, -, -, hV0, -, hI0⟩ := id hT
  refine lv_aload_n hx hb dL_law_1402 rfl (lv_at hl 2 rfl) ?_
  refine lv_aload_n hx hb dL_law_1403 rfl (lv_at hl 1 rfl) ?_
  refine lv_iload hx hb dL_law_1404 (lv_at hl 0 rfl) ?_
  refine lv_iconst (v := 1) hx hb dL_law_1406 rfl ?_
  refine lv_iadd hx hb dL_law_1407 ?_
  refine va_sld hx hb hX hbl hbA hS j1 dL_law_1408 ?_
  obtain ⟨r, C2, R2, e1, e2, hT2⟩ : FT C R (f_X11_off C 1 (xs (nI i + 1).toNatClampNeg)) (f_X13_off R 118 (xs (nI i + 1).toNatClampNeg)) := (q_off hS0 hI0.ir (xs (nI i + 1).toNatClampNeg)).top hT
  refine lwC_i (Z := r) (C2 := C2) h (va_runV (As := [.int (xs (nI i + 1).toNatClampNeg)]) (rest := []) ⟨hx, hb, hml, hown, hts⟩ (c_X11_off (l := l) C 1 (xs (nI i + 1).toNatClampNeg) h.2.2.2.2.2.2.2.1.1 e1) (cwV 1 hts gL_law_X11_off rfl rfl rfl hdV_X11_off ⟨Nat.le_of_ble_eq_true rfl, Nat.le_of_ble_eq_true rfl⟩) (pC h hK hG) rfl rfl hl.1 rfl (lv_room (Nat.le_of_ble_eq_true rfl)) dL_law_1409 ⟨by show cells + 0 ≤ 601024; omega, by show slots + 0 ≤ 7293034; omega⟩) (fun H locs h => ?_)
  have hS := h.2.2.2.2.1
  refine lv_aload_n hx hb dL_law_1412 rfl (lv_at hl 3 rfl) ?_
  refine lv_aload_n hx hb dL_law_1413 rfl (lv_at hl 1 rfl) ?_
  refine lv_iload hx hb dL_law_1414 (lv_at hl 0 rfl) ?_
  refine lv_iconst (v := 1) hx hb dL_law_1416 rfl ?_
  refine lv_iadd hx hb dL_law_1417 ?_
  refine va_sld hx hb hX hbl hbA hS j1 dL_law_1418 ?_
  refine lwR_i (Z := r) (R2 := R2) h (va_runV (As := [.int (xs (nI i + 1).toNatClampNeg)]) (rest := [.int r]) ⟨hx, hb, hml, hown, hts⟩ (c_X13_off (l := l) R 118 (xs (nI i + 1).toNatClampNeg) h.2.2.2.2.2.2.2.2.1.1 e2) (cwV 1 hts gL_law_X13_off rfl rfl rfl hdV_X13_off ⟨Nat.le_of_ble_eq_true rfl, Nat.le_of_ble_eq_true rfl⟩) (pR0 h hK hG) rfl rfl hl.1 rfl (lv_room (Nat.le_of_ble_eq_true rfl)) dL_law_1419 ⟨by show cells + 0 ≤ 601024; omega, by show slots + 0 ≤ 7293034; omega⟩) (fun H locs h => ?_)
  have hS := h.2.2.2.2.1
  refine lv_icmp_eq (tgt := 1824) hx hb dL_law_1422 rfl (fun _ => ?_) (fun c => absurd rfl c)
  refine W.widen (k := cells + 33) (n := slots + 336) (by omega) (by omega) ?_
  exact kk adR gR0 top C2 R2 H locs ls h hT2 hl
set_option maxHeartbeats 4000000 in
set_option maxRecDepth 100000 in
theorem law_c33 {p : Program} {l : Launch} {e : Env} {s : State} {m : MethodId} {below : List Frame} {meth : Method} {c : Code} {cells slots b L : Nat} {xs : Nat → Int32} {D : va_G} {cy : Nat → ClassId} {q : SE} {adC adR : Nat → Nat} {gC gR0 : CG} {top : Nat} {C R : MM} {H : Heap} {locs : List Loc} {ls : Array Slot} {Q : State → Prop} {i : Nat} (hst : l.stackTraces = false) (K : LawC p s m c b L xs D cy q) (hcl : cells + 33 ≤ 601024) (hsl : slots + 336 ≤ 7293034) (hL : L ≤ 3072) (hi : i + 6 ≤ L) (h : LW D cy s (adC 1) (adR 118) (adC 118) adC gC adR gR0 top C R H locs) (hT : TOP C R) (hl : lv_has ls 7 [(4, .int (nI i)), (0, .ref b), (1, .ref (adC 1)), (2, .ref (adR 118)), (3, .ref (adC 118))])
    (kk : ∀ (adR2 : Nat → Nat) (gR2 : CG) (top2 : Nat) (C2 R2 : MM) (H2 : Heap) (locs2 : List Loc) (ls2 : Array Slot), LW D cy s (adC 1) (adR 118) (adC 118) adC gC adR2 gR2 top2 C2 R2 H2 locs2 → TOP C2 R2 → lv_has ls2 7 [(4, .int (nI i)), (0, .ref b), (1, .ref (adC 1)), (2, .ref (adR 118)), (3, .ref (adC 118))] → W p l e room_1 s m #[.ref b] below meth c H2 locs2 (cells + 33) (slots + 336) Q (F0 m 1824 ls2 [])) : W p l e room_1 s m #[.ref b] below meth c H locs cells slots Q (F0 m 1427 ls []) := by
  obtain ⟨hx, hb, hml, hown, hts, hX, hbl, hK, hG, hLX⟩ := K
  have hbA : ¬ lwA s b := Nat.not_le.mpr hbl
  have hS := h.2.2.2.2.1
  have j1 : vp_in (nI i + 1) L := by
    rw [nI_1 i]
    exact vp_in_nI (by omega) (by omega)
  obtain ⟨jo, sc, ic, sp, hS0, hR0, -, -, hV0, -, hI0⟩ := id hT
  refine lv_aload_n hx hb dL_law_1427 rfl (lv_at hl 2 rfl) ?_
  refine lv_aload_n hx hb dL_law_1428 rfl (lv_at hl 1 rfl) ?_
  refine lv_iload hx hb dL_law_1429 (lv_at hl 0 rfl) ?_
  refine lv_iconst (v := 1) hx hb dL_law_1431 rfl ?_
  refine lv_iadd hx hb dL_law_1432 ?_
  refine va_sld hx hb hX hbl hbA hS j1 dL_law_1433 ?_
  obtain ⟨r, C2, R2, e1, e2, hT2⟩ : FT C R (f_X11_wood C 1 (xs (nI i + 1).toNatClampNeg)) (f_X13_wood R 118 (xs (nI i + 1).toNatClampNeg)) := (q_wood hS0 hI0.ir (xs (nI i + 1).toNatClampNeg)).top hT
  refine lwC_i (Z := r) (C2 := C2) h (va_runV (As := [.int (xs (nI i + 1).toNatClampNeg)]) (rest := []) ⟨hx, hb, hml, hown, hts⟩ (c_X11_wood (l := l) C 1 (xs (nI i + 1).toNatClampNeg) h.2.2.2.2.2.2.2.1.1 e1) (cwV 1 hts gL_law_X11_wood rfl rfl rfl hdV_X11_wood ⟨Nat.le_of_ble_eq_true rfl, Nat.le_of_ble_eq_true rfl⟩) (pC h hK hG) rfl rfl hl.1 rfl (lv_room (Nat.le_of_ble_eq_true rfl)) dL_law_1434 ⟨by show cells + 0 ≤ 601024; omega, by show slots + 0 ≤ 7293034; omega⟩) (fun H locs h => ?_)
  have hS := h.2.2.2.2.1
  refine lv_aload_n hx hb dL_law_1437 rfl (lv_at hl 3 rfl) ?_
  refine lv_aload_n hx hb dL_law_1438 rfl (lv_at hl 1 rfl) ?_
  refine lv_iload hx hb dL_law_1439 (lv_at hl 0 rfl) ?_
  refine lv_iconst (v := 1) hx hb dL_law_1441 rfl ?_
  refine lv_iadd hx hb dL_law_1442 ?_
  refine va_sld hx hb hX hbl hbA hS j1 dL_law_1443 ?_
  refine lwR_i (Z := r) (R2 := R2) h (va_runV (As := [.int (xs (nI i + 1).toNatClampNeg)]) (rest := [.int r]) ⟨hx, hb, hml, hown, hts⟩ (c_X13_wood (l := l) R 118 (xs (nI i + 1).toNatClampNeg) h.2.2.2.2.2.2.2.2.1.1 e2) (cwV 1 hts gL_law_X13_wood rfl rfl rfl hdV_X13_wood ⟨Nat.le_of_ble_eq_true rfl, Nat.le_of_ble_eq_true rfl⟩) (pR0 h hK hG) rfl rfl hl.1 rfl (lv_room (Nat.le_of_ble_eq_true rfl)) dL_law_1444 ⟨by show cells + 0 ≤ 601024; omega, by show slots + 0 ≤ 7293034; omega⟩) (fun H locs h => ?_)
  have hS := h.2.2.2.2.1
  refine lv_icmp_eq (tgt := 1824) hx hb dL_law_1447 rfl (fun _ => ?_) (fun c => absurd rfl c)
  refine W.widen (k := cells + 33) (n := slots + 336) (by omega) (by omega) ?_
  exact kk adR gR0 top C2 R2 H locs ls h hT2 hl
set_option maxHeartbeats 4000000 in
set_option maxRecDepth 100000 in
theorem law_c34 {p : Program} {l : Launch} {e : Env} {s : State} {m : MethodId} {below : List Frame} {meth : Method} {c : Code} {cells slots b L : Nat} {xs : Nat → Int32} {D : va_G} {cy : Nat → ClassId} {q : SE} {adC adR : Nat → Nat} {gC gR0 : CG} {top : Nat} {C R : MM} {H : Heap} {locs : List Loc} {ls : Array Slot} {Q : State → Prop} {i : Nat} (hst : l.stackTraces = false) (K : LawC p s m c b L xs D cy q) (hcl : cells + 33 ≤ 601024) (hsl : slots + 336 ≤ 7293034) (hL : L ≤ 3072) (hi : i + 6 ≤ L) (h : LW D cy s (adC 1) (adR 118) (adC 118) adC gC adR gR0 top C R H locs) (hT : TOP C R) (hl : lv_has ls 7 [(4, .int (nI i)), (0, .ref b), (1, .ref (adC 1)), (2, .ref (adR 118)), (3, .ref (adC 118))])
    (kk : ∀ (adR2 : Nat → Nat) (gR2 : CG) (top2 : Nat) (C2 R2 : MM) (H2 : Heap) (locs2 : List Loc) (ls2 : Array Slot), LW D cy s (adC 1) (adR 118) (adC 118) adC gC adR2 gR2 top2 C2 R2 H2 locs2 → TOP C2 R2 → lv_has ls2 7 [(4, .int (nI i)), (0, .ref b), (1, .ref (adC 1)), (2, .ref (adR 118)), (3, .ref (adC 118))] → W p l e room_1 s m #[.ref b] below meth c H2 locs2 (cells + 33) (slots + 336) Q (F0 m 1824 ls2 [])) : W p l e room_1 s m #[.ref b] below meth c H locs cells slots Q (F0 m 1452 ls []) := by
  obtain ⟨hx, hb, hml, hown, hts, hX, hbl, hK, hG, hLX⟩ := K
  have hbA : ¬ lwA s b := Nat.not_le.mpr hbl
  have hS := h.2.2.2.2.1
  have j1 : vp_in (nI i + 1) L := by
    rw [nI_1 i]
    exact vp_in_nI (by omega) (by omega)
  obtain ⟨jo, sc, ic, sp, hS0, hR0, -, -, hV0, -, hI0⟩ := id hT
  refine lv_aload_n hx hb dL_law_1452 rfl (lv_at hl 2 rfl) ?_
  refine lv_aload_n hx hb dL_law_1453 rfl (lv_at hl 1 rfl) ?_
  refine lv_iload hx hb dL_law_1454 (lv_at hl 0 rfl) ?_
  refine lv_iconst (v := 1) hx hb dL_law_1456 rfl ?_
  refine lv_iadd hx hb dL_law_1457 ?_
  refine va_sld hx hb hX hbl hbA hS j1 dL_law_1458 ?_
  obtain ⟨r, C2, R2, e1, e2, hT2⟩ : FT C R (f_X11_enough C 1 (xs (nI i + 1).toNatClampNeg)) (f_X13_enough R 118 (xs (nI i + 1).toNatClampNeg)) := (q_enough hS0 hI0.ir (xs (nI i + 1).toNatClampNeg)).top hT
  refine lwC_i (Z := r) (C2 := C2) h (va_runV (As := [.int (xs (nI i + 1).toNatClampNeg)]) (rest := []) ⟨hx, hb, hml, hown, hts⟩ (c_X11_enough (l := l) C 1 (xs (nI i + 1).toNatClampNeg) h.2.2.2.2.2.2.2.1.1 e1) (cwV 1 hts gL_law_X11_enough rfl rfl rfl hdV_X11_enough ⟨Nat.le_of_ble_eq_true rfl, Nat.le_of_ble_eq_true rfl⟩) (pC h hK hG) rfl rfl hl.1 rfl (lv_room (Nat.le_of_ble_eq_true rfl)) dL_law_1459 ⟨by show cells + 0 ≤ 601024; omega, by show slots + 0 ≤ 7293034; omega⟩) (fun H locs h => ?_)
  have hS := h.2.2.2.2.1
  refine lv_aload_n hx hb dL_law_1462 rfl (lv_at hl 3 rfl) ?_
  refine lv_aload_n hx hb dL_law_1463 rfl (lv_at hl 1 rfl) ?_
  refine lv_iload hx hb dL_law_1464 (lv_at hl 0 rfl) ?_
  refine lv_iconst (v := 1) hx hb dL_law_1466 rfl ?_
  refine lv_iadd hx hb dL_law_1467 ?_
  refine va_sld hx hb hX hbl hbA hS j1 dL_law_1468 ?_
  refine lwR_i (Z := r) (R2 := R2) h (va_runV (As := [.int (xs (nI i + 1).toNatClampNeg)]) (rest := [.int r]) ⟨hx, hb, hml, hown, hts⟩ (c_X13_enough (l := l) R 118 (xs (nI i + 1).toNatClampNeg) h.2.2.2.2.2.2.2.2.1.1 e2) (cwV 1 hts gL_law_X13_enough rfl rfl rfl hdV_X13_enough ⟨Nat.le_of_ble_eq_true rfl, Nat.le_of_ble_eq_true rfl⟩) (pR0 h hK hG) rfl rfl hl.1 rfl (lv_room (Nat.le_of_ble_eq_true rfl)) dL_law_1469 ⟨by show cells + 0 ≤ 601024; omega, by show slots + 0 ≤ 7293034; omega⟩) (fun H locs h => ?_)
  have hS := h.2.2.2.2.1
  refine lv_icmp_eq (tgt := 1824) hx hb dL_law_1472 rfl (fun _ => ?_) (fun c => absurd rfl c)
  refine W.widen (k := cells + 33) (n := slots + 336) (by omega) (by omega) ?_
  exact kk adR gR0 top C2 R2 H locs ls h hT2 hl
set_option maxHeartbeats 4000000 in
set_option maxRecDepth 100000 in
theorem law_c35 {p : Program} {l : Launch} {e : Env} {s : State} {m : MethodId} {below : List Frame} {meth : Method} {c : Code} {cells slots b L : Nat} {xs : Nat → Int32} {D : va_G} {cy : Nat → ClassId} {q : SE} {adC adR : Nat → Nat} {gC gR0 : CG} {top : Nat} {C R : MM} {H : Heap} {locs : List Loc} {ls : Array Slot} {Q : State → Prop} {i : Nat} (hst : l.stackTraces = false) (K : LawC p s m c b L xs D cy q) (hcl : cells + 33 ≤ 601024) (hsl : slots + 336 ≤ 7293034) (hL : L ≤ 3072) (hi : i + 6 ≤ L) (h : LW D cy s (adC 1) (adR 118) (adC 118) adC gC adR gR0 top C R H locs) (hT : TOP C R) (hl : lv_has ls 7 [(4, .int (nI i)), (0, .ref b), (1, .ref (adC 1)), (2, .ref (adR 118)), (3, .ref (adC 118))])
    (kk : ∀ (adR2 : Nat → Nat) (gR2 : CG) (top2 : Nat) (C2 R2 : MM) (H2 : Heap) (locs2 : List Loc) (ls2 : Array Slot), LW D cy s (adC 1) (adR 118) (adC 118) adC gC adR2 gR2 top2 C2 R2 H2 locs2 → TOP C2 R2 → lv_has ls2 7 [(4, .int (nI i)), (0, .ref b), (1, .ref (adC 1)), (2, .ref (adR 118)), (3, .ref (adC 118))] → W p l e room_1 s m #[.ref b] below meth c H2 locs2 (cells + 33) (slots + 336) Q (F0 m 1824 ls2 [])) : W p l e room_1 s m #[.ref b] below meth c H locs cells slots Q (F0 m 1477 ls []) := by
  obtain ⟨hx, hb, hml, hown, hts, hX, hbl, hK, hG, hLX⟩ := K
  have hbA : ¬ lwA s b := Nat.not_le.mpr hbl
  have hS := h.2.2.2.2.1
  have j1 : vp_in (nI i + 1) L := by
    rw [nI_1 i]
    exact vp_in_nI (by omega) (by omega)
  have j2 : vp_in (nI i + 2) L := by
    rw [show (2 : Int32) = nI 2 from rfl, nI_add]
    exact vp_in_nI (by omega) (by omega)
  obtain ⟨jo, sc, ic, sp, hS0, hR0, -, -, hV0, -, hI0⟩ := id hT
  refine lv_aload_n hx hb dL_law_1477 rfl (lv_at hl 2 rfl) ?_
  refine lv_aload_n hx hb dL_law_1478 rfl (lv_at hl 1 rfl) ?_
  refine lv_iload hx hb dL_law_1479 (lv_at hl 0 rfl) ?_
  refine lv_iconst (v := 1) hx hb dL_law_1481 rfl ?_
  refine lv_iadd hx hb dL_law_1482 ?_
  refine va_sld hx hb hX hbl hbA hS j1 dL_law_1483 ?_
  refine lv_aload_n hx hb dL_law_1484 rfl (lv_at hl 1 rfl) ?_
  refine lv_iload hx hb dL_law_1485 (lv_at hl 0 rfl) ?_
  refine lv_iconst (v := 2) hx hb dL_law_1487 rfl ?_
  refine lv_iadd hx hb dL_law_1488 ?_
  refine va_sld hx hb hX hbl hbA hS j2 dL_law_1489 ?_
  obtain ⟨r, C2, R2, e1, e2, hT2⟩ : FT C R (f_X11_trees C 1 (xs (nI i + 1).toNatClampNeg) (xs (nI i + 2).toNatClampNeg)) (f_X13_trees R 118 (xs (nI i + 1).toNatClampNeg) (xs (nI i + 2).toNatClampNeg)) := (q_trees hS0 hI0.ir (xs (nI i + 1).toNatClampNeg) (xs (nI i + 2).toNatClampNeg)).top hT
  refine lwC_i (Z := r) (C2 := C2) h (va_runV (As := [.int (xs (nI i + 1).toNatClampNeg), .int (xs (nI i + 2).toNatClampNeg)]) (rest := []) ⟨hx, hb, hml, hown, hts⟩ (c_X11_trees (l := l) C 1 (xs (nI i + 1).toNatClampNeg) (xs (nI i + 2).toNatClampNeg) h.2.2.2.2.2.2.2.1.1 e1) (cwV 2 hts gL_law_X11_trees rfl rfl rfl hdV_X11_trees ⟨Nat.le_of_ble_eq_true rfl, Nat.le_of_ble_eq_true rfl⟩) (pC h hK hG) rfl rfl hl.1 rfl (lv_room (Nat.le_of_ble_eq_true rfl)) dL_law_1490 ⟨by show cells + 0 ≤ 601024; omega, by show slots + 0 ≤ 7293034; omega⟩) (fun H locs h => ?_)
  have hS := h.2.2.2.2.1
  refine lv_aload_n hx hb dL_law_1493 rfl (lv_at hl 3 rfl) ?_
  refine lv_aload_n hx hb dL_law_1494 rfl (lv_at hl 1 rfl) ?_
  refine lv_iload hx hb dL_law_1495 (lv_at hl 0 rfl) ?_
  refine lv_iconst (v := 1) hx hb dL_law_1497 rfl ?_
  refine lv_iadd hx hb dL_law_1498 ?_
  refine va_sld hx hb hX hbl hbA hS j1 dL_law_1499 ?_
  refine lv_aload_n hx hb dL_law_1500 rfl (lv_at hl 1 rfl) ?_
  refine lv_iload hx hb dL_law_1501 (lv_at hl 0 rfl) ?_
  refine lv_iconst (v := 2) hx hb dL_law_1503 rfl ?_
  refine lv_iadd hx hb dL_law_1504 ?_
  refine va_sld hx hb hX hbl hbA hS j2 dL_law_1505 ?_
  refine lwR_i (Z := r) (R2 := R2) h (va_runV (As := [.int (xs (nI i + 1).toNatClampNeg), .int (xs (nI i + 2).toNatClampNeg)]) (rest := [.int r]) ⟨hx, hb, hml, hown, hts⟩ (c_X13_trees (l := l) R 118 (xs (nI i + 1).toNatClampNeg) (xs (nI i + 2).toNatClampNeg) h.2.2.2.2.2.2.2.2.1.1 e2) (cwV 2 hts gL_law_X13_trees rfl rfl rfl hdV_X13_trees ⟨Nat.le_of_ble_eq_true rfl, Nat.le_of_ble_eq_true rfl⟩) (pR0 h hK hG) rfl rfl hl.1 rfl (lv_room (Nat.le_of_ble_eq_true rfl)) dL_law_1506 ⟨by show cells + 0 ≤ 601024; omega, by show slots + 0 ≤ 7293034; omega⟩) (fun H locs h => ?_)
  have hS := h.2.2.2.2.1
  refine lv_icmp_eq (tgt := 1824) hx hb dL_law_1509 rfl (fun _ => ?_) (fun c => absurd rfl c)
  refine W.widen (k := cells + 33) (n := slots + 336) (by omega) (by omega) ?_
  exact kk adR gR0 top C2 R2 H locs ls h hT2 hl
