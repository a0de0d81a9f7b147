/-! THE LAW'S LOOP -/
theorem law_test {L i : Nat} (hL : L ≤ 3072) (hi : i ≤ 4000) : (Int32.ofNat L - 6 < nI i) ↔ L < i + 6 := by
  have e : (Int32.ofNat L - 6).toInt = (L : Int) - 6 := by
    rw [show Int32.ofNat L = nI L from rfl, show (6 : Int32) = nI 6 from rfl, Int32.toInt_sub, nI_toInt (by omega), nI_toInt (by omega), Int.bmod_def]
    omega
  rw [Int32.lt_iff_toInt_lt, e, nI_toInt (by omega)]
  omega
set_option maxHeartbeats 4000000 in
set_option maxRecDepth 100000 in
theorem law_switch {p : Program} {l : Launch} {e : Env} {s : State} {m : MethodId} {below : List Frame} {meth : Method} {c : Code} {cells slots b L : Nat} {xs : Nat → Int32} {D : va_G} {cy : Nat → ClassId} {q : SE} {adC adR : Nat → Nat} {gC gR0 : CG} {top : Nat} {C R : MM} {H : Heap} {locs : List Loc} {ls : Array Slot} {Q : State → Prop} {i : Nat} (hst : l.stackTraces = false) (K : LawC p s m c b L xs D cy q) (hcl : cells + 33 ≤ 601024) (hsl : slots + 336 ≤ 7293034) (hL : L ≤ 3072) (hi : i + 6 ≤ L) (h : LW D cy s (adC 1) (adR 118) (adC 118) adC gC adR gR0 top C R H locs) (hT : TOP C R) (hl : lv_has ls 7 [(4, .int (nI i)), (0, .ref b), (1, .ref (adC 1)), (2, .ref (adR 118)), (3, .ref (adC 118))])
    (kk : ∀ (adR2 : Nat → Nat) (gR2 : CG) (top2 : Nat) (C2 R2 : MM) (H2 : Heap) (locs2 : List Loc) (ls2 : Array Slot), LW D cy s (adC 1) (adR 118) (adC 118) adC gC adR2 gR2 top2 C2 R2 H2 locs2 → TOP C2 R2 → lv_has ls2 7 [(4, .int (nI i)), (0, .ref b), (1, .ref (adC 1)), (2, .ref (adR 118)), (3, .ref (adC 118))] → W p l e room_1 s m #[.ref b] below meth c H2 locs2 (cells + 33) (slots + 336) Q (F0 m 1824 ls2 [])) {x : Int32} : W p l e room_1 s m #[.ref b] below meth c H locs cells slots Q (F0 m 40 ls [.int x]) := by
  have hx := K.1
  have hb := K.2.1
  by_cases c_0 : x = 0
  · exact lv_tableIn (tgt := 244) (off := 204) hx hb dL_law_40 (by rw [c_0]; decide) (by rw [c_0]; decide) (by rw [c_0]; decide) rfl (law_c0 hst K hcl hsl hL hi h hT hl kk)
  by_cases c_1 : x = 1
  · exact lv_tableIn (tgt := 317) (off := 277) hx hb dL_law_40 (by rw [c_1]; decide) (by rw [c_1]; decide) (by rw [c_1]; decide) rfl (law_c1 hst K hcl hsl hL hi h hT hl kk)
  by_cases c_2 : x = 2
  · exact lv_tableIn (tgt := 342) (off := 302) hx hb dL_law_40 (by rw [c_2]; decide) (by rw [c_2]; decide) (by rw [c_2]; decide) rfl (law_c2 hst K hcl hsl hL hi h hT hl kk)
  by_cases c_3 : x = 3
  · exact lv_tableIn (tgt := 355) (off := 315) hx hb dL_law_40 (by rw [c_3]; decide) (by rw [c_3]; decide) (by rw [c_3]; decide) rfl (law_c3 hst K hcl hsl hL hi h hT hl kk)
  by_cases c_4 : x = 4
  · exact lv_tableIn (tgt := 368) (off := 328) hx hb dL_law_40 (by rw [c_4]; decide) (by rw [c_4]; decide) (by rw [c_4]; decide) rfl (law_c4 hst K hcl hsl hL hi h hT hl kk)
  by_cases c_5 : x = 5
  · exact lv_tableIn (tgt := 417) (off := 377) hx hb dL_law_40 (by rw [c_5]; decide) (by rw [c_5]; decide) (by rw [c_5]; decide) rfl (law_c5 hst K hcl hsl hL hi h hT hl kk)
  by_cases c_6 : x = 6
  · exact lv_tableIn (tgt := 466) (off := 426) hx hb dL_law_40 (by rw [c_6]; decide) (by rw [c_6]; decide) (by rw [c_6]; decide) rfl (law_c6 hst K hcl hsl hL hi h hT hl kk)
  by_cases c_7 : x = 7
  · exact lv_tableIn (tgt := 531) (off := 491) hx hb dL_law_40 (by rw [c_7]; decide) (by rw [c_7]; decide) (by rw [c_7]; decide) rfl (law_c7 hst K hcl hsl hL hi h hT hl kk)
  by_cases c_8 : x = 8
  · exact lv_tableIn (tgt := 580) (off := 540) hx hb dL_law_40 (by rw [c_8]; decide) (by rw [c_8]; decide) (by rw [c_8]; decide) rfl (law_c8 hst K hcl hsl hL hi h hT hl kk)
  by_cases c_9 : x = 9
  · exact lv_tableIn (tgt := 641) (off := 601) hx hb dL_law_40 (by rw [c_9]; decide) (by rw [c_9]; decide) (by rw [c_9]; decide) rfl (law_c9 hst K hcl hsl hL hi h hT hl kk)
  by_cases c_10 : x = 10
  · exact lv_tableIn (tgt := 690) (off := 650) hx hb dL_law_40 (by rw [c_10]; decide) (by rw [c_10]; decide) (by rw [c_10]; decide) rfl (law_c10 hst K hcl hsl hL hi h hT hl kk)
  by_cases c_11 : x = 11
  · exact lv_tableIn (tgt := 739) (off := 699) hx hb dL_law_40 (by rw [c_11]; decide) (by rw [c_11]; decide) (by rw [c_11]; decide) rfl (law_c11 hst K hcl hsl hL hi h hT hl kk)
  by_cases c_12 : x = 12
  · exact lv_tableIn (tgt := 776) (off := 736) hx hb dL_law_40 (by rw [c_12]; decide) (by rw [c_12]; decide) (by rw [c_12]; decide) rfl (law_c12 hst K hcl hsl hL hi h hT hl kk)
  by_cases c_13 : x = 13
  · exact lv_tableIn (tgt := 801) (off := 761) hx hb dL_law_40 (by rw [c_13]; decide) (by rw [c_13]; decide) (by rw [c_13]; decide) rfl (law_c13 hst K hcl hsl hL hi h hT hl kk)
  by_cases c_14 : x = 14
  · exact lv_tableIn (tgt := 862) (off := 822) hx hb dL_law_40 (by rw [c_14]; decide) (by rw [c_14]; decide) (by rw [c_14]; decide) rfl (law_c14 hst K hcl hsl hL hi h hT hl kk)
  by_cases c_15 : x = 15
  · exact lv_tableIn (tgt := 875) (off := 835) hx hb dL_law_40 (by rw [c_15]; decide) (by rw [c_15]; decide) (by rw [c_15]; decide) rfl (law_c15 hst K hcl hsl hL hi h hT hl kk)
  by_cases c_16 : x = 16
  · exact lv_tableIn (tgt := 900) (off := 860) hx hb dL_law_40 (by rw [c_16]; decide) (by rw [c_16]; decide) (by rw [c_16]; decide) rfl (law_c16 hst K hcl hsl hL hi h hT hl kk)
  by_cases c_17 : x = 17
  · exact lv_tableIn (tgt := 925) (off := 885) hx hb dL_law_40 (by rw [c_17]; decide) (by rw [c_17]; decide) (by rw [c_17]; decide) rfl (law_c17 hst K hcl hsl hL hi h hT hl kk)
  by_cases c_18 : x = 18
  · exact lv_tableIn (tgt := 950) (off := 910) hx hb dL_law_40 (by rw [c_18]; decide) (by rw [c_18]; decide) (by rw [c_18]; decide) rfl (law_c18 hst K hcl hsl hL hi h hT hl kk)
  by_cases c_19 : x = 19
  · exact lv_tableIn (tgt := 964) (off := 924) hx hb dL_law_40 (by rw [c_19]; decide) (by rw [c_19]; decide) (by rw [c_19]; decide) rfl (law_c19 hst K hcl hsl hL hi h hT hl kk)
  by_cases c_20 : x = 20
  · exact lv_tableIn (tgt := 1021) (off := 981) hx hb dL_law_40 (by rw [c_20]; decide) (by rw [c_20]; decide) (by rw [c_20]; decide) rfl (law_c20 hst K hcl hsl hL hi h hT hl kk)
  by_cases c_21 : x = 21
  · exact lv_tableIn (tgt := 1047) (off := 1007) hx hb dL_law_40 (by rw [c_21]; decide) (by rw [c_21]; decide) (by rw [c_21]; decide) rfl (law_c21 hst K hcl hsl hL hi h hT hl kk)
  by_cases c_22 : x = 22
  · exact lv_tableIn (tgt := 1060) (off := 1020) hx hb dL_law_40 (by rw [c_22]; decide) (by rw [c_22]; decide) (by rw [c_22]; decide) rfl (law_c22 hst K hcl hsl hL hi h hT hl kk)
  by_cases c_23 : x = 23
  · exact lv_tableIn (tgt := 1097) (off := 1057) hx hb dL_law_40 (by rw [c_23]; decide) (by rw [c_23]; decide) (by rw [c_23]; decide) rfl (law_c23 hst K hcl hsl hL hi h hT hl kk)
  by_cases c_24 : x = 24
  · exact lv_tableIn (tgt := 1134) (off := 1094) hx hb dL_law_40 (by rw [c_24]; decide) (by rw [c_24]; decide) (by rw [c_24]; decide) rfl (law_c24 hst K hcl hsl hL hi h hT hl kk)
  by_cases c_25 : x = 25
  · exact lv_tableIn (tgt := 1159) (off := 1119) hx hb dL_law_40 (by rw [c_25]; decide) (by rw [c_25]; decide) (by rw [c_25]; decide) rfl (law_c25 hst K hcl hsl hL hi h hT hl kk)
  by_cases c_26 : x = 26
  · exact lv_tableIn (tgt := 1172) (off := 1132) hx hb dL_law_40 (by rw [c_26]; decide) (by rw [c_26]; decide) (by rw [c_26]; decide) rfl (law_c26 hst K hcl hsl hL hi h hT hl kk)
  by_cases c_27 : x = 27
  · exact lv_tableIn (tgt := 1209) (off := 1169) hx hb dL_law_40 (by rw [c_27]; decide) (by rw [c_27]; decide) (by rw [c_27]; decide) rfl (law_c27 hst K hcl hsl hL hi h hT hl kk)
  by_cases c_28 : x = 28
  · exact lv_tableIn (tgt := 1246) (off := 1206) hx hb dL_law_40 (by rw [c_28]; decide) (by rw [c_28]; decide) (by rw [c_28]; decide) rfl (law_c28 hst K hcl hsl hL hi h hT hl kk)
  by_cases c_29 : x = 29
  · exact lv_tableIn (tgt := 1259) (off := 1219) hx hb dL_law_40 (by rw [c_29]; decide) (by rw [c_29]; decide) (by rw [c_29]; decide) rfl (law_c29 hst K hcl hsl hL hi h hT hl kk)
  by_cases c_30 : x = 30
  · exact lv_tableIn (tgt := 1272) (off := 1232) hx hb dL_law_40 (by rw [c_30]; decide) (by rw [c_30]; decide) (by rw [c_30]; decide) rfl (law_c30 hst K hcl hsl hL hi h hT hl kk)
  by_cases c_31 : x = 31
  · exact lv_tableIn (tgt := 1337) (off := 1297) hx hb dL_law_40 (by rw [c_31]; decide) (by rw [c_31]; decide) (by rw [c_31]; decide) rfl (law_c31 hst K hcl hsl hL hi h hT hl kk)
  by_cases c_32 : x = 32
  · exact lv_tableIn (tgt := 1402) (off := 1362) hx hb dL_law_40 (by rw [c_32]; decide) (by rw [c_32]; decide) (by rw [c_32]; decide) rfl (law_c32 hst K hcl hsl hL hi h hT hl kk)
  by_cases c_33 : x = 33
  · exact lv_tableIn (tgt := 1427) (off := 1387) hx hb dL_law_40 (by rw [c_33]; decide) (by rw [c_33]; decide) (by rw [c_33]; decide) rfl (law_c33 hst K hcl hsl hL hi h hT hl kk)
  by_cases c_34 : x = 34
  · exact lv_tableIn (tgt := 1452) (off := 1412) hx hb dL_law_40 (by rw [c_34]; decide) (by rw [c_34]; decide) (by rw [c_34]; decide) rfl (law_c34 hst K hcl hsl hL hi h hT hl kk)
  by_cases c_35 : x = 35
  · exact lv_tableIn (tgt := 1477) (off := 1437) hx hb dL_law_40 (by rw [c_35]; decide) (by rw [c_35]; decide) (by rw [c_35]; decide) rfl (law_c35 hst K hcl hsl hL hi h hT hl kk)
  by_cases c_36 : x = 36
  · exact lv_tableIn (tgt := 1514) (off := 1474) hx hb dL_law_40 (by rw [c_36]; decide) (by rw [c_36]; decide) (by rw [c_36]; decide) rfl (law_c36 hst K hcl hsl hL hi h hT hl kk)
  by_cases c_37 : x = 37
  · exact lv_tableIn (tgt := 1563) (off := 1523) hx hb dL_law_40 (by rw [c_37]; decide) (by rw [c_37]; decide) (by rw [c_37]; decide) rfl (law_c37 hst K hcl hsl hL hi h hT hl kk)
  by_cases c_38 : x = 38
  · exact lv_tableIn (tgt := 1576) (off := 1536) hx hb dL_law_40 (by rw [c_38]; decide) (by rw [c_38]; decide) (by rw [c_38]; decide) rfl (law_c38 hst K hcl hsl hL hi h hT hl kk)
  by_cases c_39 : x = 39
  · exact lv_tableIn (tgt := 1589) (off := 1549) hx hb dL_law_40 (by rw [c_39]; decide) (by rw [c_39]; decide) (by rw [c_39]; decide) rfl (law_c39 hst K hcl hsl hL hi h hT hl kk)
  by_cases c_40 : x = 40
  · exact lv_tableIn (tgt := 1602) (off := 1562) hx hb dL_law_40 (by rw [c_40]; decide) (by rw [c_40]; decide) (by rw [c_40]; decide) rfl (law_c40 hst K hcl hsl hL hi h hT hl kk)
  by_cases c_41 : x = 41
  · exact lv_tableIn (tgt := 1627) (off := 1587) hx hb dL_law_40 (by rw [c_41]; decide) (by rw [c_41]; decide) (by rw [c_41]; decide) rfl (law_c41 hst K hcl hsl hL hi h hT hl kk)
  by_cases c_42 : x = 42
  · exact lv_tableIn (tgt := 1640) (off := 1600) hx hb dL_law_40 (by rw [c_42]; decide) (by rw [c_42]; decide) (by rw [c_42]; decide) rfl (law_c42 hst K hcl hsl hL hi h hT hl kk)
  by_cases c_43 : x = 43
  · exact lv_tableIn (tgt := 1681) (off := 1641) hx hb dL_law_40 (by rw [c_43]; decide) (by rw [c_43]; decide) (by rw [c_43]; decide) rfl (law_c43 hst K hcl hsl hL hi h hT hl kk)
  by_cases c_44 : x = 44
  · exact lv_tableIn (tgt := 1749) (off := 1709) hx hb dL_law_40 (by rw [c_44]; decide) (by rw [c_44]; decide) (by rw [c_44]; decide) rfl (law_c44 hst K hcl hsl hL hi h hT hl kk)
  by_cases c_45 : x = 45
  · exact lv_tableIn (tgt := 1774) (off := 1734) hx hb dL_law_40 (by rw [c_45]; decide) (by rw [c_45]; decide) (by rw [c_45]; decide) rfl (law_c45 hst K hcl hsl hL hi h hT hl kk)
  by_cases c_46 : x = 46
  · exact lv_tableIn (tgt := 1811) (off := 1771) hx hb dL_law_40 (by rw [c_46]; decide) (by rw [c_46]; decide) (by rw [c_46]; decide) rfl (law_c46 hst K hcl hsl hL hi h hT hl kk)
  refine lv_tableOut (tgt := 1824) hx hb dL_law_40 (by
    have e0 := lv_neT (a := 0) c_0 rfl
    have e1 := lv_neT (a := 1) c_1 rfl
    have e2 := lv_neT (a := 2) c_2 rfl
    have e3 := lv_neT (a := 3) c_3 rfl
    have e4 := lv_neT (a := 4) c_4 rfl
    have e5 := lv_neT (a := 5) c_5 rfl
    have e6 := lv_neT (a := 6) c_6 rfl
    have e7 := lv_neT (a := 7) c_7 rfl
    have e8 := lv_neT (a := 8) c_8 rfl
    have e9 := lv_neT (a := 9) c_9 rfl
    have e10 := lv_neT (a := 10) c_10 rfl
    have e11 := lv_neT (a := 11) c_11 rfl
    have e12 := lv_neT (a := 12) c_12 rfl
    have e13 := lv_neT (a := 13) c_13 rfl
    have e14 := lv_neT (a := 14) c_14 rfl
    have e15 := lv_neT (a := 15) c_15 rfl
    have e16 := lv_neT (a := 16) c_16 rfl
    have e17 := lv_neT (a := 17) c_17 rfl
    have e18 := lv_neT (a := 18) c_18 rfl
    have e19 := lv_neT (a := 19) c_19 rfl
    have e20 := lv_neT (a := 20) c_20 rfl
    have e21 := lv_neT (a := 21) c_21 rfl
    have e22 := lv_neT (a := 22) c_22 rfl
    have e23 := lv_neT (a := 23) c_23 rfl
    have e24 := lv_neT (a := 24) c_24 rfl
    have e25 := lv_neT (a := 25) c_25 rfl
    have e26 := lv_neT (a := 26) c_26 rfl
    have e27 := lv_neT (a := 27) c_27 rfl
    have e28 := lv_neT (a := 28) c_28 rfl
    have e29 := lv_neT (a := 29) c_29 rfl
    have e30 := lv_neT (a := 30) c_30 rfl
    have e31 := lv_neT (a := 31) c_31 rfl
    have e32 := lv_neT (a := 32) c_32 rfl
    have e33 := lv_neT (a := 33) c_33 rfl
    have e34 := lv_neT (a := 34) c_34 rfl
    have e35 := lv_neT (a := 35) c_35 rfl
    have e36 := lv_neT (a := 36) c_36 rfl
    have e37 := lv_neT (a := 37) c_37 rfl
    have e38 := lv_neT (a := 38) c_38 rfl
    have e39 := lv_neT (a := 39) c_39 rfl
    have e40 := lv_neT (a := 40) c_40 rfl
    have e41 := lv_neT (a := 41) c_41 rfl
    have e42 := lv_neT (a := 42) c_42 rfl
    have e43 := lv_neT (a := 43) c_43 rfl
    have e44 := lv_neT (a := 44) c_44 rfl
    have e45 := lv_neT (a := 45) c_45 rfl
    have e46 := lv_neT (a := 46) c_46 rfl
    omega) rfl ?_
  refine W.widen (k := cells + 33) (n := slots + 336) (by omega) (by omega) ?_
  exact kk adR gR0 top C R H locs ls h hT hl
set_option maxHeartbeats 4000000 in
set_option maxRecDepth 100000 in
theorem law_loop {p : Program} {l : Launch} {e : Env} {s : State} {m : MethodId} {below : List Frame} {meth : Method} {c : Code} {b L : Nat} {xs : Nat → Int32} {D : va_G} {cy : Nat → ClassId} {q : SE} {adC : Nat → Nat} {gC : CG} {x0 m0 o0 : Nat} (hst : l.stackTraces = false) (K : LawC p s m c b L xs D cy q) (hr : meth.sig.returnType = ret) (hlocks : meth.locks = false) (hL : L ≤ 3072) (hx0 : adC 1 = x0) (ho0 : adC 118 = o0) :
    ∀ (d i cells slots : Nat) (adR : Nat → Nat) (gR0 : CG) (top : Nat) (C R : MM) (H : Heap) (locs : List Loc) (ls : Array Slot), i ≤ 4000 → L + 6 ≤ i + 6 * d → cells + 33 * d ≤ 601024 → slots + 336 * d ≤ 7293034 → LW D cy s x0 m0 o0 adC gC adR gR0 top C R H locs → TOP C R → lv_has ls 7 [(4, .int (nI i)), (0, .ref b), (1, .ref x0), (2, .ref m0), (3, .ref o0)] → W p l e room_1 s m #[Value.ref b] below meth c H locs cells slots (lw_Z below #[Value.ref b] s) (F0 m 23 ls []) := by
  obtain ⟨hx, hb, hml, hown, hts, hX, hbl, hK, hG, hLX⟩ := id K
  have hbA : ¬ lwA s b := Nat.not_le.mpr hbl
  subst hx0; subst ho0
  intro d
  induction d with
  | zero =>
    intro i cells slots adR gR0 top C R H locs ls hi hd hcl hsl h hT hl
    have hS := h.2.2.2.2.1
    refine lv_iload hx hb dL_law_23 (lv_at hl 0 rfl) ?_
    refine lv_aload_n hx hb dL_law_25 rfl (lv_at hl 1 rfl) ?_
    refine va_slen hx hb hX hbl hbA hS dL_law_26 ?_
    refine lv_bipush (v := 6) hx hb dL_law_27 (by decide) ?_
    refine lv_isub hx hb dL_law_29 ?_
    refine lv_icmp_gt (tgt := 1830) hx hb dL_law_30 rfl (fun _ => ?_) (fun ct => absurd ((law_test hL hi).mpr (by omega)) ct)
    refine lv_iconst (v := 1) hx hb dL_law_1830 (by decide) ?_
    refine va_forget (fun q hq => hS.2.2 q hq) ?_
    refine W.widen (k := 601024) (n := 7293034) (by omega) (by omega) ?_
    exact lw_ret hx hb hr hlocks dL_law_1831
  | succ d ih =>
    intro i cells slots adR gR0 top C R H locs ls hi hd hcl hsl h hT hl
    have hS := h.2.2.2.2.1
    refine lv_iload hx hb dL_law_23 (lv_at hl 0 rfl) ?_
    refine lv_aload_n hx hb dL_law_25 rfl (lv_at hl 1 rfl) ?_
    refine va_slen hx hb hX hbl hbA hS dL_law_26 ?_
    refine lv_bipush (v := 6) hx hb dL_law_27 (by decide) ?_
    refine lv_isub hx hb dL_law_29 ?_
    refine lv_icmp_gt (tgt := 1830) hx hb dL_law_30 rfl (fun _ => ?_) (fun ct => ?_)
    · refine lv_iconst (v := 1) hx hb dL_law_1830 (by decide) ?_
      refine va_forget (fun q hq => hS.2.2 q hq) ?_
      refine W.widen (k := 601024) (n := 7293034) (by omega) (by omega) ?_
      exact lw_ret hx hb hr hlocks dL_law_1831
    · have hi6 : i + 6 ≤ L := by
        rcases Nat.lt_or_ge L (i + 6) with z | z
        · exact absurd ((law_test hL hi).mpr z) ct
        · exact z
      have j0 : vp_in (nI i) L := vp_in_nI (by omega) (by omega)
      refine lv_aload_n hx hb dL_law_33 rfl (lv_at hl 1 rfl) ?_
      refine lv_iload hx hb dL_law_34 (lv_at hl 0 rfl) ?_
      refine va_sld hx hb hX hbl hbA hS j0 dL_law_36 ?_
      refine lv_bipush (v := 63) hx hb dL_law_37 (by decide) ?_
      refine lv_iand hx hb dL_law_39 ?_
      obtain rfl : adR 118 = m0 := h.2.2.2.2.2.2.2.2.1.2
      refine law_switch hst K (by omega) (by omega) hL hi6 h hT hl (fun adR2 gR2 top2 C2 R2 H2 locs2 ls2 h2 hT2 hl2 => ?_)
      refine lv_iinc (v := nI (i + 6)) (lv' := [(4, .int (nI (i + 6))), (0, .ref b), (1, .ref (adC 1)), (2, .ref (adR 118)), (3, .ref (adC 118))]) hx hb dL_law_1824 hl2 (k := 0) rfl (nI_add i 6) (by decide) rfl (fun ls hl => ?_)
      refine lv_goto (tgt := 23) hx hb dL_law_1827 rfl ?_
      exact ih (i + 6) (cells + 33) (slots + 336) adR2 gR2 top2 C2 R2 H2 locs2 ls (by omega) (by omega) (by omega) (by omega) h2 hT2 hl
