def f_X0_clear_L2 : Nat → MM → Nat → Int32 → Option MM
  | 0, _, _, _ => none
  | n1 + 1, M1, y1_0, y1_1 =>
    oc (gR M1 y1_0 7) none (fun b2 => if 10 ≤ y1_1 then (some (pI M1 y1_0 8 0)) else (oc (gR M1 y1_0 7) none (fun b4 => chk (y1_1 < 0 ∨ 10 ≤ ix y1_1) (f_X0_clear_L2 n1 (pI M1 b4 (ix y1_1) 0) y1_0 (y1_1 + 1)))))
def f_X0_clear (M : MM) (a0 : Nat) : Option MM :=
  f_X0_clear_L2 FU M a0 0
def f_X11_entry (M : MM) (a0 : Nat) (n0 : Nat) (x1 : Int32) : Option Int32 :=
  if x1 < 0 then (some 0) else (if (nI n0) ≤ x1 then (some 0) else (chk (x1 < 0 ∨ n0 ≤ ix x1) (some (gI M a0 (ix x1)))))
def f_X11_entry_s (M : MM) (t0 : Nat) (x1 : Int32) : Option Int32 :=
  if x1 < 0 then (some 0) else (if (nI (stl t0)) ≤ x1 then (some 0) else (chk (x1 < 0 ∨ stl t0 ≤ ix x1) (some (stv t0 (ix x1)))))
def f_X0_count (M : MM) (a0 : Nat) (x1 : Int32) : Option Int32 :=
  oc (gR M a0 7) none (fun b1 => ob (f_X11_entry M b1 10 x1) (fun z2 => some z2))
def f_X0_add (M : MM) (a0 : Nat) (x1 : Int32) : Option (Int32 × MM) :=
  ob (f_X0_count M a0 x1) (fun z1 => if x1 < 0 then (some ((-1), M)) else (oc (gR M a0 7) none (fun b3 => if 10 ≤ x1 then (some ((-1), M)) else (ob (f_X11_entry_s M 0 x1) (fun z5 => if z1 < z5 then (oc (gR M a0 7) none (fun b7 => chk (x1 < 0 ∨ 10 ≤ ix x1) (some (z1, pI M b7 (ix x1) (z1 + 1))))) else (some ((-1), M)))))))
def f_X0_has (M : MM) (a0 : Nat) (x1 : Int32) (x2 : Int32) : Option Int32 :=
  if x2 < 0 then (some 0) else (ob (f_X0_count M a0 x1) (fun z2 => if z2 ≤ x2 then (some 0) else (some 1)))
def f_X0_isBare (M : MM) (a0 : Nat) : Option Int32 :=
  ob (f_X0_count M a0 2) (fun z1 => if z1 = 0 then (some 1) else (some 0))
def f_X0_lacksAny (M : MM) (a0 : Nat) : Option Int32 :=
  ob (f_X0_count M a0 0) (fun z1 => if z1 = 0 then (some 1) else (ob (f_X0_count M a0 1) (fun z3 => if z3 = 0 then (some 1) else (ob (f_X0_count M a0 2) (fun z5 => if z5 = 0 then (some 1) else (some 0))))))
def f_X0_wayAt (M : MM) (a0 : Nat) (x1 : Int32) : Option (Option Nat) :=
  if x1 < 0 then (some none) else (oc (gR M a0 7) none (fun b2 => if (gI M b2 (ix 0)) ≤ x1 then (some none) else (oc (gR M a0 0) none (fun b4 => if 4 ≤ x1 then (some none) else (oc (gR M a0 0) none (fun b6 => chk (x1 < 0 ∨ 4 ≤ ix x1) (oc (gR M b6 (ix x1)) none (fun b7 => some (some b7)))))))))
def f_X0_roadAt (M : MM) (a0 : Nat) (x1 : Int32) : Option (Option Nat) :=
  if x1 < 0 then (some none) else (oc (gR M a0 7) none (fun b2 => if (gI M b2 (ix 1)) ≤ x1 then (some none) else (oc (gR M a0 1) none (fun b4 => if 3 ≤ x1 then (some none) else (oc (gR M a0 1) none (fun b6 => chk (x1 < 0 ∨ 3 ≤ ix x1) (oc (gR M b6 (ix x1)) none (fun b7 => some (some b7)))))))))
def f_X0_statueAt (M : MM) (a0 : Nat) (x1 : Int32) : Option (Option Nat) :=
  if x1 < 0 then (some none) else (oc (gR M a0 7) none (fun b2 => if (gI M b2 (ix 2)) ≤ x1 then (some none) else (oc (gR M a0 2) none (fun b4 => if 10 ≤ x1 then (some none) else (oc (gR M a0 2) none (fun b6 => chk (x1 < 0 ∨ 10 ≤ ix x1) (oc (gR M b6 (ix x1)) none (fun b7 => some (some b7)))))))))
def f_X0_trialAt (M : MM) (a0 : Nat) (x1 : Int32) : Option (Option Nat) :=
  if x1 < 0 then (some none) else (oc (gR M a0 7) none (fun b2 => if (gI M b2 (ix 3)) ≤ x1 then (some none) else (oc (gR M a0 3) none (fun b4 => if 5 ≤ x1 then (some none) else (oc (gR M a0 3) none (fun b6 => chk (x1 < 0 ∨ 5 ≤ ix x1) (oc (gR M b6 (ix x1)) none (fun b7 => some (some b7)))))))))
def f_X0_storyAt (M : MM) (a0 : Nat) (x1 : Int32) : Option (Option Nat) :=
  if x1 < 0 then (some none) else (oc (gR M a0 7) none (fun b2 => if (gI M b2 (ix 4)) ≤ x1 then (some none) else (oc (gR M a0 4) none (fun b4 => if 5 ≤ x1 then (some none) else (oc (gR M a0 4) none (fun b6 => chk (x1 < 0 ∨ 5 ≤ ix x1) (oc (gR M b6 (ix x1)) none (fun b7 => some (some b7)))))))))
def f_X0_tellerAt (M : MM) (a0 : Nat) (x1 : Int32) : Option (Option Nat) :=
  if x1 < 0 then (some none) else (oc (gR M a0 7) none (fun b2 => if (gI M b2 (ix 5)) ≤ x1 then (some none) else (oc (gR M a0 5) none (fun b4 => if 3 ≤ x1 then (some none) else (oc (gR M a0 5) none (fun b6 => chk (x1 < 0 ∨ 3 ≤ ix x1) (oc (gR M b6 (ix x1)) none (fun b7 => some (some b7)))))))))
def f_X0_thingAt (M : MM) (a0 : Nat) (x1 : Int32) : Option (Option Nat) :=
  if x1 < 0 then (some none) else (oc (gR M a0 7) none (fun b2 => if (gI M b2 (ix 6)) ≤ x1 then (some none) else (oc (gR M a0 6) none (fun b4 => if 5 ≤ x1 then (some none) else (oc (gR M a0 6) none (fun b6 => chk (x1 < 0 ∨ 5 ≤ ix x1) (oc (gR M b6 (ix x1)) none (fun b7 => some (some b7)))))))))
def f_X3_slopeAt (M : MM) (a0 : Nat) (x1 : Int32) : Option Int32 :=
  oc (gR M a0 2) none (fun b1 => ob (f_X11_entry M b1 6 x1) (fun z2 => some z2))
def f_X10_carries (M : MM) (a0 : Nat) (a1 : Nat) (x2 : Int32) : Option Int32 :=
  if (gI M a0 0) = 0 then (if (gI M a1 1) < 5 then (some 0) else (if 25 < (gI M a1 1) then (some 0) else (if (gI M a1 2) < 3 then (some 0) else (if ((gI M a1 1) / 2) < x2 then (some 0) else (if x2 < (-((gI M a1 1) / 4)) then (some 0) else (some 1)))))) else (if (gI M a0 0) = 1 then (if x2 < (-6) then (some 0) else (if 8 < x2 then (some 0) else (some 1))) else (if (gI M a0 0) = 2 then (if 30 < (gI M a1 0) then (some 0) else (if x2 < (-3) then (some 0) else (if 5 < x2 then (some 0) else (some 1)))) else (if 20 < (gI M a1 0) then (some 0) else (if 12 < x2 then (some 0) else (some 1)))))
def f_X10_passable_L5 : Nat → MM → Nat → Nat → Nat → Int32 → Int32 → Option Int32
  | 0, _, _, _, _, _, _ => none
  | n1 + 1, M, y1_0, y1_1, y1_2, y1_3, y1_4 =>
    if (gI M y1_2 1) ≤ y1_4 then (some y1_3) else (ob (f_X3_slopeAt M y1_2 y1_4) (fun z3 => ob (f_X10_carries M y1_0 y1_1 z3) (fun z4 => if z4 = 0 then (f_X10_passable_L5 n1 M y1_0 y1_1 y1_2 y1_3 (y1_4 + 1)) else (f_X10_passable_L5 n1 M y1_0 y1_1 y1_2 (y1_3 ||| (1 <<< (y1_4 &&& 31))) (y1_4 + 1)))))
def f_X10_passable (M : MM) (a0 : Nat) (a1 : Nat) (a2 : Nat) : Option Int32 :=
  f_X10_passable_L5 FU M a0 a1 a2 0 0
def f_X11_upwards (M : MM) (x0 : Int32) (x1 : Int32) : Option Int32 :=
  if x1 ≤ 0 then (some 0) else (chk (x1 = 0) (some (((x0 + x1) - 1) / x1)))
def f_X10_hands (M : MM) (a0 : Nat) (x1 : Int32) (x2 : Int32) : Option Int32 :=
  ob (f_X11_entry_s M 1 (gI M a0 0)) (fun z1 => ob (f_X11_upwards M (((x1 * 10) * z1) * (100 + (5 * (if x2 < 0 then 0 else x2)))) (100 * (gI M a0 2))) (fun z2 => some z2))
def f_X10_handsAlong_L5 : Nat → MM → Nat → Int32 → Nat → Int32 → Int32 → Option Int32
  | 0, _, _, _, _, _, _ => none
  | n1 + 1, M, y1_0, y1_1, y1_2, y1_3, y1_4 =>
    if (gI M y1_2 1) ≤ y1_4 then (some y1_3) else (ob (f_X3_slopeAt M y1_2 y1_4) (fun z3 => ob (f_X10_hands M y1_0 y1_1 z3) (fun z4 => f_X10_handsAlong_L5 n1 M y1_0 y1_1 y1_2 (if y1_3 < z4 then z4 else y1_3) (y1_4 + 1))))
def f_X10_handsAlong (M : MM) (a0 : Nat) (x1 : Int32) (a2 : Nat) : Option Int32 :=
  f_X10_handsAlong_L5 FU M a0 x1 a2 0 0
def f_X0_easiestWay_L19 : Nat → MM → Nat → Nat → Nat → Int32 → Int32 → Int32 → Int32 → Option Int32
  | 0, _, _, _, _, _, _, _, _ => none
  | n1 + 1, M, y1_0, y1_1, y1_2, y1_3, y1_4, y1_5, y1_6 =>
    ob (f_X0_count M y1_0 0) (fun z2 => if z2 ≤ y1_6 then (some y1_4) else (ob (f_X0_wayAt M y1_0 y1_6) (fun z4 => oc z4 (f_X0_easiestWay_L19 n1 M y1_0 y1_1 y1_2 y1_3 y1_4 y1_5 (y1_6 + 1)) (fun b4 => ob (f_X10_passable M b4 y1_1 y1_2) (fun z5 => if z5 = y1_3 then (ob (f_X10_handsAlong M b4 (gI M y1_1 0) y1_2) (fun z7 => if y1_4 = (-2) then (f_X0_easiestWay_L19 n1 M y1_0 y1_1 y1_2 y1_3 y1_6 z7 (y1_6 + 1)) else (if y1_5 ≤ z7 then (f_X0_easiestWay_L19 n1 M y1_0 y1_1 y1_2 y1_3 y1_4 y1_5 (y1_6 + 1)) else (f_X0_easiestWay_L19 n1 M y1_0 y1_1 y1_2 y1_3 y1_6 z7 (y1_6 + 1))))) else (f_X0_easiestWay_L19 n1 M y1_0 y1_1 y1_2 y1_3 y1_4 y1_5 (y1_6 + 1)))))))
def f_X0_easiestWay (M : MM) (a0 : Nat) (a1 : Nat) (a2 : Nat) : Option Int32 :=
  f_X0_easiestWay_L19 FU M a0 a1 a2 ((1 <<< ((gI M a2 1) &&& 31)) - 1) (-2) 0 0
def f_X5_isLying (M : MM) (a0 : Nat) : Option Int32 :=
  if (gI M a0 3) = 5 then (some 1) else (some 0)
def f_J6_compare_7cf53 (M : MM) (x0 : Int32) (x1 : Int32) : Option Int32 :=
  if x1 ≤ x0 then (if x0 = x1 then (some 0) else (some 1)) else (some (-1))
def f_X10_tenths (M : MM) (a0 : Nat) (x1 : Int32) (x2 : Int32) : Option Int32 :=
  ob (f_J6_compare_7cf53 M x1 0) (fun z1 => ob (f_X11_entry_s M 6 (((((gI M a0 0) * 3) + (z1 + 1)) * 3) + x2)) (fun z2 => some z2))
def f_X10_hollowed (M : MM) (a0 : Nat) (x1 : Int32) : Option Int32 :=
  ob (f_X11_entry_s M 5 (gI M a0 0)) (fun z1 => if x1 < 3 then (some (10 - z1)) else (some z1))
def f_X8_means (M : MM) (a0 : Nat) (x1 : Int32) : Option Int32 :=
  if x1 < 0 then (some 0) else (if (((gI M a0 1) >>> (x1 &&& 31)) &&& 1) = 1 then (some 1) else (some 0))
def f_X8_favour (M : MM) (a0 : Nat) (x1 : Int32) : Option Int32 :=
  if (gI M a0 0) = 0 then (ob (f_X8_means M a0 x1) (fun z2 => if z2 = 0 then (some 4) else (some 6))) else (some 5)
def f_X0_meanLean_L8 : Nat → MM → Nat → Int32 → Int32 → Int32 → Int32 → Int32 → Option Int32
  | 0, _, _, _, _, _, _, _ => none
  | n1 + 1, M, y1_0, y1_1, y1_2, y1_3, y1_4, y1_5 =>
    ob (f_X0_count M y1_0 2) (fun z2 => if z2 ≤ y1_5 then (if y1_4 ≤ 0 then (some (-1)) else (chk (y1_4 = 0) (some (y1_3 / y1_4)))) else (ob (f_X0_statueAt M y1_0 y1_5) (fun z6 => oc z6 (f_X0_meanLean_L8 n1 M y1_0 y1_1 y1_2 y1_3 y1_4 (y1_5 + 1)) (fun b6 => if (gI M b6 3) = y1_1 then (if y1_5 = y1_2 then (f_X0_meanLean_L8 n1 M y1_0 y1_1 y1_2 y1_3 y1_4 (y1_5 + 1)) else (f_X0_meanLean_L8 n1 M y1_0 y1_1 y1_2 (y1_3 + (gI M b6 1)) (y1_4 + 1) (y1_5 + 1))) else (f_X0_meanLean_L8 n1 M y1_0 y1_1 y1_2 y1_3 y1_4 (y1_5 + 1))))))
def f_X0_meanLean (M : MM) (a0 : Nat) (x1 : Int32) (x2 : Int32) : Option Int32 :=
  f_X0_meanLean_L8 FU M a0 x1 x2 0 0 0
def f_X0_leanChange (M : MM) (a0 : Nat) (x1 : Int32) : Option Int32 :=
  ob (f_X0_meanLean M a0 5 x1) (fun z1 => ob (f_X0_meanLean M a0 3 x1) (fun z2 => if z1 = (-1) then (some (-1000)) else (if z2 = (-1) then (some (-1000)) else (some (z1 - z2)))))
def f_X10_shaped (M : MM) (a0 : Nat) (x1 : Int32) : Option Int32 :=
  if x1 = (-1000) then (some 1) else (if x1 < 5 then (if (gI M a0 0) = 0 then (some 2) else (some 6)) else (if (gI M a0 0) = 0 then (some 9) else (some 3)))
def f_X0_oddsOf_L135 (K2 : MM → Nat → Int32 → Int32 → Nat → Int64 → Int32 → Option Int64) (K5 : MM → Nat → Int32 → Int32 → Nat → Int64 → Int32 → Option Int64) : Nat → MM → Nat → Int32 → Int32 → Nat → Int64 → Int32 → Option Int64
  | 0, _, _, _, _, _, _, _ => none
  | n8 + 1, M, y8_0, y8_1, y8_2, y8_3, y8_4, y8_6 =>
    ob (f_X0_count M y8_0 5) (fun z9 => if z9 ≤ y8_6 then (ob (f_X0_leanChange M y8_0 y8_2) (fun z11 => ob (f_X10_shaped M y8_3 z11) (fun z12 => some (y8_4 * z12.toInt64)))) else (ob (f_X0_tellerAt M y8_0 y8_6) (fun z13 => oc z13 (f_X0_oddsOf_L135 K2 K5 n8 M y8_0 y8_1 y8_2 y8_3 y8_4 (y8_6 + 1)) (fun b13 => ob (f_X8_favour M b13 y8_1) (fun z14 => f_X0_oddsOf_L135 K2 K5 n8 M y8_0 y8_1 y8_2 y8_3 (y8_4 * z14.toInt64) (y8_6 + 1))))))
def f_X0_oddsOf_L88 (K2 : MM → Nat → Int32 → Int32 → Nat → Int64 → Int32 → Option Int64) : Nat → MM → Nat → Int32 → Int32 → Nat → Int64 → Int32 → Option Int64
  | 0, _, _, _, _, _, _, _ => none
  | n5 + 1, M, y5_0, y5_1, y5_2, y5_3, y5_4, y5_6 =>
    ob (f_X0_count M y5_0 1) (fun z6 => if z6 ≤ y5_6 then (f_X0_oddsOf_L135 K2 (fun M y5_0 y5_1 y5_2 y5_3 y5_4 y5_6 => f_X0_oddsOf_L88 K2 n5 M y5_0 y5_1 y5_2 y5_3 y5_4 y5_6) FU M y5_0 y5_1 y5_2 y5_3 y5_4 0) else (ob (f_X0_roadAt M y5_0 y5_6) (fun z15 => oc z15 (f_X0_oddsOf_L88 K2 n5 M y5_0 y5_1 y5_2 y5_3 y5_4 (y5_6 + 1)) (fun b15 => ob (f_X10_hollowed M y5_3 (gI M b15 0)) (fun z16 => f_X0_oddsOf_L88 K2 n5 M y5_0 y5_1 y5_2 y5_3 (y5_4 * z16.toInt64) (y5_6 + 1))))))
def f_X0_oddsOf_L22 : Nat → MM → Nat → Int32 → Int32 → Nat → Int64 → Int32 → Option Int64
  | 0, _, _, _, _, _, _, _ => none
  | n2 + 1, M, y2_0, y2_1, y2_2, y2_3, y2_4, y2_6 =>
    ob (f_X0_count M y2_0 2) (fun z3 => if z3 ≤ y2_6 then (f_X0_oddsOf_L88 (fun M y2_0 y2_1 y2_2 y2_3 y2_4 y2_6 => f_X0_oddsOf_L22 n2 M y2_0 y2_1 y2_2 y2_3 y2_4 y2_6) FU M y2_0 y2_1 y2_2 y2_3 y2_4 0) else (ob (f_X0_statueAt M y2_0 y2_6) (fun z17 => oc z17 (f_X0_oddsOf_L22 n2 M y2_0 y2_1 y2_2 y2_3 y2_4 (y2_6 + 1)) (fun b17 => ob (f_X5_isLying M b17) (fun z18 => if z18 = 0 then (f_X0_oddsOf_L22 n2 M y2_0 y2_1 y2_2 y2_3 y2_4 (y2_6 + 1)) else (if y2_6 = y2_2 then (f_X0_oddsOf_L22 n2 M y2_0 y2_1 y2_2 y2_3 y2_4 (y2_6 + 1)) else (ob (f_X10_tenths M y2_3 (gI M b17 7) (gI M b17 4)) (fun z21 => f_X0_oddsOf_L22 n2 M y2_0 y2_1 y2_2 y2_3 (y2_4 * z21.toInt64) (y2_6 + 1)))))))))
def f_X0_oddsOf (M : MM) (a0 : Nat) (x1 : Int32) (x2 : Int32) : Option Int64 :=
  ob (f_X0_wayAt M a0 x1) (fun z1 => oc z1 (some 0) (fun b1 => f_X0_oddsOf_L22 FU M a0 x1 x2 b1 ((gI M b1 1).toInt64) 0))
def f_X0_oddsOfAll_L4 : Nat → MM → Nat → Int64 → Int32 → Option Int64
  | 0, _, _, _, _ => none
  | n1 + 1, M, y1_0, y1_1, y1_3 =>
    ob (f_X0_count M y1_0 0) (fun z2 => if z2 ≤ y1_3 then (some y1_1) else (ob (f_X0_oddsOf M y1_0 y1_3 (-1)) (fun z4 => f_X0_oddsOfAll_L4 n1 M y1_0 (y1_1 + z4) (y1_3 + 1))))
def f_X0_oddsOfAll (M : MM) (a0 : Nat) : Option Int64 :=
  f_X0_oddsOfAll_L4 FU M a0 0 0
def f_X0_likeliestWay_L7 : Nat → MM → Nat → Int32 → Int32 → Int64 → Int32 → Option Int32
  | 0, _, _, _, _, _, _ => none
  | n1 + 1, M, y1_0, y1_1, y1_2, y1_3, y1_5 =>
    ob (f_X0_count M y1_0 0) (fun z2 => if z2 ≤ y1_5 then (some y1_2) else (ob (f_X0_oddsOf M y1_0 y1_5 y1_1) (fun z4 => if y1_2 = (-1) then (f_X0_likeliestWay_L7 n1 M y1_0 y1_1 y1_5 z4 (y1_5 + 1)) else (if (lg_cmp z4 y1_3) ≤ 0 then (f_X0_likeliestWay_L7 n1 M y1_0 y1_1 y1_2 y1_3 (y1_5 + 1)) else (f_X0_likeliestWay_L7 n1 M y1_0 y1_1 y1_5 z4 (y1_5 + 1))))))
def f_X0_likeliestWay (M : MM) (a0 : Nat) (x1 : Int32) : Option Int32 :=
  f_X0_likeliestWay_L7 FU M a0 x1 (-1) 0 0
def f_X0_decidingStatue_L8 : Nat → MM → Nat → Int32 → Int32 → Option Int32
  | 0, _, _, _, _ => none
  | n2 + 1, M, y2_0, y2_1, y2_2 =>
    ob (f_X0_count M y2_0 2) (fun z3 => if z3 ≤ y2_2 then (some (-2)) else (ob (f_X0_statueAt M y2_0 y2_2) (fun z5 => oc z5 (f_X0_decidingStatue_L8 n2 M y2_0 y2_1 (y2_2 + 1)) (fun b5 => ob (f_X5_isLying M b5) (fun z6 => if z6 = 0 then (f_X0_decidingStatue_L8 n2 M y2_0 y2_1 (y2_2 + 1)) else (ob (f_X0_likeliestWay M y2_0 y2_2) (fun z8 => if z8 = y2_1 then (f_X0_decidingStatue_L8 n2 M y2_0 y2_1 (y2_2 + 1)) else (some y2_2))))))))
def f_X0_decidingStatue (M : MM) (a0 : Nat) : Option Int32 :=
  ob (f_X0_likeliestWay M a0 (-1)) (fun z1 => f_X0_decidingStatue_L8 FU M a0 z1 0)
def f_X0_oddsThatCarry_L5 : Nat → MM → Nat → Option Nat → Int64 → Int32 → Option Int64
  | 0, _, _, _, _, _ => none
  | n1 + 1, M, y1_0, y1_1, y1_2, y1_4 =>
    ob (f_X0_count M y1_0 0) (fun z2 => if z2 ≤ y1_4 then (some y1_2) else (ob (f_X0_wayAt M y1_0 y1_4) (fun z4 => oc z4 (f_X0_oddsThatCarry_L5 n1 M y1_0 y1_1 y1_2 (y1_4 + 1)) (fun b4 => oc y1_1 (f_X0_oddsThatCarry_L5 n1 M y1_0 none y1_2 (y1_4 + 1)) (fun b5 => ob (f_X10_carries M b4 b5 (gI M b5 7)) (fun z6 => if z6 = 0 then (f_X0_oddsThatCarry_L5 n1 M y1_0 (some b5) y1_2 (y1_4 + 1)) else (ob (f_X0_oddsOf M y1_0 y1_4 (-1)) (fun z8 => f_X0_oddsThatCarry_L5 n1 M y1_0 (some b5) (y1_2 + z8) (y1_4 + 1)))))))))
def f_X0_oddsThatCarry_L5_1 : Nat → MM → Nat → Nat → Int64 → Int32 → Option Int64
  | 0, _, _, _, _, _ => none
  | n9 + 1, M, y9_0, y9_1, y9_2, y9_4 =>
    ob (f_X0_count M y9_0 0) (fun z10 => if z10 ≤ y9_4 then (some y9_2) else (ob (f_X0_wayAt M y9_0 y9_4) (fun z12 => oc z12 (f_X0_oddsThatCarry_L5_1 n9 M y9_0 y9_1 y9_2 (y9_4 + 1)) (fun b12 => ob (f_X10_carries M b12 y9_1 (gI M y9_1 7)) (fun z13 => if z13 = 0 then (f_X0_oddsThatCarry_L5_1 n9 M y9_0 y9_1 y9_2 (y9_4 + 1)) else (ob (f_X0_oddsOf M y9_0 y9_4 (-1)) (fun z15 => f_X0_oddsThatCarry_L5_1 n9 M y9_0 y9_1 (y9_2 + z15) (y9_4 + 1))))))))
def f_X0_oddsThatCarry (M : MM) (a0 : Nat) (r1 : Option Nat) : Option Int64 :=
  oc r1 (f_X0_oddsThatCarry_L5 FU M a0 none 0 0) (fun b1 => f_X0_oddsThatCarry_L5_1 FU M a0 b1 0 0)
def f_X0_bestThing_L13 : Nat → MM → Nat → Int32 → Int64 → Int64 → Int32 → Option Int32
  | 0, _, _, _, _, _, _ => none
  | n2 + 1, M, y2_0, y2_1, y2_2, y2_4, y2_6 =>
    ob (f_X0_count M y2_0 6) (fun z3 => if z3 ≤ y2_6 then (some y2_1) else (ob (f_X0_thingAt M y2_0 y2_6) (fun z5 => oc z5 (ob (f_X0_oddsThatCarry M y2_0 none) (fun z6 => if y2_1 = (-1) then (f_X0_bestThing_L13 n2 M y2_0 y2_6 (if y2_4 - z6 < z6 then z6 else y2_4 - z6) y2_4 (y2_6 + 1)) else (if 0 ≤ (lg_cmp (if y2_4 - z6 < z6 then z6 else y2_4 - z6) y2_2) then (f_X0_bestThing_L13 n2 M y2_0 y2_1 y2_2 y2_4 (y2_6 + 1)) else (f_X0_bestThing_L13 n2 M y2_0 y2_6 (if y2_4 - z6 < z6 then z6 else y2_4 - z6) y2_4 (y2_6 + 1))))) (fun b5 => ob (f_X0_oddsThatCarry M y2_0 (some b5)) (fun z9 => if y2_1 = (-1) then (f_X0_bestThing_L13 n2 M y2_0 y2_6 (if y2_4 - z9 < z9 then z9 else y2_4 - z9) y2_4 (y2_6 + 1)) else (if 0 ≤ (lg_cmp (if y2_4 - z9 < z9 then z9 else y2_4 - z9) y2_2) then (f_X0_bestThing_L13 n2 M y2_0 y2_1 y2_2 y2_4 (y2_6 + 1)) else (f_X0_bestThing_L13 n2 M y2_0 y2_6 (if y2_4 - z9 < z9 then z9 else y2_4 - z9) y2_4 (y2_6 + 1))))))))
def f_X0_bestThing (M : MM) (a0 : Nat) : Option Int32 :=
  ob (f_X0_oddsOfAll M a0) (fun z1 => f_X0_bestThing_L13 FU M a0 (-1) 0 z1 0)
def f_X0_further (M : MM) (x0 : Int32) (x1 : Int32) (x2 : Int32) : Option Int32 :=
  if x0 = (-1) then (some x1) else (if x2 = 0 then (some (if x1 < x0 then x1 else x0)) else (some (if x0 < x1 then x1 else x0)))
def f_X0_peopleByTrials_L9 : Nat → MM → Nat → Int32 → Int32 → Int32 → Int32 → Int32 → Int32 → Option Int32
  | 0, _, _, _, _, _, _, _, _ => none
  | n1 + 1, M, y1_0, y1_1, y1_2, y1_3, y1_4, y1_5, y1_6 =>
    ob (f_X0_count M y1_0 3) (fun z2 => if z2 ≤ y1_6 then (if y1_2 ≤ (4 * y1_5) then (some y1_4) else (some (-1))) else (ob (f_X0_trialAt M y1_0 y1_6) (fun z5 => oc z5 (f_X0_peopleByTrials_L9 n1 M y1_0 y1_1 y1_2 y1_3 y1_4 y1_5 (y1_6 + 1)) (fun b5 => if (gI M b5 0) = y1_1 then (ob (f_X11_upwards M (y1_2 * (gI M b5 2)) (gI M b5 1)) (fun z7 => ob (f_X0_further M y1_4 z7 y1_3) (fun z8 => f_X0_peopleByTrials_L9 n1 M y1_0 y1_1 y1_2 y1_3 z8 (if y1_5 < gI M b5 1 then gI M b5 1 else y1_5) (y1_6 + 1)))) else (f_X0_peopleByTrials_L9 n1 M y1_0 y1_1 y1_2 y1_3 y1_4 y1_5 (y1_6 + 1))))))
def f_X0_peopleByTrials (M : MM) (a0 : Nat) (x1 : Int32) (x2 : Int32) (x3 : Int32) : Option Int32 :=
  f_X0_peopleByTrials_L9 FU M a0 x1 x2 x3 (-1) 0 0
def f_X0_minutesByTrials_L6 : Nat → MM → Nat → Int32 → Int32 → Int32 → Int32 → Int32 → Option Int32
  | 0, _, _, _, _, _, _, _ => none
  | n1 + 1, M, y1_0, y1_1, y1_2, y1_3, y1_4, y1_5 =>
    ob (f_X0_count M y1_0 3) (fun z2 => if z2 ≤ y1_5 then (some y1_4) else (ob (f_X0_trialAt M y1_0 y1_5) (fun z4 => oc z4 (f_X0_minutesByTrials_L6 n1 M y1_0 y1_1 y1_2 y1_3 y1_4 (y1_5 + 1)) (fun b4 => if (gI M b4 0) = y1_1 then (ob (f_X11_upwards M (y1_2 * (gI M b4 4)) (gI M b4 3)) (fun z6 => ob (f_X0_further M y1_4 z6 y1_3) (fun z7 => f_X0_minutesByTrials_L6 n1 M y1_0 y1_1 y1_2 y1_3 z7 (y1_5 + 1)))) else (f_X0_minutesByTrials_L6 n1 M y1_0 y1_1 y1_2 y1_3 y1_4 (y1_5 + 1))))))
def f_X0_minutesByTrials (M : MM) (a0 : Nat) (x1 : Int32) (x2 : Int32) (x3 : Int32) : Option Int32 :=
  f_X0_minutesByTrials_L6 FU M a0 x1 x2 x3 (-1) 0
def f_X10_woodFor (M : MM) (a0 : Nat) (x1 : Int32) : Option Int32 :=
  ob (f_X11_entry_s M 3 (gI M a0 0)) (fun z1 => some (z1 * x1))
def f_X0_woodOf_L25 : Nat → MM → Nat → Nat → Int32 → Int32 → Int32 → Option Int32
  | 0, _, _, _, _, _, _ => none
  | n2 + 1, M, y2_0, y2_1, y2_3, y2_4, y2_5 =>
    ob (f_X0_count M y2_0 2) (fun z3 => if z3 ≤ y2_5 then (some y2_4) else (ob (f_X0_statueAt M y2_0 y2_5) (fun z5 => oc z5 (f_X0_woodOf_L25 n2 M y2_0 y2_1 y2_3 y2_4 (y2_5 + 1)) (fun b5 => ob (f_X5_isLying M b5) (fun z6 => if z6 = 0 then (if (gI M b5 3) = 3 then (ob (f_X10_woodFor M y2_1 (gI M b5 0)) (fun z9 => f_X0_woodOf_L25 n2 M y2_0 y2_1 y2_3 (y2_4 + (z9 * y2_3)) (y2_5 + 1))) else (f_X0_woodOf_L25 n2 M y2_0 y2_1 y2_3 y2_4 (y2_5 + 1))) else (ob (f_X10_woodFor M y2_1 (gI M b5 0)) (fun z10 => f_X0_woodOf_L25 n2 M y2_0 y2_1 y2_3 (y2_4 + (z10 * (gI M b5 6))) (y2_5 + 1))))))))
def f_X0_woodOf_L25_1 : Nat → MM → Nat → Nat → Int32 → Int32 → Int32 → Option Int32
  | 0, _, _, _, _, _, _ => none
  | n11 + 1, M, y11_0, y11_1, y11_3, y11_4, y11_5 =>
    ob (f_X0_count M y11_0 2) (fun z12 => if z12 ≤ y11_5 then (some y11_4) else (ob (f_X0_statueAt M y11_0 y11_5) (fun z14 => oc z14 (f_X0_woodOf_L25_1 n11 M y11_0 y11_1 y11_3 y11_4 (y11_5 + 1)) (fun b14 => ob (f_X5_isLying M b14) (fun z15 => if z15 = 0 then (if (gI M b14 3) = 3 then (ob (f_X10_woodFor M y11_1 (gI M b14 0)) (fun z18 => f_X0_woodOf_L25_1 n11 M y11_0 y11_1 y11_3 (y11_4 + (z18 * y11_3)) (y11_5 + 1))) else (f_X0_woodOf_L25_1 n11 M y11_0 y11_1 y11_3 y11_4 (y11_5 + 1))) else (ob (f_X10_woodFor M y11_1 (gI M b14 0)) (fun z19 => f_X0_woodOf_L25_1 n11 M y11_0 y11_1 y11_3 (y11_4 + (z19 * (gI M b14 6))) (y11_5 + 1))))))))
def f_X0_woodOf (M : MM) (a0 : Nat) (a1 : Nat) : Option Int32 :=
  ob (f_X0_roadAt M a0 0) (fun z1 => oc z1 (f_X0_woodOf_L25 FU M a0 a1 0 0 0) (fun b1 => f_X0_woodOf_L25_1 FU M a0 a1 (gI M b1 1) 0 0))
def f_X6_gain (M : MM) (a0 : Nat) (x1 : Int32) (x2 : Int32) : Option Int32 :=
  if (gI M a0 1) = 1 then (some ((((x1 * x2) / 100) * (100 - (gI M a0 2))) / 100)) else (some ((x1 * x2) / 100))
def f_X6_loss (M : MM) (a0 : Nat) (x1 : Int32) (x2 : Int32) (x3 : Int32) : Option Int32 :=
  if (gI M a0 1) = 0 then (some (((gI M a0 2) * x2) / 100)) else (if (gI M a0 1) = 2 then (if (gI M a0 3) ≤ 0 then (some 0) else (chk (gI M a0 3 = 0) (if (x3 - x3 / (gI M a0 3) * (gI M a0 3)) = 0 then (some ((x1 * (gI M a0 2)) / 100)) else (some 0)))) else (some 0))
def f_X6_grow_L10 : Nat → MM → Nat → Int32 → Int32 → Int32 → Option MM
  | 0, _, _, _, _, _ => none
  | n2 + 1, M2, y2_0, y2_2, y2_3, y2_4 =>
    oc (gR M2 y2_0 4) none (fun b3 => if 100 ≤ y2_4 then (some M2) else (oc (gR M2 y2_0 4) none (fun b5 => chk (y2_4 - 1 < 0 ∨ 100 ≤ ix (y2_4 - 1)) (ob (f_X6_gain M2 y2_0 (gI M2 b5 (ix (y2_4 - 1))) y2_2) (fun z7 => ob (f_X6_loss M2 y2_0 (gI M2 b5 (ix (y2_4 - 1))) y2_3 y2_4) (fun z8 => oc (gR M2 y2_0 4) none (fun b9 => chk (y2_4 < 0 ∨ 100 ≤ ix y2_4) (f_X6_grow_L10 n2 (pI M2 b9 (ix y2_4) (if 0 < if 9999 < (((gI M2 b5 (ix (y2_4 - 1))) + z7) - (((gI M2 b5 (ix (y2_4 - 1))) * 2) / 100)) - z8 then 9999 else (((gI M2 b5 (ix (y2_4 - 1))) + z7) - (((gI M2 b5 (ix (y2_4 - 1))) * 2) / 100)) - z8 then if 9999 < (((gI M2 b5 (ix (y2_4 - 1))) + z7) - (((gI M2 b5 (ix (y2_4 - 1))) * 2) / 100)) - z8 then 9999 else (((gI M2 b5 (ix (y2_4 - 1))) + z7) - (((gI M2 b5 (ix (y2_4 - 1))) * 2) / 100)) - z8 else 0)) y2_0 y2_2 y2_3 (y2_4 + 1)))))))))
def f_X6_grow (M : MM) (a0 : Nat) (x1 : Int32) (x2 : Int32) (x3 : Int32) : Option MM :=
  oc (gR M a0 4) none (fun b1 => f_X6_grow_L10 FU (pI M b1 (ix 0) x1) a0 x2 x3 1)
def f_X0_growTrees_L2 : Nat → MM → Nat → Int32 → Option MM
  | 0, _, _, _ => none
  | n1 + 1, M1, y1_0, y1_1 =>
    ob (f_X0_count M1 y1_0 4) (fun z2 => if z2 ≤ y1_1 then (some M1) else (ob (f_X0_storyAt M1 y1_0 y1_1) (fun z4 => oc z4 (f_X0_growTrees_L2 n1 M1 y1_0 (y1_1 + 1)) (fun b4 => ob (f_X0_has M1 y1_0 7 0) (fun z5 => if z5 = 0 then (f_X0_growTrees_L2 n1 M1 y1_0 (y1_1 + 1)) else (ob (f_X6_grow M1 b4 (gI M1 y1_0 9) (gI M1 y1_0 10) (gI M1 y1_0 11)) (fun z7 => f_X0_growTrees_L2 n1 z7 y1_0 (y1_1 + 1))))))))
def f_X0_growTrees (M : MM) (a0 : Nat) : Option MM :=
  f_X0_growTrees_L2 FU M a0 0
def f_X0_weightOf_L4 : Nat → MM → Nat → Int32 → Int32 → Int32 → Option Int32
  | 0, _, _, _, _, _ => none
  | n1 + 1, M, y1_0, y1_1, y1_2, y1_3 =>
    ob (f_X0_count M y1_0 4) (fun z2 => if z2 ≤ y1_3 then (some y1_2) else (ob (f_X0_storyAt M y1_0 y1_3) (fun z4 => oc z4 (f_X0_weightOf_L4 n1 M y1_0 y1_1 y1_2 (y1_3 + 1)) (fun b4 => if ((y1_1 >>> (y1_3 &&& 31)) &&& 1) = 1 then (f_X0_weightOf_L4 n1 M y1_0 y1_1 (y1_2 + (gI M b4 0)) (y1_3 + 1)) else (f_X0_weightOf_L4 n1 M y1_0 y1_1 y1_2 (y1_3 + 1))))))
def f_X0_weightOf (M : MM) (a0 : Nat) (x1 : Int32) : Option Int32 :=
  f_X0_weightOf_L4 FU M a0 x1 0 0
def f_X6_treesIn (M : MM) (a0 : Nat) (x1 : Int32) : Option Int32 :=
  oc (gR M a0 4) none (fun b1 => ob (f_X11_entry M b1 100 x1) (fun z2 => some z2))
def f_X0_spread_L10 : Nat → MM → Nat → Int32 → Int32 → Int32 → Int32 → Int32 → Option Int32
  | 0, _, _, _, _, _, _, _ => none
  | n1 + 1, M, y1_0, y1_1, y1_2, y1_3, y1_4, y1_5 =>
    ob (f_X0_count M y1_0 4) (fun z2 => if z2 ≤ y1_5 then (some (y1_4 - y1_3)) else (ob (f_X0_storyAt M y1_0 y1_5) (fun z4 => oc z4 (f_X0_spread_L10 n1 M y1_0 y1_1 y1_2 y1_3 y1_4 (y1_5 + 1)) (fun b4 => if ((y1_1 >>> (y1_5 &&& 31)) &&& 1) = 1 then (ob (f_X6_treesIn M b4 y1_2) (fun z6 => ob (f_X6_treesIn M b4 y1_2) (fun z7 => f_X0_spread_L10 n1 M y1_0 y1_1 y1_2 (if z6 < y1_3 then z6 else y1_3) (if y1_4 < z7 then z7 else y1_4) (y1_5 + 1)))) else (f_X0_spread_L10 n1 M y1_0 y1_1 y1_2 y1_3 y1_4 (y1_5 + 1))))))
def f_X0_spread (M : MM) (a0 : Nat) (x1 : Int32) (x2 : Int32) : Option Int32 :=
  f_X0_spread_L10 FU M a0 x1 x2 9999 0 0
def f_X0_yearOfDispute_L7 : Nat → MM → Nat → Int32 → Int32 → Int32 → Int32 → Option Int32
  | 0, _, _, _, _, _, _ => none
  | n1 + 1, M, y1_0, y1_1, y1_2, y1_3, y1_4 =>
    if 100 ≤ y1_4 then (some y1_2) else (ob (f_X0_spread M y1_0 y1_1 y1_4) (fun z3 => if z3 ≤ y1_3 then (f_X0_yearOfDispute_L7 n1 M y1_0 y1_1 y1_2 y1_3 (y1_4 + 1)) else (f_X0_yearOfDispute_L7 n1 M y1_0 y1_1 y1_4 z3 (y1_4 + 1))))
def f_X0_yearOfDispute (M : MM) (a0 : Nat) (x1 : Int32) : Option Int32 :=
  f_X0_yearOfDispute_L7 FU M a0 x1 0 0 0
def f_X0_inhabitants (M : MM) (a0 : Nat) (x1 : Int32) : Option Int32 :=
  if x1 = 0 then (some (if (gI M a0 14) * (gI M a0 15) < (gI M a0 12) * (gI M a0 13) then (gI M a0 14) * (gI M a0 15) else (gI M a0 12) * (gI M a0 13))) else (some (if (gI M a0 14) * (gI M a0 16) < (gI M a0 12) * (gI M a0 13) then (gI M a0 14) * (gI M a0 16) else (gI M a0 12) * (gI M a0 13)))
def f_X0_clearlyLaid_L5 : Nat → MM → Nat → Nat → Int32 → Int32 → Int32 → Option Int32
  | 0, _, _, _, _, _, _ => none
  | n1 + 1, M, y1_0, y1_1, y1_2, y1_3, y1_4 =>
    ob (f_X0_count M y1_0 2) (fun z2 => if z2 ≤ y1_4 then (some (-1)) else (ob (f_X0_statueAt M y1_0 y1_4) (fun z4 => oc z4 (f_X0_clearlyLaid_L5 n1 M y1_0 y1_1 y1_2 y1_3 (y1_4 + 1)) (fun b4 => ob (f_X5_isLying M b4) (fun z5 => if z5 = 0 then (f_X0_clearlyLaid_L5 n1 M y1_0 y1_1 y1_2 y1_3 (y1_4 + 1)) else (ob (f_X10_tenths M y1_1 (gI M b4 7) (gI M b4 4)) (fun z7 => if z7 < 5 then (f_X0_clearlyLaid_L5 n1 M y1_0 y1_1 y1_2 y1_3 (y1_4 + 1)) else (if y1_3 = y1_2 then (some y1_4) else (f_X0_clearlyLaid_L5 n1 M y1_0 y1_1 y1_2 (y1_3 + 1) (y1_4 + 1))))))))))
def f_X0_clearlyLaid (M : MM) (a0 : Nat) (a1 : Nat) (x2 : Int32) : Option Int32 :=
  f_X0_clearlyLaid_L5 FU M a0 a1 x2 0 0
def f_X10_duration (M : MM) (a0 : Nat) (x1 : Int32) (x2 : Int32) (x3 : Int32) : Option Int32 :=
  ob (f_X11_entry_s M 2 (gI M a0 0)) (fun z1 => ob (f_X10_hands M a0 x1 x2) (fun z2 => ob (f_X11_upwards M (z1 * z2) x3) (fun z3 => some (if z3 < z1 / 2 then z1 / 2 else z3))))
def f_X10_risk (M : MM) (a0 : Nat) (x1 : Int32) (x2 : Int32) : Option Int32 :=
  ob (f_X11_entry_s M 4 (gI M a0 0)) (fun z1 => if (gI M a0 0) = 0 then (some (if 100 < (z1 * (if 0 ≤ x2 then x2 else 0 - x2)) + (if 10 - x1 < 0 then 0 else 10 - x1) then 100 else (z1 * (if 0 ≤ x2 then x2 else 0 - x2)) + (if 10 - x1 < 0 then 0 else 10 - x1))) else (some (if 100 < z1 * (if 0 ≤ x2 then x2 else 0 - x2) then 100 else z1 * (if 0 ≤ x2 then x2 else 0 - x2))))
def f_X11_isCrowd (M : MM) (x0 : Int32) : Option Int32 :=
  if x0 < 1 then (some 0) else (if 200 < x0 then (some 0) else (some 1))
def f_X7_typeOf (M : MM) (x0 : Int32) : Option Int32 :=
  if x0 < 97 then (if x0 < 48 then (if x0 = 59 then (some 3) else (if x0 = 44 then (some 3) else (some 0))) else (if 57 < x0 then (if x0 = 59 then (some 3) else (if x0 = 44 then (some 3) else (some 0))) else (some 2))) else (if 122 < x0 then (if x0 < 48 then (if x0 = 59 then (some 3) else (if x0 = 44 then (some 3) else (some 0))) else (if 57 < x0 then (if x0 = 59 then (some 3) else (if x0 = 44 then (some 3) else (some 0))) else (some 2))) else (some 1))
def f_X7_advance_L145 (K1 : MM → Nat → Option MM) : Nat → MM → Nat → Int32 → Int32 → Int32 → Option MM
  | 0, _, _, _, _, _ => none
  | n8 + 1, M8, y8_0, y8_1, y8_2, y8_3 =>
    if (gI M8 y8_0 2) ≤ (gI M8 y8_0 3) then (if ((gI M8 y8_0 3) - (gI M8 y8_0 5)) ≤ y8_3 then (some (pI M8 y8_0 4 (gI M8 y8_0 4))) else (some (pI M8 y8_0 4 0))) else (oc (gR M8 y8_0 0) none (fun b11 => chk (gI M8 y8_0 3 < 0 ∨ 900 ≤ ix (gI M8 y8_0 3)) (ob (f_X7_typeOf M8 (gI M8 b11 (ix (gI M8 y8_0 3)))) (fun z13 => if z13 = (gI M8 y8_0 4) then (oc (gR M8 y8_0 0) none (fun b16 => chk (gI M8 y8_0 3 < 0 ∨ 900 ≤ ix (gI M8 y8_0 3)) (f_X7_advance_L145 K1 n8 (pI (pL M8 y8_0 6 ((((gL M8 y8_0 6) * y8_1.toInt64) + ((gI M8 b16 (ix (gI M8 y8_0 3))).toInt64)) - y8_2.toInt64)) y8_0 3 ((gI (pL M8 y8_0 6 ((((gL M8 y8_0 6) * y8_1.toInt64) + ((gI M8 b16 (ix (gI M8 y8_0 3))).toInt64)) - y8_2.toInt64)) y8_0 3) + 1)) y8_0 y8_1 y8_2 y8_3))) else (if ((gI M8 y8_0 3) - (gI M8 y8_0 5)) ≤ y8_3 then (some (pI M8 y8_0 4 (gI M8 y8_0 4))) else (some (pI M8 y8_0 4 0)))))))
def f_X7_advance_J144 (K1 : MM → Nat → Option MM) (M7 : MM) (y7_0 : Nat) (y7_1 : Int32) (y7_2 : Int32) (w7_0 : Int32) : Option MM :=
  f_X7_advance_L145 K1 FU M7 y7_0 y7_1 y7_2 w7_0
def f_X7_advance_J130 (K1 : MM → Nat → Option MM) (M6 : MM) (y6_0 : Nat) (y6_1 : Int32) (y6_2 : Int32) : Option MM :=
  if (gI M6 y6_0 4) = 1 then (f_X7_advance_J144 K1 M6 y6_0 y6_1 y6_2 8) else (f_X7_advance_J144 K1 M6 y6_0 y6_1 y6_2 3)
def f_X7_advance_J114 (K1 : MM → Nat → Option MM) (M5 : MM) (y5_0 : Nat) (y5_1 : Int32) : Option MM :=
  if (gI M5 y5_0 4) = 1 then (f_X7_advance_J130 K1 M5 y5_0 y5_1 96) else (f_X7_advance_J130 K1 M5 y5_0 y5_1 48)
def f_X7_advance_J98 (K1 : MM → Nat → Option MM) (M4 : MM) (y4_0 : Nat) : Option MM :=
  if (gI M4 y4_0 4) = 1 then (f_X7_advance_J114 K1 M4 y4_0 32) else (f_X7_advance_J114 K1 M4 y4_0 10)
def f_X7_advance_J82 (K1 : MM → Nat → Option MM) (M3 : MM) (y3_0 : Nat) : Option MM :=
  if (gI M3 y3_0 4) = 1 then (f_X7_advance_J98 K1 M3 y3_0) else (if (gI M3 y3_0 4) = 2 then (f_X7_advance_J98 K1 M3 y3_0) else (if (gI M3 y3_0 4) = 4 then (some M3) else (oc (gR M3 y3_0 0) none (fun b24 => chk (gI M3 y3_0 5 < 0 ∨ 900 ≤ ix (gI M3 y3_0 5)) (some (pI (pL M3 y3_0 6 ((gI M3 b24 (ix (gI M3 y3_0 5))).toInt64)) y3_0 3 ((gI (pL M3 y3_0 6 ((gI M3 b24 (ix (gI M3 y3_0 5))).toInt64)) y3_0 3) + 1)))))))
def f_X7_advance_L145_1 (K1 : MM → Nat → Option MM) : Nat → MM → Nat → Int32 → Int32 → Int32 → Option MM
  | 0, _, _, _, _, _ => none
  | n38 + 1, M38, y38_0, y38_1, y38_2, y38_3 =>
    if (gI M38 y38_0 2) ≤ (gI M38 y38_0 3) then (if ((gI M38 y38_0 3) - (gI M38 y38_0 5)) ≤ y38_3 then (some (pI M38 y38_0 4 (gI M38 y38_0 4))) else (some (pI M38 y38_0 4 0))) else (oc (gR M38 y38_0 0) none (fun b41 => chk (gI M38 y38_0 3 < 0 ∨ 900 ≤ ix (gI M38 y38_0 3)) (ob (f_X7_typeOf M38 (gI M38 b41 (ix (gI M38 y38_0 3)))) (fun z43 => if z43 = (gI M38 y38_0 4) then (oc (gR M38 y38_0 0) none (fun b46 => chk (gI M38 y38_0 3 < 0 ∨ 900 ≤ ix (gI M38 y38_0 3)) (f_X7_advance_L145_1 K1 n38 (pI (pL M38 y38_0 6 ((((gL M38 y38_0 6) * y38_1.toInt64) + ((gI M38 b46 (ix (gI M38 y38_0 3))).toInt64)) - y38_2.toInt64)) y38_0 3 ((gI (pL M38 y38_0 6 ((((gL M38 y38_0 6) * y38_1.toInt64) + ((gI M38 b46 (ix (gI M38 y38_0 3))).toInt64)) - y38_2.toInt64)) y38_0 3) + 1)) y38_0 y38_1 y38_2 y38_3))) else (if ((gI M38 y38_0 3) - (gI M38 y38_0 5)) ≤ y38_3 then (some (pI M38 y38_0 4 (gI M38 y38_0 4))) else (some (pI M38 y38_0 4 0)))))))
def f_X7_advance_J144_1 (K1 : MM → Nat → Option MM) (M37 : MM) (y37_0 : Nat) (y37_1 : Int32) (y37_2 : Int32) (w37_0 : Int32) : Option MM :=
  f_X7_advance_L145_1 K1 FU M37 y37_0 y37_1 y37_2 w37_0
def f_X7_advance_J130_1 (K1 : MM → Nat → Option MM) (M36 : MM) (y36_0 : Nat) (y36_1 : Int32) (y36_2 : Int32) : Option MM :=
  if (gI M36 y36_0 4) = 1 then (f_X7_advance_J144_1 K1 M36 y36_0 y36_1 y36_2 8) else (f_X7_advance_J144_1 K1 M36 y36_0 y36_1 y36_2 3)
def f_X7_advance_J114_1 (K1 : MM → Nat → Option MM) (M35 : MM) (y35_0 : Nat) (y35_1 : Int32) : Option MM :=
  if (gI M35 y35_0 4) = 1 then (f_X7_advance_J130_1 K1 M35 y35_0 y35_1 96) else (f_X7_advance_J130_1 K1 M35 y35_0 y35_1 48)
def f_X7_advance_J98_1 (K1 : MM → Nat → Option MM) (M34 : MM) (y34_0 : Nat) : Option MM :=
  if (gI M34 y34_0 4) = 1 then (f_X7_advance_J114_1 K1 M34 y34_0 32) else (f_X7_advance_J114_1 K1 M34 y34_0 10)
def f_X7_advance_J82_1 (K1 : MM → Nat → Option MM) (M33 : MM) (y33_0 : Nat) : Option MM :=
  if (gI M33 y33_0 4) = 1 then (f_X7_advance_J98_1 K1 M33 y33_0) else (if (gI M33 y33_0 4) = 2 then (f_X7_advance_J98_1 K1 M33 y33_0) else (if (gI M33 y33_0 4) = 4 then (some M33) else (oc (gR M33 y33_0 0) none (fun b54 => chk (gI M33 y33_0 5 < 0 ∨ 900 ≤ ix (gI M33 y33_0 5)) (some (pI (pL M33 y33_0 6 ((gI M33 b54 (ix (gI M33 y33_0 5))).toInt64)) y33_0 3 ((gI (pL M33 y33_0 6 ((gI M33 b54 (ix (gI M33 y33_0 5))).toInt64)) y33_0 3) + 1)))))))
def f_X7_advance_L0 : Nat → MM → Nat → Option MM
  | 0, _, _ => none
  | n1 + 1, M1, y1_0 =>
    if (gI M1 y1_0 2) ≤ (gI M1 y1_0 3) then (if (gI (pL (pI M1 y1_0 5 (gI M1 y1_0 3)) y1_0 6 0) y1_0 2) ≤ (gI (pL (pI M1 y1_0 5 (gI M1 y1_0 3)) y1_0 6 0) y1_0 5) then (f_X7_advance_J82 (fun M y1_0 => f_X7_advance_L0 n1 M y1_0) (pI (pL (pI M1 y1_0 5 (gI M1 y1_0 3)) y1_0 6 0) y1_0 4 4) y1_0) else (oc (gR (pL (pI M1 y1_0 5 (gI M1 y1_0 3)) y1_0 6 0) y1_0 0) none (fun b27 => chk (gI (pL (pI M1 y1_0 5 (gI M1 y1_0 3)) y1_0 6 0) y1_0 5 < 0 ∨ 900 ≤ ix (gI (pL (pI M1 y1_0 5 (gI M1 y1_0 3)) y1_0 6 0) y1_0 5)) (ob (f_X7_typeOf (pL (pI M1 y1_0 5 (gI M1 y1_0 3)) y1_0 6 0) (gI (pL (pI M1 y1_0 5 (gI M1 y1_0 3)) y1_0 6 0) b27 (ix (gI (pL (pI M1 y1_0 5 (gI M1 y1_0 3)) y1_0 6 0) y1_0 5)))) (fun z29 => f_X7_advance_J82 (fun M y1_0 => f_X7_advance_L0 n1 M y1_0) (pI (pL (pI M1 y1_0 5 (gI M1 y1_0 3)) y1_0 6 0) y1_0 4 z29) y1_0))))) else (oc (gR M1 y1_0 0) none (fun b30 => chk (gI M1 y1_0 3 < 0 ∨ 900 ≤ ix (gI M1 y1_0 3)) (if (gI M1 b30 (ix (gI M1 y1_0 3))) = 32 then (f_X7_advance_L0 n1 (pI M1 y1_0 3 ((gI M1 y1_0 3) + 1)) y1_0) else (if (gI (pL (pI M1 y1_0 5 (gI M1 y1_0 3)) y1_0 6 0) y1_0 2) ≤ (gI (pL (pI M1 y1_0 5 (gI M1 y1_0 3)) y1_0 6 0) y1_0 5) then (f_X7_advance_J82_1 (fun M y1_0 => f_X7_advance_L0 n1 M y1_0) (pI (pL (pI M1 y1_0 5 (gI M1 y1_0 3)) y1_0 6 0) y1_0 4 4) y1_0) else (oc (gR (pL (pI M1 y1_0 5 (gI M1 y1_0 3)) y1_0 6 0) y1_0 0) none (fun b57 => chk (gI (pL (pI M1 y1_0 5 (gI M1 y1_0 3)) y1_0 6 0) y1_0 5 < 0 ∨ 900 ≤ ix (gI (pL (pI M1 y1_0 5 (gI M1 y1_0 3)) y1_0 6 0) y1_0 5)) (ob (f_X7_typeOf (pL (pI M1 y1_0 5 (gI M1 y1_0 3)) y1_0 6 0) (gI (pL (pI M1 y1_0 5 (gI M1 y1_0 3)) y1_0 6 0) b57 (ix (gI (pL (pI M1 y1_0 5 (gI M1 y1_0 3)) y1_0 6 0) y1_0 5)))) (fun z59 => f_X7_advance_J82_1 (fun M y1_0 => f_X7_advance_L0 n1 M y1_0) (pI (pL (pI M1 y1_0 5 (gI M1 y1_0 3)) y1_0 6 0) y1_0 4 z59) y1_0))))))))
def f_X7_advance (M : MM) (a0 : Nat) : Option MM :=
  f_X7_advance_L0 FU M a0
def f_X7_begin (M : MM) (a0 : Nat) (x1 : Int32) : Option MM :=
  oc (gR M a0 0) none (fun b1 => ob (f_X7_advance (pI (pI M a0 2 (if 900 < x1 then 900 else x1)) a0 3 0) a0) (fun z2 => some z2))
def f_J0_coder_7d493 (M : MM) (i0 : Nat) : Option Int32 :=
  some 0
def f_J0_length_8abf5 (M : MM) (i0 : Nat) : Option Int32 :=
  ob (f_J0_coder_7d493 M i0) (fun z1 => some ((nI (lenS.getD i0 0)) >>> (z1 &&& 31)))
def f_J0_isLatin1_aae02 (M : MM) (i0 : Nat) : Option Int32 :=
  some 1
def f_J3_checkIndex_8e157 (M : MM) (x0 : Int32) (x1 : Int32) (r2 : Option Nat) : Option Int32 :=
  if x0 < 0 then (none) else (if x0 < x1 then (some x0) else (none))
theorem f_J3_checkIndex_8e157_any (M : MM) (x0 x1 : Int32) (r : Option Nat) : f_J3_checkIndex_8e157 M x0 x1 r = f_J3_checkIndex_8e157 M x0 x1 none := rfl
def f_J0_checkIndex_df160 (M : MM) (x0 : Int32) (x1 : Int32) : Option Unit :=
  ob (f_J3_checkIndex_8e157 M x0 x1 none) (fun z2 => some ())
def f_J1_charAt_3b067 (M : MM) (i0 : Nat) (x1 : Int32) : Option Int32 :=
  ob (f_J0_checkIndex_df160 M x1 (nI (lenS.getD i0 0))) (fun z1 => chk (x1 < 0 ∨ lenS.getD i0 0 ≤ ix x1) (some (((((bytS.getD i0 []).getD (ix x1) 0) &&& 255).toUInt32 % 65536).toInt32)))
def f_J0_charAt_5068e (M : MM) (i0 : Nat) (x1 : Int32) : Option Int32 :=
  ob (f_J0_isLatin1_aae02 M i0) (fun z1 => if z1 = 0 then (none) else (ob (f_J1_charAt_3b067 M i0 x1) (fun z3 => some z3)))
def f_X7_among_L17 : Nat → MM → Nat → Nat → Int32 → Int64 → Int32 → Option Int32
  | 0, _, _, _, _, _, _ => none
  | n2 + 1, M, y2_0, y2_1, y2_2, y2_3, y2_5 =>
    ob (f_J0_length_8abf5 M y2_1) (fun z3 => if z3 ≤ y2_5 then (if (lg_cmp y2_3 (gL M y2_0 6)) = 0 then (some y2_2) else (some (-1))) else (ob (f_J0_charAt_5068e M y2_1 y2_5) (fun z6 => if z6 = 32 then (if (lg_cmp y2_3 (gL M y2_0 6)) = 0 then (some y2_2) else (f_X7_among_L17 n2 M y2_0 y2_1 (y2_2 + 1) 0 (y2_5 + 1))) else (f_X7_among_L17 n2 M y2_0 y2_1 y2_2 (((y2_3 * 32) + z6.toInt64) - 96) (y2_5 + 1)))))
def f_X7_among (M : MM) (a0 : Nat) (i1 : Nat) : Option Int32 :=
  if (gI M a0 4) = 1 then (f_X7_among_L17 FU M a0 i1 0 0 0) else (some (-1))
def f_X7_isWord (M : MM) (a0 : Nat) : Option Int32 :=
  if (gI M a0 4) = 1 then (some 1) else (some 0)
def f_X3_add (M : MM) (a0 : Nat) (x1 : Int32) : Option MM :=
  oc (gR M a0 2) none (fun b1 => if 6 ≤ (gI M a0 1) then (some M) else (oc (gR M a0 2) none (fun b3 => chk (gI M a0 1 < 0 ∨ 6 ≤ ix (gI M a0 1)) (some (pI (pI M b3 (ix (gI M a0 1)) x1) a0 1 ((gI (pI M b3 (ix (gI M a0 1)) x1) a0 1) + 1))))))
def f_X7_isSign (M : MM) (a0 : Nat) (x1 : Int32) : Option Int32 :=
  if (gI M a0 4) = 3 then (if (lg_cmp (gL M a0 6) x1.toInt64) = 0 then (some 1) else (some 0)) else (some 0)
def f_X8_add (M : MM) (a0 : Nat) (x1 : Int32) : Option MM :=
  if x1 < 0 then (some M) else (some (pI M a0 1 ((gI M a0 1) ||| (1 <<< (x1 &&& 31)))))
def f_X4_clear (M : MM) (a0 : Nat) : Option MM :=
  some (pI M a0 3 0)
def f_X4_add (M : MM) (a0 : Nat) (x1 : Int32) (x2 : Int32) (x3 : Int32) : Option (Int32 × MM) :=
  oc (gR M a0 0) none (fun b1 => if (gI M a0 3) < 12 then (oc (gR M a0 0) none (fun b3 => chk (gI M a0 3 < 0 ∨ 12 ≤ ix (gI M a0 3)) (oc (gR (pI M b3 (ix (gI M a0 3)) x1) a0 1) none (fun b5 => chk (gI (pI M b3 (ix (gI M a0 3)) x1) a0 3 < 0 ∨ 12 ≤ ix (gI (pI M b3 (ix (gI M a0 3)) x1) a0 3)) (oc (gR (pI (pI M b3 (ix (gI M a0 3)) x1) b5 (ix (gI (pI M b3 (ix (gI M a0 3)) x1) a0 3)) x2) a0 2) none (fun b7 => chk (gI (pI (pI M b3 (ix (gI M a0 3)) x1) b5 (ix (gI (pI M b3 (ix (gI M a0 3)) x1) a0 3)) x2) a0 3 < 0 ∨ 12 ≤ ix (gI (pI (pI M b3 (ix (gI M a0 3)) x1) b5 (ix (gI (pI M b3 (ix (gI M a0 3)) x1) a0 3)) x2) a0 3)) (some (1, pI (pI (pI (pI M b3 (ix (gI M a0 3)) x1) b5 (ix (gI (pI M b3 (ix (gI M a0 3)) x1) a0 3)) x2) b7 (ix (gI (pI (pI M b3 (ix (gI M a0 3)) x1) b5 (ix (gI (pI M b3 (ix (gI M a0 3)) x1) a0 3)) x2) a0 3)) x3) a0 3 ((gI (pI (pI (pI M b3 (ix (gI M a0 3)) x1) b5 (ix (gI (pI M b3 (ix (gI M a0 3)) x1) a0 3)) x2) b7 (ix (gI (pI (pI M b3 (ix (gI M a0 3)) x1) b5 (ix (gI (pI M b3 (ix (gI M a0 3)) x1) a0 3)) x2) a0 3)) x3) a0 3) + 1))))))))) else (some (0, M)))
def f_X4_agrees_L2 : Nat → MM → Nat → Nat → Int32 → Option Int32
  | 0, _, _, _, _ => none
  | n1 + 1, M, y1_0, y1_1, y1_2 =>
    if (gI M y1_0 3) ≤ y1_2 then (some 1) else (oc (gR M y1_0 0) none (fun b3 => ob (f_X11_entry M b3 12 y1_2) (fun z4 => ob (f_X6_treesIn M y1_1 z4) (fun z5 => oc (gR M y1_0 1) none (fun b6 => ob (f_X11_entry M b6 12 y1_2) (fun z7 => oc (gR M y1_0 2) none (fun b8 => ob (f_X11_entry M b8 12 y1_2) (fun z9 => if (if 0 ≤ z5 - z7 then z5 - z7 else 0 - (z5 - z7)) ≤ z9 then (f_X4_agrees_L2 n1 M y1_0 y1_1 (y1_2 + 1)) else (some 0)))))))))
def f_X4_agrees (M : MM) (a0 : Nat) (a1 : Nat) : Option Int32 :=
  f_X4_agrees_L2 FU M a0 a1 0
def f_X4_agreeing_L4 : Nat → MM → Nat → Nat → Int32 → Int32 → Option Int32
  | 0, _, _, _, _, _ => none
  | n1 + 1, M, y1_0, y1_1, y1_2, y1_3 =>
    ob (f_X0_count M y1_1 4) (fun z2 => if z2 ≤ y1_3 then (some y1_2) else (ob (f_X0_storyAt M y1_1 y1_3) (fun z4 => oc z4 (f_X4_agreeing_L4 n1 M y1_0 y1_1 y1_2 (y1_3 + 1)) (fun b4 => ob (f_X4_agrees M y1_0 b4) (fun z5 => if z5 = 0 then (f_X4_agreeing_L4 n1 M y1_0 y1_1 y1_2 (y1_3 + 1)) else (f_X4_agreeing_L4 n1 M y1_0 y1_1 (y1_2 ||| (1 <<< (y1_3 &&& 31))) (y1_3 + 1)))))))
def f_X4_agreeing (M : MM) (a0 : Nat) (a1 : Nat) : Option Int32 :=
  f_X4_agreeing_L4 FU M a0 a1 0 0
def f_X5_report (M : MM) (a0 : Nat) (x1 : Int32) : Option Int32 :=
  if x1 = 0 then (some (gI M a0 0)) else (if x1 = 1 then (some (gI M a0 1)) else (if x1 = 2 then (some (gI M a0 2)) else (if x1 = 3 then (some (gI M a0 3)) else (if x1 = 4 then (some (gI M a0 4)) else (if x1 = 5 then (some (gI M a0 5)) else (if x1 = 6 then (some (gI M a0 6)) else (some (-1))))))))
def f_X6_yearGone_L2 : Nat → MM → Nat → Int32 → Option Int32
  | 0, _, _, _ => none
  | n1 + 1, M, y1_0, y1_1 =>
    oc (gR M y1_0 4) none (fun b2 => if 100 ≤ y1_1 then (some (-2)) else (oc (gR M y1_0 4) none (fun b4 => chk (y1_1 < 0 ∨ 100 ≤ ix y1_1) (if 10 ≤ (gI M b4 (ix y1_1)) then (f_X6_yearGone_L2 n1 M y1_0 (y1_1 + 1)) else (some y1_1)))))
def f_X6_yearGone (M : MM) (a0 : Nat) : Option Int32 :=
  f_X6_yearGone_L2 FU M a0 0
def f_X7_hasRoomFor (M : MM) (a0 : Nat) (x1 : Int32) : Option Int32 :=
  oc (gR M a0 0) none (fun b1 => if 900 < ((gI M a0 1) + x1) then (some 0) else (some 1))
def f_X7_put_L3 : Nat → MM → Nat → Int32 → Int32 → Option MM
  | 0, _, _, _, _ => none
  | n1 + 1, M1, y1_0, y1_1, y1_2 =>
    if y1_2 < 0 then (some M1) else (oc (gR M1 y1_0 0) none (fun b3 => if 900 ≤ (gI M1 y1_0 1) then (f_X7_put_L3 n1 M1 y1_0 y1_1 (y1_2 + (-8))) else (oc (gR M1 y1_0 0) none (fun b5 => chk (gI M1 y1_0 1 < 0 ∨ 900 ≤ ix (gI M1 y1_0 1)) (f_X7_put_L3 n1 (pI (pI M1 b5 (ix (gI M1 y1_0 1)) (vp_nar .byte ((y1_1 >>> (y1_2 &&& 31)).toInt8.toInt32))) y1_0 1 ((gI (pI M1 b5 (ix (gI M1 y1_0 1)) (vp_nar .byte ((y1_1 >>> (y1_2 &&& 31)).toInt8.toInt32))) y1_0 1) + 1)) y1_0 y1_1 (y1_2 + (-8)))))))
def f_X7_put (M : MM) (a0 : Nat) (x1 : Int32) : Option MM :=
  f_X7_put_L3 FU M a0 x1 24
def f_X7_empty (M : MM) (a0 : Nat) : Option MM :=
  some (pI M a0 1 0)
def f_X10_limit_L13 : Nat → MM → Nat → Nat → Int32 → Int32 → Option Int32
  | 0, _, _, _, _, _ => none
  | n2 + 1, M, y2_0, y2_1, y2_3, y2_4 =>
    if 40 < y2_4 then (some (-100)) else (ob (f_X10_carries M y2_0 y2_1 (y2_3 * (y2_4 - 20))) (fun z4 => if z4 = 0 then (f_X10_limit_L13 n2 M y2_0 y2_1 y2_3 (y2_4 + 1)) else (some (y2_3 * (y2_4 - 20)))))
def f_X10_limit_L13_1 : Nat → MM → Nat → Nat → Int32 → Int32 → Option Int32
  | 0, _, _, _, _, _ => none
  | n6 + 1, M, y6_0, y6_1, y6_3, y6_4 =>
    if 40 < y6_4 then (some (-100)) else (ob (f_X10_carries M y6_0 y6_1 (y6_3 * (y6_4 - 20))) (fun z8 => if z8 = 0 then (f_X10_limit_L13_1 n6 M y6_0 y6_1 y6_3 (y6_4 + 1)) else (some (y6_3 * (y6_4 - 20)))))
def f_X10_limit (M : MM) (a0 : Nat) (a1 : Nat) (x2 : Int32) : Option Int32 :=
  if x2 = 0 then (f_X10_limit_L13 FU M a0 a1 (-1) 0) else (f_X10_limit_L13_1 FU M a0 a1 1 0)
