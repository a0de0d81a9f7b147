/-! WHAT THE STATEMENT GIVES OF THE START -/
def FLx : List Jvm.Cond := flatC (Jvm.Cond.and given_1 narrow_1)
theorem mem_ix {ws big : List Jvm.Cond} (ix : List Nat) (h : ix.map (fun i => big[i]?) = ws.map some) : ∀ w ∈ ws, w ∈ big := by
  intro w hw
  have h1 : some w ∈ ws.map some := List.mem_map.mpr ⟨w, hw, rfl⟩
  rw [← h] at h1
  obtain ⟨i, -, hi⟩ := List.mem_map.mp h1
  exact List.mem_of_getElem? hi
theorem mem_cut {α : Type} {ws big : List α} {a n : Nat} (h : (big.drop a).take n = ws) : ∀ w ∈ ws, w ∈ big := by
  intro w hw
  rw [← h] at hw
  exact List.mem_of_mem_drop (List.mem_of_mem_take hw)
theorem tab_in : ∀ w ∈ tables_1, w ∈ lw_tbl := fun w h => List.mem_append_right _ h
/-- the texts, as the statement tells of them: where, which, and whether it's one told before -/
def nbT : List (String × Nat × Nat × Option (String × Nat)) := [("StoneWalk$Reader", 65, 0, none), ("StoneWalk$Reader", 344, 29, none), ("StoneWalk$Reader", 149, 1, none), ("StoneWalk$Reader", 159, 2, none), ("StoneWalk$Reader", 167, 3, none), ("StoneWalk$Reader", 176, 4, none), ("StoneWalk$Reader", 180, 5, none), ("StoneWalk$Reader", 182, 6, none), ("StoneWalk$Reader", 194, 7, none), ("StoneWalk$Reader", 200, 8, none), ("StoneWalk$Reader", 204, 9, none), ("StoneWalk$Reader", 218, 10, none), ("StoneWalk$Reader", 220, 11, none), ("StoneWalk$Reader", 231, 12, none), ("StoneWalk$Reader", 233, 13, none), ("StoneWalk$Reader", 238, 14, none), ("StoneWalk$Reader", 246, 15, none), ("StoneWalk$Reader", 254, 16, none), ("StoneWalk$Reader", 258, 17, none), ("StoneWalk$Reader", 262, 18, none), ("StoneWalk$Reader", 269, 19, none), ("StoneWalk$Reader", 277, 20, none), ("StoneWalk$Reader", 281, 21, none), ("StoneWalk$Reader", 283, 22, none), ("StoneWalk$Reader", 293, 23, none), ("StoneWalk$Reader", 302, 24, none), ("StoneWalk$Reader", 306, 25, none), ("StoneWalk$Reader", 314, 26, none), ("StoneWalk$Reader", 321, 27, none), ("StoneWalk$Reader", 326, 28, none), ("StoneWalkModel", 120, 30, none), ("StoneWalkModel", 122, 31, none), ("StoneWalkModel", 124, 32, none), ("StoneWalkModel", 126, 33, none), ("StoneWalkModel", 128, 34, none), ("StoneWalkModel", 130, 35, none), ("StoneWalkModel", 132, 36, none), ("StoneWalkModel", 134, 37, none), ("StoneWalkModel", 136, 38, none), ("StoneWalkModel", 138, 39, none), ("StoneWalkModel", 140, 40, none), ("StoneWalkModel", 142, 41, none), ("StoneWalkModel", 144, 23, some ("StoneWalk$Reader", 293)), ("StoneWalkModel", 231, 42, none), ("StoneWalkModel", 233, 43, none), ("StoneWalkModel", 235, 44, none), ("StoneWalkModel", 237, 45, none), ("StoneWalkModel", 239, 2, some ("StoneWalk$Reader", 159)), ("StoneWalkModel", 245, 3, some ("StoneWalk$Reader", 167)), ("StoneWalkModel", 254, 4, some ("StoneWalk$Reader", 176)), ("StoneWalkModel", 256, 5, some ("StoneWalk$Reader", 180)), ("StoneWalkModel", 268, 7, some ("StoneWalk$Reader", 194)), ("StoneWalkModel", 270, 8, some ("StoneWalk$Reader", 200)), ("StoneWalkModel", 272, 9, some ("StoneWalk$Reader", 204)), ("StoneWalkModel", 274, 46, none), ("StoneWalkModel", 276, 47, none), ("StoneWalkModel", 278, 48, none), ("StoneWalkModel", 280, 49, none), ("StoneWalkModel", 282, 50, none), ("StoneWalkModel", 284, 10, some ("StoneWalk$Reader", 218)), ("StoneWalkModel", 289, 51, none), ("StoneWalkModel", 291, 52, none), ("StoneWalkModel", 293, 53, none), ("StoneWalkModel", 295, 13, some ("StoneWalk$Reader", 233)), ("StoneWalkModel", 300, 14, some ("StoneWalk$Reader", 238)), ("StoneWalkModel", 320, 15, some ("StoneWalk$Reader", 246)), ("StoneWalkModel", 322, 16, some ("StoneWalk$Reader", 254)), ("StoneWalkModel", 324, 17, some ("StoneWalk$Reader", 258)), ("StoneWalkModel", 326, 18, some ("StoneWalk$Reader", 262)), ("StoneWalkModel", 346, 24, some ("StoneWalk$Reader", 302)), ("StoneWalkModel", 347, 25, some ("StoneWalk$Reader", 306)), ("StoneWalkModel", 355, 26, some ("StoneWalk$Reader", 314)), ("StoneWalkModel", 361, 27, some ("StoneWalk$Reader", 321)), ("StoneWalkModel", 366, 28, some ("StoneWalk$Reader", 326)), ("StoneWalkModel", 374, 54, none), ("StoneWalkModel", 376, 55, none), ("StoneWalkModel", 378, 56, none), ("StoneWalkModel", 380, 20, some ("StoneWalk$Reader", 277)), ("StoneWalkModel", 396, 21, some ("StoneWalk$Reader", 281)), ("StoneWalkModel", 398, 22, some ("StoneWalk$Reader", 283))]
def rpT : List (String × Nat) := [("StoneWalk$Reader", 65), ("StoneWalk$Reader", 149), ("StoneWalk$Reader", 159), ("StoneWalk$Reader", 167), ("StoneWalk$Reader", 176), ("StoneWalk$Reader", 180), ("StoneWalk$Reader", 182), ("StoneWalk$Reader", 194), ("StoneWalk$Reader", 200), ("StoneWalk$Reader", 204), ("StoneWalk$Reader", 218), ("StoneWalk$Reader", 220), ("StoneWalk$Reader", 231), ("StoneWalk$Reader", 233), ("StoneWalk$Reader", 238), ("StoneWalk$Reader", 246), ("StoneWalk$Reader", 254), ("StoneWalk$Reader", 258), ("StoneWalk$Reader", 262), ("StoneWalk$Reader", 269), ("StoneWalk$Reader", 277), ("StoneWalk$Reader", 281), ("StoneWalk$Reader", 283), ("StoneWalk$Reader", 293), ("StoneWalk$Reader", 302), ("StoneWalk$Reader", 306), ("StoneWalk$Reader", 314), ("StoneWalk$Reader", 321), ("StoneWalk$Reader", 326), ("StoneWalk$Reader", 344), ("StoneWalkModel", 120), ("StoneWalkModel", 122), ("StoneWalkModel", 124), ("StoneWalkModel", 126), ("StoneWalkModel", 128), ("StoneWalkModel", 130), ("StoneWalkModel", 132), ("StoneWalkModel", 134), ("StoneWalkModel", 136), ("StoneWalkModel", 138), ("StoneWalkModel", 140), ("StoneWalkModel", 142), ("StoneWalkModel", 231), ("StoneWalkModel", 233), ("StoneWalkModel", 235), ("StoneWalkModel", 237), ("StoneWalkModel", 274), ("StoneWalkModel", 276), ("StoneWalkModel", 278), ("StoneWalkModel", 280), ("StoneWalkModel", 282), ("StoneWalkModel", 289), ("StoneWalkModel", 291), ("StoneWalkModel", 293), ("StoneWalkModel", 374), ("StoneWalkModel", 376), ("StoneWalkModel", 378)]
def vaS (own : String) (k : Nat) : Jvm.Term := .field (.string own k) "java/lang/String" "value" "[B"
def blT (r : String × Nat × Nat × Option (String × Nat)) : List Jvm.Cond :=
  [.exactly (.string r.1 r.2.1) "java/lang/String", .eq (.field (.string r.1 r.2.1) "java/lang/String" "coder" "B") (.int 0), .arrayOf (vaS r.1 r.2.1) .byte, .eq (.length (vaS r.1 r.2.1)) (.int (Int32.ofNat (lenS.getD r.2.2.1 0)))] ++
  (List.range (lenS.getD r.2.2.1 0)).map (fun j => .eq (.elem (vaS r.1 r.2.1) (.int (Int32.ofNat j))) (.int ((bytS.getD r.2.2.1 []).getD j 0))) ++
  (match r.2.2.2 with | none => [] | some f => [.eq (.string f.1 f.2) (.string r.1 r.2.1)])
set_option maxRecDepth 100000 in
theorem fl_T : (FLx.drop 112).take 911 = nbT.flatMap blT := by decide +kernel
def blZ (t : Nat) : List Jvm.Cond :=
  let z := stA.getD t ("", "", [])
  [.isRef (.static z.1 z.2.1 "[I"), .arrayOf (.static z.1 z.2.1 "[I") .int, .eq (.length (.static z.1 z.2.1 "[I")) (.int (Int32.ofNat (stl t)))] ++
  (List.range (stl t)).map (fun j => .eq (.elem (.static z.1 z.2.1 "[I") (.int (Int32.ofNat j))) (.int (stv t j)))
set_option maxRecDepth 100000 in
theorem fl_Z : (FLx.drop 9).take 87 = [0, 1, 2, 4, 6, 3, 5].flatMap blZ := by decide +kernel
set_option maxRecDepth 100000 in
theorem fl_4 : FLx[4]? = some (.eq (.static "java/lang/String" "COMPACT_STRINGS" "Z") (.int 1)) := by decide +kernel
set_option maxRecDepth 100000 in
theorem fl_5 : FLx[5]? = some (.isRef (.static "jdk/internal/util/Preconditions" "SIOOBE_FORMATTER" "Ljava/util/function/BiFunction;")) := by decide +kernel
set_option maxRecDepth 100000 in
theorem fl_96 : FLx[96]? = some (.isRef (.static Bundle.tN "UNASSIGNED_STACK" Bundle.steD)) := by decide +kernel
set_option maxRecDepth 100000 in
theorem fl_97 : FLx[97]? = some (.isRef (.static Bundle.tN "SUPPRESSED_SENTINEL" Bundle.listD)) := by decide +kernel
set_option maxRecDepth 100000 in
theorem tb_M : ∀ w ∈ (nsM.map (fun r => .methodLinkNest r.1 r.2.1 r.2.2.1 r.2.2.2) : List Jvm.Cond), w ∈ tables_1 := mem_ix [35, 100, 120, 184, 202, 223, 275, 304, 329, 543, 1115, 995, 643, 649, 1190, 1159, 821, 822, 1431] (by decide +kernel)
set_option maxRecDepth 100000 in
theorem tb_F : ∀ w ∈ (nsF.map (fun r => .fieldLinkNest r.1 r.2.1 r.2.2.1 r.2.2.2.1 r.2.2.2.2.1 r.2.2.2.2.2) : List Jvm.Cond), w ∈ tables_1 := mem_ix [546, 1513, 1444, 1515, 1517, 1435, 1436, 1437, 1446, 1448, 1450, 1456, 1452, 1454, 1438, 1458, 1460, 1462, 1464, 1466, 1468, 1470, 1439, 1472, 1474, 1476, 1478, 1480, 1482, 1483, 1484, 1486, 1487, 1489, 1490, 1491, 1440, 1493, 1495, 1497, 1499, 1441, 1501, 1511, 1442, 1503, 1505, 1507, 1509] (by decide +kernel)
set_option maxRecDepth 100000 in
theorem tb_S : ∀ w ∈ (ldT.map (fun r => .stringRef r.1 r.2.1 r.2.2.1) : List Jvm.Cond), w ∈ tables_1 := mem_ix [476, 570, 575, 584, 593, 594, 595, 620, 621, 622, 627, 628, 637, 638, 644, 658, 659, 660, 661, 670, 671, 680, 681, 694, 707, 708, 713, 718, 719, 557, 1639, 1669, 1670, 1671, 1672, 1673, 1674, 1675, 1676, 1677, 1678, 1679, 1680, 1685, 1686, 1687, 1688, 1689, 1705, 1710, 1711, 1728, 1729, 1730, 1731, 1732, 1733, 1734, 1735, 1736, 1737, 1738, 1739, 1740, 1749, 1754, 1755, 1756, 1757, 1762, 1763, 1768, 1773, 1774, 1779, 1780, 1781, 1782, 1787, 1788] (by decide +kernel)
set_option maxRecDepth 100000 in
theorem tb_Z : ∀ w ∈ (stA.map (fun z => .laysStatic z.1 z.2.1 "[I") : List Jvm.Cond), w ∈ tables_1 := mem_ix [547, 820, 837, 929, 848, 1021, 868] (by decide +kernel)
set_option maxRecDepth 100000 in
theorem tb_I : ∀ w ∈ (stA.map (fun z => .initialized z.1) : List Jvm.Cond), w ∈ tables_1 := mem_ix [1, 7, 7, 7, 7, 7, 7] (by decide +kernel)
set_option maxRecDepth 100000 in
theorem tb_X : ∀ w ∈ ([.laysStatic "java/lang/String" "COMPACT_STRINGS" "Z", .initialized "java/lang/String", .laysStatic "jdk/internal/util/Preconditions" "SIOOBE_FORMATTER" "Ljava/util/function/BiFunction;", .initialized "jdk/internal/util/Preconditions", .laysStatic "java/lang/Throwable" "UNASSIGNED_STACK" "[Ljava/lang/StackTraceElement;", .laysStatic "java/lang/Throwable" "SUPPRESSED_SENTINEL" "Ljava/util/List;", .initialized "java/lang/Throwable", .castable "java/util/NoSuchElementException" "java/util/NoSuchElementException"] : List Jvm.Cond), w ∈ tables_1 := mem_ix [490, 15, 506, 17, 1285, 1287, 21, 1260] (by decide +kernel)
set_option maxRecDepth 100000 in
theorem tb_D : ∀ w ∈ (["java/lang/RuntimeException", "java/lang/Exception", Bundle.tN].map (fun c => .declares (Bundle.init0 c)) : List Jvm.Cond), w ∈ tables_1 := mem_ix [1261, 1263, 1265] (by decide +kernel)
set_option maxRecDepth 100000 in
theorem tb_O : ∀ w ∈ (["StoneWalk$Way", "StoneWalk$Road", "StoneWalk$Stone", "StoneWalk$Trial", "StoneWalk$Story", "StoneWalk$Teller"].map (fun c => .arrayOver (.object c)) : List Jvm.Cond), w ∈ tables_1 := mem_ix [172, 174, 176, 178, 180, 182] (by decide +kernel)
set_option maxRecDepth 100000 in
theorem tb_A : ∀ w ∈ ([.arrayClass .byte, .arrayClass .int, .arrayClass .long, .arrayClass .boolean] : List Jvm.Cond), w ∈ tables_1 := mem_ix [65, 97, 96, 1615] (by decide +kernel)
set_option maxRecDepth 100000 in
theorem tb_N : ∀ w ∈ (vwCl.map (fun r => .instantiable r.1 r.2.2) : List Jvm.Cond), w ∈ tables_1 := mem_ix [166, 119, 67, 201, 99, 222, 303, 34, 328, 274, 183, 26, 1430, 1320] (by decide +kernel)
