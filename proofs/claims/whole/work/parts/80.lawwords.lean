set_option maxRecDepth 20000 in
theorem wsLin_wsL_law0_r1 : ∀ w ∈ wsL_law0_r1, w ∈ lw_tbl := fun w h => (goodIn_p wsL_law0_r1 [130, 133] (by decide +kernel) (by decide +kernel) w h).1
set_option maxRecDepth 20000 in
theorem wsLin_wsL_law0_r2 : ∀ w ∈ wsL_law0_r2, w ∈ lw_tbl := fun w h => (goodIn_p wsL_law0_r2 [138, 171] (by decide +kernel) (by decide +kernel) w h).1
set_option maxRecDepth 20000 in
theorem wsLin_wsL_law0_r3 : ∀ w ∈ wsL_law0_r3, w ∈ lw_tbl := fun w h => (goodIn_p wsL_law0_r3 [203, 223, 270] (by decide +kernel) (by decide +kernel) w h).1
set_option maxRecDepth 20000 in
theorem wsLin_wsL_law0_r4 : ∀ w ∈ wsL_law0_r4, w ∈ lw_tbl := fun w h => (goodIn_p wsL_law0_r4 [287, 305] (by decide +kernel) (by decide +kernel) w h).1
set_option maxRecDepth 20000 in
theorem wsLin_wsL_law0_r5 : ∀ w ∈ wsL_law0_r5, w ∈ lw_tbl := fun w h => (goodIn_p wsL_law0_r5 [326, 378, 407, 432, 1424] (by decide +kernel) (by decide +kernel) w h).1
set_option maxRecDepth 20000 in
theorem wsLin_wsL_law0_r6 : ∀ w ∈ wsL_law0_r6, w ∈ lw_tbl := fun w h => (goodIn_p wsL_law0_r6 [534, 538, 542, 1521, 546] (by decide +kernel) (by decide +kernel) w h).1
set_option maxRecDepth 20000 in
theorem wsLin_wsL_law0_r7 : ∀ w ∈ wsL_law0_r7, w ∈ lw_tbl := fun w h => (goodIn_p wsL_law0_r7 [550, 554, 558, 562] (by decide +kernel) (by decide +kernel) w h).1
set_option maxRecDepth 20000 in
theorem wsLin_wsL_law0_r8 : ∀ w ∈ wsL_law0_r8, w ∈ lw_tbl := fun w h => (goodIn_p wsL_law0_r8 [565, 569, 572, 576, 581] (by decide +kernel) (by decide +kernel) w h).1
set_option maxRecDepth 20000 in
theorem wsLin_wsL_law0_r9 : ∀ w ∈ wsL_law0_r9, w ∈ lw_tbl := fun w h => (goodIn_p wsL_law0_r9 [585, 589, 595, 599, 602] (by decide +kernel) (by decide +kernel) w h).1
set_option maxRecDepth 20000 in
theorem wsLin_wsL_law0_r10 : ∀ w ∈ wsL_law0_r10, w ∈ lw_tbl := fun w h => (goodIn_p wsL_law0_r10 [605, 610, 613, 616, 619, 623] (by decide +kernel) (by decide +kernel) w h).1
set_option maxRecDepth 20000 in
theorem wsLin_wsL_law0_r11 : ∀ w ∈ wsL_law0_r11, w ∈ lw_tbl := fun w h => (goodIn_p wsL_law0_r11 [635, 639, 643, 646, 653] (by decide +kernel) (by decide +kernel) w h).1
set_option maxRecDepth 20000 in
theorem wsLin_wsL_law0_r12 : ∀ w ∈ wsL_law0_r12, w ∈ lw_tbl := fun w h => (goodIn_p wsL_law0_r12 [657, 662, 666, 670, 675, 680] (by decide +kernel) (by decide +kernel) w h).1
set_option maxRecDepth 20000 in
theorem wsLin_wsL_law0_r13 : ∀ w ∈ wsL_law0_r13, w ∈ lw_tbl := fun w h => (goodIn_p wsL_law0_r13 [684, 689, 693, 700, 704] (by decide +kernel) (by decide +kernel) w h).1
set_option maxRecDepth 20000 in
theorem wsLin_wsL_law0_r14 : ∀ w ∈ wsL_law0_r14, w ∈ lw_tbl := fun w h => (goodIn_p wsL_law0_r14 [708, 712, 716, 720, 727] (by decide +kernel) (by decide +kernel) w h).1
set_option maxRecDepth 20000 in
theorem wsLin_wsL_law0_r15 : ∀ w ∈ wsL_law0_r15, w ∈ lw_tbl := fun w h => (goodIn_p wsL_law0_r15 [733, 737, 743, 749] (by decide +kernel) (by decide +kernel) w h).1
set_option maxRecDepth 20000 in
theorem wsLin_wsL_law0_r16 : ∀ w ∈ wsL_law0_r16, w ∈ lw_tbl := fun w h => (goodIn_p wsL_law0_r16 [754, 758, 766, 770] (by decide +kernel) (by decide +kernel) w h).1
set_option maxRecDepth 20000 in
theorem wsLin_wsL_law0_r17 : ∀ w ∈ wsL_law0_r17, w ∈ lw_tbl := fun w h => (goodIn_p wsL_law0_r17 [776, 780, 786, 790, 794] (by decide +kernel) (by decide +kernel) w h).1
set_option maxRecDepth 20000 in
theorem wsLin_wsL_law0_r18 : ∀ w ∈ wsL_law0_r18, w ∈ lw_tbl := fun w h => (goodIn_p wsL_law0_r18 [799, 803, 807, 813, 818] (by decide +kernel) (by decide +kernel) w h).1
set_option maxRecDepth 20000 in
theorem wsLin_wsL_law0_r19 : ∀ w ∈ wsL_law0_r19, w ∈ lw_tbl := fun w h => (goodIn_p wsL_law0_r19 [824, 828, 832, 837] (by decide +kernel) (by decide +kernel) w h).1
set_option maxRecDepth 20000 in
theorem wsLin_wsL_law0_r20 : ∀ w ∈ wsL_law0_r20, w ∈ lw_tbl := fun w h => (goodIn_p wsL_law0_r20 [841, 853, 845, 849, 857] (by decide +kernel) (by decide +kernel) w h).1
set_option maxRecDepth 20000 in
theorem wsLin_wsL_law0_r21 : ∀ w ∈ wsL_law0_r21, w ∈ lw_tbl := fun w h => (goodIn_p wsL_law0_r21 [861, 866, 1525] (by decide +kernel) (by decide +kernel) w h).1
set_option maxRecDepth 20000 in
theorem wsLin_wsL_law0_r22 : ∀ w ∈ wsL_law0_r22, w ∈ lw_tbl := fun w h => (goodIn_p wsL_law0_r22 [1529, 1534] (by decide +kernel) (by decide +kernel) w h).1
set_option maxRecDepth 20000 in
theorem wsLin_wsL_law0_r23 : ∀ w ∈ wsL_law0_r23, w ∈ lw_tbl := fun w h => (goodIn_p wsL_law0_r23 [1720] (by decide +kernel) (by decide +kernel) w h).1
set_option maxRecDepth 20000 in
theorem wsLin_wsL_law0_r24 : ∀ w ∈ wsL_law0_r24, w ∈ lw_tbl := fun w h => (goodIn_p wsL_law0_r24 [1724, 1727, 1731, 1735, 1739] (by decide +kernel) (by decide +kernel) w h).1
set_option maxRecDepth 20000 in
theorem wsLin_wsL_law0_r25 : ∀ w ∈ wsL_law0_r25, w ∈ lw_tbl := fun w h => (goodIn_p wsL_law0_r25 [1744, 1747, 1753, 1757, 1761, 1765] (by decide +kernel) (by decide +kernel) w h).1
set_option maxRecDepth 20000 in
theorem wsLin_wsL_law0_r26 : ∀ w ∈ wsL_law0_r26, w ∈ lw_tbl := fun w h => (goodIn_p wsL_law0_r26 [1769, 1785, 1794, 1798, 1802, 1805] (by decide +kernel) (by decide +kernel) w h).1
set_option maxRecDepth 20000 in
theorem wsLin_wsL_law0_r27 : ∀ w ∈ wsL_law0_r27, w ∈ lw_tbl := fun w h => (goodIn_p wsL_law0_r27 [1810, 1816, 1820, 1824, 1828, 1845] (by decide +kernel) (by decide +kernel) w h).1
set_option maxRecDepth 20000 in
theorem wsLin_wsL_law0_r28 : ∀ w ∈ wsL_law0_r28, w ∈ lw_tbl := fun w h => (goodIn_p wsL_law0_r28 [1849, 1854, 1862, 1868, 1873, 1879] (by decide +kernel) (by decide +kernel) w h).1
set_option maxRecDepth 20000 in
theorem wsLin_wsL_law0_r29 : ∀ w ∈ wsL_law0_r29, w ∈ lw_tbl := fun w h => (goodIn_p wsL_law0_r29 [1887, 1893, 1897, 1901, 870, 1905] (by decide +kernel) (by decide +kernel) w h).1
set_option maxRecDepth 20000 in
theorem wsLin_wsL_law0_r30 : ∀ w ∈ wsL_law0_r30, w ∈ lw_tbl := fun w h => (goodIn_p wsL_law0_r30 [874, 1909, 878, 883, 887] (by decide +kernel) (by decide +kernel) w h).1
set_option maxRecDepth 20000 in
theorem wsLin_wsL_law0_r31 : ∀ w ∈ wsL_law0_r31, w ∈ lw_tbl := fun w h => (goodIn_p wsL_law0_r31 [1913, 1917, 1921, 1925, 1929] (by decide +kernel) (by decide +kernel) w h).1
set_option maxRecDepth 20000 in
theorem wsLin_wsL_law0_r32 : ∀ w ∈ wsL_law0_r32, w ∈ lw_tbl := fun w h => (goodIn_p wsL_law0_r32 [1932, 891, 896, 1936, 1940] (by decide +kernel) (by decide +kernel) w h).1
set_option maxRecDepth 20000 in
theorem wsLin_wsL_law0_r33 : ∀ w ∈ wsL_law0_r33, w ∈ lw_tbl := fun w h => (goodIn_p wsL_law0_r33 [1944, 902, 906, 910, 1948, 1952] (by decide +kernel) (by decide +kernel) w h).1
set_option maxRecDepth 20000 in
theorem wsLin_wsL_law0_r34 : ∀ w ∈ wsL_law0_r34, w ∈ lw_tbl := fun w h => (goodIn_p wsL_law0_r34 [914, 918, 925, 1956, 1960, 1963] (by decide +kernel) (by decide +kernel) w h).1
set_option maxRecDepth 20000 in
theorem wsLin_wsL_law0_r35 : ∀ w ∈ wsL_law0_r35, w ∈ lw_tbl := fun w h => (goodIn_p wsL_law0_r35 [929, 932, 936, 1967, 1971, 943] (by decide +kernel) (by decide +kernel) w h).1
set_option maxRecDepth 20000 in
theorem wsLin_wsL_law0_r36 : ∀ w ∈ wsL_law0_r36, w ∈ lw_tbl := fun w h => (goodIn_p wsL_law0_r36 [947, 952, 1975, 1979, 957, 960] (by decide +kernel) (by decide +kernel) w h).1
set_option maxRecDepth 20000 in
theorem wsLin_wsL_law0_r37 : ∀ w ∈ wsL_law0_r37, w ∈ lw_tbl := fun w h => (goodIn_p wsL_law0_r37 [964, 967, 1983, 1987, 973] (by decide +kernel) (by decide +kernel) w h).1
set_option maxRecDepth 20000 in
theorem wsLin_wsL_law0_r38 : ∀ w ∈ wsL_law0_r38, w ∈ lw_tbl := fun w h => (goodIn_p wsL_law0_r38 [977, 983, 1991, 1995, 987] (by decide +kernel) (by decide +kernel) w h).1
set_option maxRecDepth 20000 in
theorem wsLin_wsL_law0_r39 : ∀ w ∈ wsL_law0_r39, w ∈ lw_tbl := fun w h => (goodIn_p wsL_law0_r39 [991, 995, 1000, 1999, 2003, 2008] (by decide +kernel) (by decide +kernel) w h).1
set_option maxRecDepth 20000 in
theorem wsLin_wsL_law0_r40 : ∀ w ∈ wsL_law0_r40, w ∈ lw_tbl := fun w h => (goodIn_p wsL_law0_r40 [1004, 1009, 2012] (by decide +kernel) (by decide +kernel) w h).1
set_option maxRecDepth 20000 in
theorem wsLin_wsL_law0_r41 : ∀ w ∈ wsL_law0_r41, w ∈ lw_tbl := fun w h => (goodIn_p wsL_law0_r41 [2016, 1013, 1017] (by decide +kernel) (by decide +kernel) w h).1
set_option maxRecDepth 20000 in
theorem wsLin_wsL_law0_r42 : ∀ w ∈ wsL_law0_r42, w ∈ lw_tbl := fun w h => (goodIn_p wsL_law0_r42 [1028, 1035, 1039, 1044] (by decide +kernel) (by decide +kernel) w h).1
set_option maxRecDepth 20000 in
theorem wsLin_wsL_law0_r43 : ∀ w ∈ wsL_law0_r43, w ∈ lw_tbl := fun w h => (goodIn_p wsL_law0_r43 [2020, 2024, 2028, 1049] (by decide +kernel) (by decide +kernel) w h).1
set_option maxRecDepth 20000 in
theorem wsLin_wsL_law0_r44 : ∀ w ∈ wsL_law0_r44, w ∈ lw_tbl := fun w h => (goodIn_p wsL_law0_r44 [2035, 1053, 1057, 2039, 2043, 1061] (by decide +kernel) (by decide +kernel) w h).1
set_option maxRecDepth 20000 in
theorem wsLin_wsL_law0_r45 : ∀ w ∈ wsL_law0_r45, w ∈ lw_tbl := fun w h => (goodIn_p wsL_law0_r45 [1065, 2047, 1070, 1074] (by decide +kernel) (by decide +kernel) w h).1
set_option maxRecDepth 20000 in
theorem wsLin_wsL_law0_r46 : ∀ w ∈ wsL_law0_r46, w ∈ lw_tbl := fun w h => (goodIn_p wsL_law0_r46 [2051, 1085, 1089, 1094] (by decide +kernel) (by decide +kernel) w h).1
set_option maxRecDepth 20000 in
theorem wsLin_wsL_law0_r47 : ∀ w ∈ wsL_law0_r47, w ∈ lw_tbl := fun w h => (goodIn_p wsL_law0_r47 [1100, 2062, 1104, 1108, 1112] (by decide +kernel) (by decide +kernel) w h).1
set_option maxRecDepth 20000 in
theorem wsLin_wsL_law0_r48 : ∀ w ∈ wsL_law0_r48, w ∈ lw_tbl := fun w h => (goodIn_p wsL_law0_r48 [1120, 1127, 1132] (by decide +kernel) (by decide +kernel) w h).1
set_option maxRecDepth 20000 in
theorem wsLin_wsL_law0_r49 : ∀ w ∈ wsL_law0_r49, w ∈ lw_tbl := fun w h => (goodIn_p wsL_law0_r49 [1136, 1140, 2066, 2070, 2074, 2078] (by decide +kernel) (by decide +kernel) w h).1
set_option maxRecDepth 20000 in
theorem wsLin_wsL_law0_r50 : ∀ w ∈ wsL_law0_r50, w ∈ lw_tbl := fun w h => (goodIn_p wsL_law0_r50 [2082, 2086, 2090, 1145, 1149, 2094] (by decide +kernel) (by decide +kernel) w h).1
set_option maxRecDepth 20000 in
theorem wsLin_wsL_law0_r51 : ∀ w ∈ wsL_law0_r51, w ∈ lw_tbl := fun w h => (goodIn_p wsL_law0_r51 [2098, 1153, 2102, 1158] (by decide +kernel) (by decide +kernel) w h).1
set_option maxRecDepth 20000 in
theorem wsLin_wsL_law0_r52 : ∀ w ∈ wsL_law0_r52, w ∈ lw_tbl := fun w h => (goodIn_p wsL_law0_r52 [2106, 1163, 2110, 1169, 2114, 1173] (by decide +kernel) (by decide +kernel) w h).1
set_option maxRecDepth 20000 in
theorem wsLin_wsL_law0_r53 : ∀ w ∈ wsL_law0_r53, w ∈ lw_tbl := fun w h => (goodIn_p wsL_law0_r53 [2118, 1179, 2122, 1183, 1187] (by decide +kernel) (by decide +kernel) w h).1
set_option maxRecDepth 20000 in
theorem wsLin_wsL_law0_r54 : ∀ w ∈ wsL_law0_r54, w ∈ lw_tbl := fun w h => (goodIn_p wsL_law0_r54 [2126, 1192, 1196, 1206, 1202, 2130] (by decide +kernel) (by decide +kernel) w h).1
set_option maxRecDepth 20000 in
theorem wsLin_wsL_law0_r55 : ∀ w ∈ wsL_law0_r55, w ∈ lw_tbl := fun w h => (goodIn_p wsL_law0_r55 [1210, 1214, 1219, 2134] (by decide +kernel) (by decide +kernel) w h).1
set_option maxRecDepth 20000 in
theorem wsLin_wsL_law0_r56 : ∀ w ∈ wsL_law0_r56, w ∈ lw_tbl := fun w h => (goodIn_p wsL_law0_r56 [1225, 1229, 2138, 1233, 2142] (by decide +kernel) (by decide +kernel) w h).1
set_option maxRecDepth 20000 in
theorem wsLin_wsL_law0_r57 : ∀ w ∈ wsL_law0_r57, w ∈ lw_tbl := fun w h => (goodIn_p wsL_law0_r57 [1238, 1242, 2146, 2150, 1247] (by decide +kernel) (by decide +kernel) w h).1
set_option maxRecDepth 20000 in
theorem wsLin_wsL_law0_r58 : ∀ w ∈ wsL_law0_r58, w ∈ lw_tbl := fun w h => (goodIn_p wsL_law0_r58 [2154, 1251, 1255, 1259, 2158, 2162] (by decide +kernel) (by decide +kernel) w h).1
set_option maxRecDepth 20000 in
theorem wsLin_wsL_law0_r59 : ∀ w ∈ wsL_law0_r59, w ∈ lw_tbl := fun w h => (goodIn_p wsL_law0_r59 [2166, 2170, 1264, 1268, 2174, 1272] (by decide +kernel) (by decide +kernel) w h).1
set_option maxRecDepth 20000 in
theorem wsLin_wsL_law0_r60 : ∀ w ∈ wsL_law0_r60, w ∈ lw_tbl := fun w h => (goodIn_p wsL_law0_r60 [2178, 1276, 1280, 1284, 1290] (by decide +kernel) (by decide +kernel) w h).1
set_option maxRecDepth 20000 in
theorem wsLin_wsL_law0_r61 : ∀ w ∈ wsL_law0_r61, w ∈ lw_tbl := fun w h => (goodIn_p wsL_law0_r61 [2182, 2186, 2190, 1297, 1301, 2194] (by decide +kernel) (by decide +kernel) w h).1
set_option maxRecDepth 20000 in
theorem wsLin_wsL_law0_r62 : ∀ w ∈ wsL_law0_r62, w ∈ lw_tbl := fun w h => (goodIn_p wsL_law0_r62 [1305, 1309, 2198, 1313, 1317, 1321] (by decide +kernel) (by decide +kernel) w h).1
set_option maxRecDepth 20000 in
theorem wsLin_wsL_law0_r63 : ∀ w ∈ wsL_law0_r63, w ∈ lw_tbl := fun w h => (goodIn_p wsL_law0_r63 [2202, 1326, 1330, 2206] (by decide +kernel) (by decide +kernel) w h).1
set_option maxRecDepth 20000 in
theorem wsLin_wsL_law0_r64 : ∀ w ∈ wsL_law0_r64, w ∈ lw_tbl := fun w h => (goodIn_p wsL_law0_r64 [1354, 1358, 2210, 1517] (by decide +kernel) (by decide +kernel) w h).1
set_option maxRecDepth 20000 in
theorem wsLin_wsL_law0_r65 : ∀ w ∈ wsL_law0_r65, w ∈ lw_tbl := fun w h => (goodIn_p wsL_law0_r65 [1334, 2214, 1338, 1342, 2218] (by decide +kernel) (by decide +kernel) w h).1
set_option maxRecDepth 20000 in
theorem wsLin_wsL_law0_r66 : ∀ w ∈ wsL_law0_r66, w ∈ lw_tbl := fun w h => (goodIn_p wsL_law0_r66 [1346, 2222] (by decide +kernel) (by decide +kernel) w h).1
set_option maxRecDepth 20000 in
theorem wsLin_wsX110 : ∀ w ∈ wsX110, w ∈ lw_tbl := fun w h => (goodIn_p wsX110 [] (by decide +kernel) (by decide +kernel) w h).1
set_option maxRecDepth 20000 in
theorem wsLin_wsX130 : ∀ w ∈ wsX130, w ∈ lw_tbl := fun w h => (goodIn_p wsX130 [] (by decide +kernel) (by decide +kernel) w h).1
set_option maxRecDepth 20000 in
theorem wsLin_wsX70 : ∀ w ∈ wsX70, w ∈ lw_tbl := fun w h => (goodIn_p wsX70 [] (by decide +kernel) (by decide +kernel) w h).1
set_option maxRecDepth 20000 in
theorem wsLin_wsX20 : ∀ w ∈ wsX20, w ∈ lw_tbl := fun w h => (goodIn_p wsX20 [] (by decide +kernel) (by decide +kernel) w h).1
set_option maxRecDepth 20000 in
theorem wsLin_wsX40 : ∀ w ∈ wsX40, w ∈ lw_tbl := fun w h => (goodIn_p wsX40 [] (by decide +kernel) (by decide +kernel) w h).1
set_option maxRecDepth 20000 in
theorem wsLin_wsX10 : ∀ w ∈ wsX10, w ∈ lw_tbl := fun w h => (goodIn_p wsX10 [] (by decide +kernel) (by decide +kernel) w h).1
set_option maxRecDepth 20000 in
theorem wsLin_wsX00 : ∀ w ∈ wsX00, w ∈ lw_tbl := fun w h => (goodIn_p wsX00 [] (by decide +kernel) (by decide +kernel) w h).1
set_option maxRecDepth 20000 in
theorem wsLin_wsX100 : ∀ w ∈ wsX100, w ∈ lw_tbl := fun w h => (goodIn_p wsX100 [] (by decide +kernel) (by decide +kernel) w h).1
set_option maxRecDepth 20000 in
theorem wsLin_wsX30 : ∀ w ∈ wsX30, w ∈ lw_tbl := fun w h => (goodIn_p wsX30 [] (by decide +kernel) (by decide +kernel) w h).1
set_option maxRecDepth 20000 in
theorem wsLin_wsX50 : ∀ w ∈ wsX50, w ∈ lw_tbl := fun w h => (goodIn_p wsX50 [] (by decide +kernel) (by decide +kernel) w h).1
set_option maxRecDepth 20000 in
theorem wsLin_wsX90 : ∀ w ∈ wsX90, w ∈ lw_tbl := fun w h => (goodIn_p wsX90 [] (by decide +kernel) (by decide +kernel) w h).1
set_option maxRecDepth 20000 in
theorem wsLin_wsX60 : ∀ w ∈ wsX60, w ∈ lw_tbl := fun w h => (goodIn_p wsX60 [] (by decide +kernel) (by decide +kernel) w h).1
set_option maxRecDepth 20000 in
theorem wsLin_wsX80 : ∀ w ∈ wsX80, w ∈ lw_tbl := fun w h => (goodIn_p wsX80 [] (by decide +kernel) (by decide +kernel) w h).1
set_option maxRecDepth 20000 in
theorem wsLin_wsX120 : ∀ w ∈ wsX120, w ∈ lw_tbl := fun w h => (goodIn_p wsX120 [] (by decide +kernel) (by decide +kernel) w h).1
theorem wsL_law_in0 : ∀ w ∈ wsL_law0, w ∈ lw_tbl := fun w h => (List.mem_append.mp h).elim (fun h => (List.mem_append.mp h).elim (fun h => (List.mem_append.mp h).elim (fun h => (List.mem_append.mp h).elim (fun h => (List.mem_append.mp h).elim (fun h => (List.mem_append.mp h).elim (fun h => (List.mem_append.mp h).elim (fun h => (List.mem_append.mp h).elim (fun h => (List.mem_append.mp h).elim (fun h => (List.mem_append.mp h).elim (fun h => (List.mem_append.mp h).elim (fun h => (List.mem_append.mp h).elim (fun h => (List.mem_append.mp h).elim (fun h => (List.mem_append.mp h).elim (fun h => (List.mem_append.mp h).elim (fun h => (List.mem_append.mp h).elim (fun h => wsLin_wsL_law0_r1 w h) (fun h => (List.mem_append.mp h).elim (fun h => wsLin_wsL_law0_r2 w h) (fun h => (List.mem_append.mp h).elim (fun h => wsLin_wsL_law0_r3 w h) (fun h => (List.mem_append.mp h).elim (fun h => wsLin_wsL_law0_r4 w h) (fun h => (List.mem_append.mp h).elim (fun h => wsLin_wsL_law0_r5 w h) (fun h => (List.mem_append.mp h).elim (fun h => wsLin_wsL_law0_r6 w h) (fun h => (List.mem_append.mp h).elim (fun h => wsLin_wsL_law0_r7 w h) (fun h => (List.mem_append.mp h).elim (fun h => wsLin_wsL_law0_r8 w h) (fun h => (List.mem_append.mp h).elim (fun h => wsLin_wsL_law0_r9 w h) (fun h => (List.mem_append.mp h).elim (fun h => wsLin_wsL_law0_r10 w h) (fun h => (List.mem_append.mp h).elim (fun h => wsLin_wsL_law0_r11 w h) (fun h => (List.mem_append.mp h).elim (fun h => wsLin_wsL_law0_r12 w h) (fun h => (List.mem_append.mp h).elim (fun h => wsLin_wsL_law0_r13 w h) (fun h => (List.mem_append.mp h).elim (fun h => wsLin_wsL_law0_r14 w h) (fun h => (List.mem_append.mp h).elim (fun h => wsLin_wsL_law0_r15 w h) (fun h => (List.mem_append.mp h).elim (fun h => wsLin_wsL_law0_r16 w h) (fun h => (List.mem_append.mp h).elim (fun h => wsLin_wsL_law0_r17 w h) (fun h => (List.mem_append.mp h).elim (fun h => wsLin_wsL_law0_r18 w h) (fun h => (List.mem_append.mp h).elim (fun h => wsLin_wsL_law0_r19 w h) (fun h => (List.mem_append.mp h).elim (fun h => wsLin_wsL_law0_r20 w h) (fun h => (List.mem_append.mp h).elim (fun h => wsLin_wsL_law0_r21 w h) (fun h => (List.mem_append.mp h).elim (fun h => wsLin_wsL_law0_r22 w h) (fun h => (List.mem_append.mp h).elim (fun h => wsLin_wsL_law0_r23 w h) (fun h => (List.mem_append.mp h).elim (fun h => wsLin_wsL_law0_r24 w h) (fun h => (List.mem_append.mp h).elim (fun h => wsLin_wsL_law0_r25 w h) (fun h => (List.mem_append.mp h).elim (fun h => wsLin_wsL_law0_r26 w h) (fun h => (List.mem_append.mp h).elim (fun h => wsLin_wsL_law0_r27 w h) (fun h => (List.mem_append.mp h).elim (fun h => wsLin_wsL_law0_r28 w h) (fun h => (List.mem_append.mp h).elim (fun h => wsLin_wsL_law0_r29 w h) (fun h => (List.mem_append.mp h).elim (fun h => wsLin_wsL_law0_r30 w h) (fun h => (List.mem_append.mp h).elim (fun h => wsLin_wsL_law0_r31 w h) (fun h => (List.mem_append.mp h).elim (fun h => wsLin_wsL_law0_r32 w h) (fun h => (List.mem_append.mp h).elim (fun h => wsLin_wsL_law0_r33 w h) (fun h => (List.mem_append.mp h).elim (fun h => wsLin_wsL_law0_r34 w h) (fun h => (List.mem_append.mp h).elim (fun h => wsLin_wsL_law0_r35 w h) (fun h => (List.mem_append.mp h).elim (fun h => wsLin_wsL_law0_r36 w h) (fun h => (List.mem_append.mp h).elim (fun h => wsLin_wsL_law0_r37 w h) (fun h => (List.mem_append.mp h).elim (fun h => wsLin_wsL_law0_r38 w h) (fun h => (List.mem_append.mp h).elim (fun h => wsLin_wsL_law0_r39 w h) (fun h => (List.mem_append.mp h).elim (fun h => wsLin_wsL_law0_r40 w h) (fun h => (List.mem_append.mp h).elim (fun h => wsLin_wsL_law0_r41 w h) (fun h => (List.mem_append.mp h).elim (fun h => wsLin_wsL_law0_r42 w h) (fun h => (List.mem_append.mp h).elim (fun h => wsLin_wsL_law0_r43 w h) (fun h => (List.mem_append.mp h).elim (fun h => wsLin_wsL_law0_r44 w h) (fun h => (List.mem_append.mp h).elim (fun h => wsLin_wsL_law0_r45 w h) (fun h => (List.mem_append.mp h).elim (fun h => wsLin_wsL_law0_r46 w h) (fun h => (List.mem_append.mp h).elim (fun h => wsLin_wsL_law0_r47 w h) (fun h => (List.mem_append.mp h).elim (fun h => wsLin_wsL_law0_r48 w h) (fun h => (List.mem_append.mp h).elim (fun h => wsLin_wsL_law0_r49 w h) (fun h => (List.mem_append.mp h).elim (fun h => wsLin_wsL_law0_r50 w h) (fun h => (List.mem_append.mp h).elim (fun h => wsLin_wsL_law0_r51 w h) (fun h => (List.mem_append.mp h).elim (fun h => wsLin_wsL_law0_r52 w h) (fun h => (List.mem_append.mp h).elim (fun h => wsLin_wsL_law0_r53 w h) (fun h => (List.mem_append.mp h).elim (fun h => wsLin_wsL_law0_r54 w h) (fun h => (List.mem_append.mp h).elim (fun h => wsLin_wsL_law0_r55 w h) (fun h => (List.mem_append.mp h).elim (fun h => wsLin_wsL_law0_r56 w h) (fun h => (List.mem_append.mp h).elim (fun h => wsLin_wsL_law0_r57 w h) (fun h => (List.mem_append.mp h).elim (fun h => wsLin_wsL_law0_r58 w h) (fun h => (List.mem_append.mp h).elim (fun h => wsLin_wsL_law0_r59 w h) (fun h => (List.mem_append.mp h).elim (fun h => wsLin_wsL_law0_r60 w h) (fun h => (List.mem_append.mp h).elim (fun h => wsLin_wsL_law0_r61 w h) (fun h => (List.mem_append.mp h).elim (fun h => wsLin_wsL_law0_r62 w h) (fun h => (List.mem_append.mp h).elim (fun h => wsLin_wsL_law0_r63 w h) (fun h => (List.mem_append.mp h).elim (fun h => wsLin_wsL_law0_r64 w h) (fun h => (List.mem_append.mp h).elim (fun h => wsLin_wsL_law0_r65 w h) (fun h => wsLin_wsL_law0_r66 w h)))))))))))))))))))))))))))))))))))))))))))))))))))))))))))))))))) (fun h => wsLin_wsX110 w h)) (fun h => wsLin_wsX130 w h)) (fun h => wsLin_wsX70 w h)) (fun h => wsLin_wsX20 w h)) (fun h => wsLin_wsX40 w h)) (fun h => wsLin_wsX10 w h)) (fun h => wsLin_wsX00 w h)) (fun h => wsLin_wsX100 w h)) (fun h => wsLin_wsX30 w h)) (fun h => wsLin_wsX50 w h)) (fun h => wsLin_wsX90 w h)) (fun h => wsLin_wsX60 w h)) (fun h => wsLin_wsX80 w h)) (fun h => wsLin_wsX120 w h)) (fun h => absurd h List.not_mem_nil)
theorem wsL_law_x0 : ∀ w ∈ (vx_at0 RX11 334 "java/util/NoSuchElementException" ["java/lang/RuntimeException", "java/lang/Exception"]).filter goodWord, w ∈ lw_tbl := by decide +kernel
theorem wsL_law_in : ∀ w ∈ wsL_law, w ∈ lw_tbl := fun w h => (List.mem_append.mp h).elim (fun h => wsL_law_in0 w h) (fun h => wsL_law_x0 w h)
theorem inX0 : ∀ w ∈ wsX00, w ∈ lw_tbl := fun w h => wsL_law_in w (inlX0 w h)
theorem inX1 : ∀ w ∈ wsX10, w ∈ lw_tbl := fun w h => wsL_law_in w (inlX1 w h)
theorem inX2 : ∀ w ∈ wsX20, w ∈ lw_tbl := fun w h => wsL_law_in w (inlX2 w h)
theorem inX3 : ∀ w ∈ wsX30, w ∈ lw_tbl := fun w h => wsL_law_in w (inlX3 w h)
theorem inX4 : ∀ w ∈ wsX40, w ∈ lw_tbl := fun w h => wsL_law_in w (inlX4 w h)
theorem inX5 : ∀ w ∈ wsX50, w ∈ lw_tbl := fun w h => wsL_law_in w (inlX5 w h)
theorem inX6 : ∀ w ∈ wsX60, w ∈ lw_tbl := fun w h => wsL_law_in w (inlX6 w h)
theorem inX7 : ∀ w ∈ wsX70, w ∈ lw_tbl := fun w h => wsL_law_in w (inlX7 w h)
theorem inX8 : ∀ w ∈ wsX80, w ∈ lw_tbl := fun w h => wsL_law_in w (inlX8 w h)
theorem inX9 : ∀ w ∈ wsX90, w ∈ lw_tbl := fun w h => wsL_law_in w (inlX9 w h)
theorem inX10 : ∀ w ∈ wsX100, w ∈ lw_tbl := fun w h => wsL_law_in w (inlX10 w h)
theorem inX11 : ∀ w ∈ wsX110, w ∈ lw_tbl := fun w h => wsL_law_in w (inlX11 w h)
theorem inX12 : ∀ w ∈ wsX120, w ∈ lw_tbl := fun w h => wsL_law_in w (inlX12 w h)
theorem inX13 : ∀ w ∈ wsX130, w ∈ lw_tbl := fun w h => wsL_law_in w (inlX13 w h)
