set_option maxRecDepth 20000 in
theorem gX13_chance_X13_chanceBy : GoodIn wsX13_chance (wsV RX13 474 RX13 yX13_chanceBy wsX13_chanceBy) := goodIn_app (goodIn_of _ (by decide +kernel)) ggX13_chance_X13_chanceBy
set_option maxRecDepth 20000 in
theorem ggX13_chance_X13_done : GoodIn wsX13_chance wsX13_done := goodIn_r _ [32, 23, 24, 33, 34, 35, 36, 37, 38, 39, 40, 41, 42, 43, 44, 45, 46, 47, 48, 49, 50, 51, 52, 53, 54, 55, 56, 57, 58, 59, 60, 61] rfl (by decide +kernel)
set_option maxRecDepth 20000 in
theorem gX13_chance_X13_done : GoodIn wsX13_chance (wsV RX13 40 RX13 yX13_done wsX13_done) := goodIn_app (goodIn_of _ (by decide +kernel)) ggX13_chance_X13_done
theorem dX13_chance_0 : decode cX13_chance 0 = .ok (.aload_n 0, 1) := by decide +kernel
theorem dX13_chance_1 : decode cX13_chance 1 = .ok (.iconst 0, 1) := by decide +kernel
theorem dX13_chance_2 : decode cX13_chance 2 = .ok (.putfield 30, 3) := by decide +kernel
theorem dX13_chance_5 : decode cX13_chance 5 = .ok (.aload_n 0, 1) := by decide +kernel
theorem dX13_chance_6 : decode cX13_chance 6 = .ok (.iload_n 1, 1) := by decide +kernel
theorem dX13_chance_7 : decode cX13_chance 7 = .ok (.iload_n 2, 1) := by decide +kernel
theorem dX13_chance_8 : decode cX13_chance 8 = .ok (.iload_n 3, 1) := by decide +kernel
theorem dX13_chance_9 : decode cX13_chance 9 = .ok (.invokevirtual 450, 3) := by decide +kernel
theorem dX13_chance_12 : decode cX13_chance 12 = .ok (.istore 4, 2) := by decide +kernel
theorem dX13_chance_14 : decode cX13_chance 14 = .ok (.iload 4, 2) := by decide +kernel
theorem dX13_chance_16 : decode cX13_chance 16 = .ok (.ifCond .le 12, 3) := by decide +kernel
theorem dX13_chance_19 : decode cX13_chance 19 = .ok (.aload_n 0, 1) := by decide +kernel
theorem dX13_chance_20 : decode cX13_chance 20 = .ok (.iload 4, 2) := by decide +kernel
theorem dX13_chance_22 : decode cX13_chance 22 = .ok (.invokevirtual 36, 3) := by decide +kernel
theorem dX13_chance_25 : decode cX13_chance 25 = .ok (.goto 14, 3) := by decide +kernel
theorem dX13_chance_28 : decode cX13_chance 28 = .ok (.aload_n 0, 1) := by decide +kernel
theorem dX13_chance_29 : decode cX13_chance 29 = .ok (.aload_n 0, 1) := by decide +kernel
theorem dX13_chance_30 : decode cX13_chance 30 = .ok (.iload_n 1, 1) := by decide +kernel
theorem dX13_chance_31 : decode cX13_chance 31 = .ok (.iload_n 2, 1) := by decide +kernel
theorem dX13_chance_32 : decode cX13_chance 32 = .ok (.iload_n 3, 1) := by decide +kernel
theorem dX13_chance_33 : decode cX13_chance 33 = .ok (.invokevirtual 474, 3) := by decide +kernel
theorem dX13_chance_36 : decode cX13_chance 36 = .ok (.invokevirtual 40, 3) := by decide +kernel
theorem dX13_chance_39 : decode cX13_chance 39 = .ok (.ireturn, 1) := by decide +kernel
theorem dX13_tenths_0 : decode cX13_tenths 0 = .ok (.aload_n 0, 1) := by decide +kernel
theorem dX13_tenths_1 : decode cX13_tenths 1 = .ok (.getfield 431, 3) := by decide +kernel
theorem dX13_tenths_4 : decode cX13_tenths 4 = .ok (.getfield 247, 3) := by decide +kernel
theorem dX13_tenths_7 : decode cX13_tenths 7 = .ok (.iload_n 1, 1) := by decide +kernel
theorem dX13_tenths_8 : decode cX13_tenths 8 = .ok (.iaload, 1) := by decide +kernel
theorem dX13_tenths_9 : decode cX13_tenths 9 = .ok (.tableswitch 104 0 2 #[27, 70, 79], 27) := by decide +kernel
theorem dX13_tenths_36 : decode cX13_tenths 36 = .ok (.iload_n 2, 1) := by decide +kernel
theorem dX13_tenths_37 : decode cX13_tenths 37 = .ok (.ifCond .ge 8, 3) := by decide +kernel
theorem dX13_tenths_40 : decode cX13_tenths 40 = .ok (.bipush 8, 2) := by decide +kernel
theorem dX13_tenths_42 : decode cX13_tenths 42 = .ok (.goto 12, 3) := by decide +kernel
theorem dX13_tenths_45 : decode cX13_tenths 45 = .ok (.iload_n 2, 1) := by decide +kernel
theorem dX13_tenths_46 : decode cX13_tenths 46 = .ok (.ifCond .ne 7, 3) := by decide +kernel
theorem dX13_tenths_49 : decode cX13_tenths 49 = .ok (.iconst 4, 1) := by decide +kernel
theorem dX13_tenths_50 : decode cX13_tenths 50 = .ok (.goto 4, 3) := by decide +kernel
theorem dX13_tenths_53 : decode cX13_tenths 53 = .ok (.iconst 2, 1) := by decide +kernel
theorem dX13_tenths_54 : decode cX13_tenths 54 = .ok (.istore 4, 2) := by decide +kernel
theorem dX13_tenths_56 : decode cX13_tenths 56 = .ok (.iload_n 2, 1) := by decide +kernel
theorem dX13_tenths_57 : decode cX13_tenths 57 = .ok (.ifCond .ge 7, 3) := by decide +kernel
theorem dX13_tenths_60 : decode cX13_tenths 60 = .ok (.iconst 1, 1) := by decide +kernel
theorem dX13_tenths_61 : decode cX13_tenths 61 = .ok (.goto 13, 3) := by decide +kernel
theorem dX13_tenths_64 : decode cX13_tenths 64 = .ok (.iload_n 2, 1) := by decide +kernel
theorem dX13_tenths_65 : decode cX13_tenths 65 = .ok (.ifCond .ne 7, 3) := by decide +kernel
theorem dX13_tenths_68 : decode cX13_tenths 68 = .ok (.iconst 4, 1) := by decide +kernel
theorem dX13_tenths_69 : decode cX13_tenths 69 = .ok (.goto 5, 3) := by decide +kernel
theorem dX13_tenths_72 : decode cX13_tenths 72 = .ok (.bipush 7, 2) := by decide +kernel
theorem dX13_tenths_74 : decode cX13_tenths 74 = .ok (.istore 5, 2) := by decide +kernel
theorem dX13_tenths_76 : decode cX13_tenths 76 = .ok (.goto 60, 3) := by decide +kernel
theorem dX13_tenths_79 : decode cX13_tenths 79 = .ok (.iconst 2, 1) := by decide +kernel
theorem dX13_tenths_80 : decode cX13_tenths 80 = .ok (.istore 4, 2) := by decide +kernel
theorem dX13_tenths_82 : decode cX13_tenths 82 = .ok (.iconst 2, 1) := by decide +kernel
theorem dX13_tenths_83 : decode cX13_tenths 83 = .ok (.istore 5, 2) := by decide +kernel
theorem dX13_tenths_85 : decode cX13_tenths 85 = .ok (.goto 51, 3) := by decide +kernel
theorem dX13_tenths_88 : decode cX13_tenths 88 = .ok (.iload_n 2, 1) := by decide +kernel
theorem dX13_tenths_89 : decode cX13_tenths 89 = .ok (.ifCond .ge 7, 3) := by decide +kernel
theorem dX13_tenths_92 : decode cX13_tenths 92 = .ok (.iconst 3, 1) := by decide +kernel
theorem dX13_tenths_93 : decode cX13_tenths 93 = .ok (.goto 4, 3) := by decide +kernel
theorem dX13_tenths_96 : decode cX13_tenths 96 = .ok (.iconst 2, 1) := by decide +kernel
theorem dX13_tenths_97 : decode cX13_tenths 97 = .ok (.istore 4, 2) := by decide +kernel
theorem dX13_tenths_99 : decode cX13_tenths 99 = .ok (.iload_n 2, 1) := by decide +kernel
theorem dX13_tenths_100 : decode cX13_tenths 100 = .ok (.ifCond .ge 7, 3) := by decide +kernel
theorem dX13_tenths_103 : decode cX13_tenths 103 = .ok (.iconst 2, 1) := by decide +kernel
theorem dX13_tenths_104 : decode cX13_tenths 104 = .ok (.goto 4, 3) := by decide +kernel
theorem dX13_tenths_107 : decode cX13_tenths 107 = .ok (.iconst 3, 1) := by decide +kernel
theorem dX13_tenths_108 : decode cX13_tenths 108 = .ok (.istore 5, 2) := by decide +kernel
theorem dX13_tenths_110 : decode cX13_tenths 110 = .ok (.goto 26, 3) := by decide +kernel
theorem dX13_tenths_113 : decode cX13_tenths 113 = .ok (.iload_n 2, 1) := by decide +kernel
theorem dX13_tenths_114 : decode cX13_tenths 114 = .ok (.ifCond .ge 8, 3) := by decide +kernel
theorem dX13_tenths_117 : decode cX13_tenths 117 = .ok (.bipush 6, 2) := by decide +kernel
theorem dX13_tenths_119 : decode cX13_tenths 119 = .ok (.goto 4, 3) := by decide +kernel
theorem dX13_tenths_122 : decode cX13_tenths 122 = .ok (.iconst 5, 1) := by decide +kernel
theorem dX13_tenths_123 : decode cX13_tenths 123 = .ok (.istore 4, 2) := by decide +kernel
theorem dX13_tenths_125 : decode cX13_tenths 125 = .ok (.iload_n 2, 1) := by decide +kernel
theorem dX13_tenths_126 : decode cX13_tenths 126 = .ok (.ifCond .ge 7, 3) := by decide +kernel
theorem dX13_tenths_129 : decode cX13_tenths 129 = .ok (.iconst 3, 1) := by decide +kernel
theorem dX13_tenths_130 : decode cX13_tenths 130 = .ok (.goto 4, 3) := by decide +kernel
theorem dX13_tenths_133 : decode cX13_tenths 133 = .ok (.iconst 4, 1) := by decide +kernel
theorem dX13_tenths_134 : decode cX13_tenths 134 = .ok (.istore 5, 2) := by decide +kernel
theorem dX13_tenths_136 : decode cX13_tenths 136 = .ok (.iload_n 3, 1) := by decide +kernel
theorem dX13_tenths_137 : decode cX13_tenths 137 = .ok (.ifCond .ne 8, 3) := by decide +kernel
theorem dX13_tenths_140 : decode cX13_tenths 140 = .ok (.iload 4, 2) := by decide +kernel
theorem dX13_tenths_142 : decode cX13_tenths 142 = .ok (.goto 21, 3) := by decide +kernel
theorem dX13_tenths_145 : decode cX13_tenths 145 = .ok (.iload_n 3, 1) := by decide +kernel
theorem dX13_tenths_146 : decode cX13_tenths 146 = .ok (.iconst 1, 1) := by decide +kernel
theorem dX13_tenths_147 : decode cX13_tenths 147 = .ok (.if_icmp .ne 8, 3) := by decide +kernel
theorem dX13_tenths_150 : decode cX13_tenths 150 = .ok (.iload 5, 2) := by decide +kernel
theorem dX13_tenths_152 : decode cX13_tenths 152 = .ok (.goto 11, 3) := by decide +kernel
theorem dX13_tenths_155 : decode cX13_tenths 155 = .ok (.bipush 10, 2) := by decide +kernel
theorem dX13_tenths_157 : decode cX13_tenths 157 = .ok (.iload 4, 2) := by decide +kernel
theorem dX13_tenths_159 : decode cX13_tenths 159 = .ok (.isub, 1) := by decide +kernel
theorem dX13_tenths_160 : decode cX13_tenths 160 = .ok (.iload 5, 2) := by decide +kernel
theorem dX13_tenths_162 : decode cX13_tenths 162 = .ok (.isub, 1) := by decide +kernel
theorem dX13_tenths_163 : decode cX13_tenths 163 = .ok (.ireturn, 1) := by decide +kernel
set_option maxRecDepth 20000 in
theorem ggX13_lying_X13_isWay : GoodIn wsX13_lying wsX13_isWay := goodIn_r _ [6, 7, 25, 26, 27, 28, 29, 30, 31, 32, 33, 34, 35, 36, 37, 38, 39, 40, 41, 42, 43, 44, 45, 46, 47, 48, 49, 50, 51, 52, 53, 54, 55, 56, 57, 58, 59, 60, 61, 62, 63, 64, 65, 66, 67, 68, 69, 70, 71, 72, 73, 74, 75, 76, 77, 78, 79, 80, 81, 82, 83, 84, 85, 86, 87, 88, 89, 90, 91, 92, 93, 94, 95, 96, 97, 98, 99, 100, 101] rfl (by decide +kernel)
set_option maxRecDepth 20000 in
theorem gX13_lying_X13_isWay : GoodIn wsX13_lying (wsV RX13 444 RX13 yX13_isWay wsX13_isWay) := goodIn_app (goodIn_of _ (by decide +kernel)) ggX13_lying_X13_isWay
set_option maxRecDepth 20000 in
theorem ggX13_lying_X13_in : GoodIn wsX13_lying wsX13_in := goodIn_r _ [10] rfl (by decide +kernel)
set_option maxRecDepth 20000 in
theorem gX13_lying_X13_in : GoodIn wsX13_lying (va_wsS RX13 108 yX13_in wsX13_in) := goodIn_app (goodIn_of _ (by decide +kernel)) ggX13_lying_X13_in
set_option maxRecDepth 20000 in
theorem ggX13_lying_X13_refused : GoodIn wsX13_lying wsX13_refused := goodIn_r _ [14, 15, 16, 25, 26, 27, 28, 29, 30, 31, 32, 33, 34, 35, 36, 37, 38, 39, 40, 41, 42, 43, 44, 45, 46, 47, 48, 49, 50, 51, 52, 53] rfl (by decide +kernel)
set_option maxRecDepth 20000 in
theorem gX13_lying_X13_refused : GoodIn wsX13_lying (wsV RX13 36 RX13 yX13_refused wsX13_refused) := goodIn_app (goodIn_of _ (by decide +kernel)) ggX13_lying_X13_refused
set_option maxRecDepth 20000 in
theorem ggX13_lying_X13_tenths : GoodIn wsX13_lying wsX13_tenths := goodIn_r _ [20, 7, 25, 26, 27, 28, 29, 30, 31, 32, 33, 34, 35, 36, 37, 38, 39, 40, 41, 42, 43, 44, 45, 46, 47, 48, 49, 50, 51, 52, 53, 54, 55, 56, 57, 58, 59, 60, 61, 62, 63, 64, 65, 66, 67, 68, 69, 70, 71, 72, 73, 74, 75, 76, 77, 78, 79, 80, 81, 82, 83, 84, 85, 86, 87, 88, 89, 90, 91, 92, 93, 94, 95, 96, 97, 98, 99, 100, 101] rfl (by decide +kernel)
set_option maxRecDepth 20000 in
theorem gX13_lying_X13_tenths : GoodIn wsX13_lying (wsV RX13 477 RX13 yX13_tenths wsX13_tenths) := goodIn_app (goodIn_of _ (by decide +kernel)) ggX13_lying_X13_tenths
set_option maxRecDepth 20000 in
theorem ggX13_lying_X13_done : GoodIn wsX13_lying wsX13_done := goodIn_r _ [24, 15, 16, 25, 26, 27, 28, 29, 30, 31, 32, 33, 34, 35, 36, 37, 38, 39, 40, 41, 42, 43, 44, 45, 46, 47, 48, 49, 50, 51, 52, 53] rfl (by decide +kernel)
set_option maxRecDepth 20000 in
theorem gX13_lying_X13_done : GoodIn wsX13_lying (wsV RX13 40 RX13 yX13_done wsX13_done) := goodIn_app (goodIn_of _ (by decide +kernel)) ggX13_lying_X13_done
theorem dX13_lying_0 : decode cX13_lying 0 = .ok (.aload_n 0, 1) := by decide +kernel
theorem dX13_lying_1 : decode cX13_lying 1 = .ok (.iconst 0, 1) := by decide +kernel
theorem dX13_lying_2 : decode cX13_lying 2 = .ok (.putfield 30, 3) := by decide +kernel
theorem dX13_lying_5 : decode cX13_lying 5 = .ok (.aload_n 0, 1) := by decide +kernel
theorem dX13_lying_6 : decode cX13_lying 6 = .ok (.iload_n 1, 1) := by decide +kernel
theorem dX13_lying_7 : decode cX13_lying 7 = .ok (.invokevirtual 444, 3) := by decide +kernel
theorem dX13_lying_10 : decode cX13_lying 10 = .ok (.ifCond .eq 12, 3) := by decide +kernel
theorem dX13_lying_13 : decode cX13_lying 13 = .ok (.iload_n 3, 1) := by decide +kernel
theorem dX13_lying_14 : decode cX13_lying 14 = .ok (.iconst 0, 1) := by decide +kernel
theorem dX13_lying_15 : decode cX13_lying 15 = .ok (.iconst 2, 1) := by decide +kernel
theorem dX13_lying_16 : decode cX13_lying 16 = .ok (.invokestatic 108, 3) := by decide +kernel
theorem dX13_lying_19 : decode cX13_lying 19 = .ok (.ifCond .ne 9, 3) := by decide +kernel
theorem dX13_lying_22 : decode cX13_lying 22 = .ok (.aload_n 0, 1) := by decide +kernel
theorem dX13_lying_23 : decode cX13_lying 23 = .ok (.iconst 1, 1) := by decide +kernel
theorem dX13_lying_24 : decode cX13_lying 24 = .ok (.invokevirtual 36, 3) := by decide +kernel
theorem dX13_lying_27 : decode cX13_lying 27 = .ok (.ireturn, 1) := by decide +kernel
theorem dX13_lying_28 : decode cX13_lying 28 = .ok (.iload_n 2, 1) := by decide +kernel
theorem dX13_lying_29 : decode cX13_lying 29 = .ok (.bipush (-20), 2) := by decide +kernel
theorem dX13_lying_31 : decode cX13_lying 31 = .ok (.bipush 20, 2) := by decide +kernel
theorem dX13_lying_33 : decode cX13_lying 33 = .ok (.invokestatic 108, 3) := by decide +kernel
theorem dX13_lying_36 : decode cX13_lying 36 = .ok (.ifCond .eq 17, 3) := by decide +kernel
theorem dX13_lying_39 : decode cX13_lying 39 = .ok (.aload_n 0, 1) := by decide +kernel
theorem dX13_lying_40 : decode cX13_lying 40 = .ok (.aload_n 0, 1) := by decide +kernel
theorem dX13_lying_41 : decode cX13_lying 41 = .ok (.iload_n 1, 1) := by decide +kernel
theorem dX13_lying_42 : decode cX13_lying 42 = .ok (.iload_n 2, 1) := by decide +kernel
theorem dX13_lying_43 : decode cX13_lying 43 = .ok (.iload_n 3, 1) := by decide +kernel
theorem dX13_lying_44 : decode cX13_lying 44 = .ok (.invokevirtual 477, 3) := by decide +kernel
theorem dX13_lying_47 : decode cX13_lying 47 = .ok (.invokevirtual 40, 3) := by decide +kernel
theorem dX13_lying_50 : decode cX13_lying 50 = .ok (.goto 8, 3) := by decide +kernel
theorem dX13_lying_53 : decode cX13_lying 53 = .ok (.aload_n 0, 1) := by decide +kernel
theorem dX13_lying_54 : decode cX13_lying 54 = .ok (.iconst 2, 1) := by decide +kernel
theorem dX13_lying_55 : decode cX13_lying 55 = .ok (.invokevirtual 36, 3) := by decide +kernel
theorem dX13_lying_58 : decode cX13_lying 58 = .ok (.ireturn, 1) := by decide +kernel
set_option maxRecDepth 20000 in
theorem ggX13_needAlong_X12_slopeAt : GoodIn wsX13_needAlong wsX12_slopeAt := goodIn_r _ [6, 7, 55, 56, 57, 58, 59, 60, 61, 62, 63, 64, 65, 66, 67, 68, 69, 70, 71, 72, 73, 74, 75, 76, 77, 78, 79, 80, 81, 82, 83, 84, 85, 86, 87, 88, 89, 90, 91, 92, 93, 94, 95, 96, 97, 98, 99, 100, 101, 102] rfl (by decide +kernel)
set_option maxRecDepth 20000 in
theorem gX13_needAlong_X12_slopeAt : GoodIn wsX13_needAlong (wsV RX13 460 RX12 yX12_slopeAt wsX12_slopeAt) := goodIn_app (goodIn_of _ (by decide +kernel)) ggX13_needAlong_X12_slopeAt
set_option maxRecDepth 20000 in
theorem ggX13_needAlong_X13_canBy : GoodIn wsX13_needAlong wsX13_canBy := goodIn_r _ [12, 1, 13, 14, 11, 15, 16, 17, 18, 26, 27, 28, 29, 30, 31, 32, 33, 34, 35, 36, 37, 38, 39, 40, 41, 42, 43, 44, 45, 46, 47, 48, 49, 50, 51, 52, 53, 54, 55, 56, 57, 58, 59, 60, 61, 62, 63, 64, 65, 66, 67, 68, 69, 70, 71, 72, 73, 74, 75, 76, 77, 78, 79, 80, 81, 82, 83, 84, 85, 86, 87, 88, 89, 90, 91, 92, 93, 94, 95, 96, 97, 98, 99, 100, 101, 102] rfl (by decide +kernel)
set_option maxRecDepth 20000 in
theorem gX13_needAlong_X13_canBy : GoodIn wsX13_needAlong (wsV RX13 454 RX13 yX13_canBy wsX13_canBy) := goodIn_app (goodIn_of _ (by decide +kernel)) ggX13_needAlong_X13_canBy
set_option maxRecDepth 20000 in
theorem ggX13_needAlong_X13_needBy : GoodIn wsX13_needAlong wsX13_needBy := goodIn_r _ [22, 1, 23, 24, 11, 25, 26, 27, 28, 29, 30, 31, 32, 33, 34, 35, 36, 37, 38, 39, 40, 41, 42, 43, 44, 45, 46, 47, 48, 49, 50, 51, 52, 53, 54, 55, 56, 57, 58, 59, 60, 61, 62, 63, 64, 65, 66, 67, 68, 69, 70, 71, 72, 73, 74, 75, 76, 77, 78, 79, 80, 81, 82, 83, 84, 85, 86, 87, 88, 89, 90, 91, 92, 93, 94, 95, 96, 97, 98, 99, 100, 101, 102] rfl (by decide +kernel)
set_option maxRecDepth 20000 in
theorem gX13_needAlong_X13_needBy : GoodIn wsX13_needAlong (wsV RX13 468 RX13 yX13_needBy wsX13_needBy) := goodIn_app (goodIn_of _ (by decide +kernel)) ggX13_needAlong_X13_needBy
theorem dX13_needAlong_0 : decode cX13_needAlong 0 = .ok (.iconst 0, 1) := by decide +kernel
theorem dX13_needAlong_1 : decode cX13_needAlong 1 = .ok (.istore 4, 2) := by decide +kernel
theorem dX13_needAlong_3 : decode cX13_needAlong 3 = .ok (.iconst 0, 1) := by decide +kernel
theorem dX13_needAlong_4 : decode cX13_needAlong 4 = .ok (.istore 5, 2) := by decide +kernel
theorem dX13_needAlong_6 : decode cX13_needAlong 6 = .ok (.iload 5, 2) := by decide +kernel
theorem dX13_needAlong_8 : decode cX13_needAlong 8 = .ok (.aload_n 0, 1) := by decide +kernel
theorem dX13_needAlong_9 : decode cX13_needAlong 9 = .ok (.getfield 431, 3) := by decide +kernel
theorem dX13_needAlong_12 : decode cX13_needAlong 12 = .ok (.getfield 266, 3) := by decide +kernel
theorem dX13_needAlong_15 : decode cX13_needAlong 15 = .ok (.iload_n 3, 1) := by decide +kernel
theorem dX13_needAlong_16 : decode cX13_needAlong 16 = .ok (.iaload, 1) := by decide +kernel
theorem dX13_needAlong_17 : decode cX13_needAlong 17 = .ok (.if_icmp .ge 68, 3) := by decide +kernel
theorem dX13_needAlong_20 : decode cX13_needAlong 20 = .ok (.aload_n 0, 1) := by decide +kernel
theorem dX13_needAlong_21 : decode cX13_needAlong 21 = .ok (.getfield 431, 3) := by decide +kernel
theorem dX13_needAlong_24 : decode cX13_needAlong 24 = .ok (.iload_n 3, 1) := by decide +kernel
theorem dX13_needAlong_25 : decode cX13_needAlong 25 = .ok (.iload 5, 2) := by decide +kernel
theorem dX13_needAlong_27 : decode cX13_needAlong 27 = .ok (.invokevirtual 460, 3) := by decide +kernel
theorem dX13_needAlong_30 : decode cX13_needAlong 30 = .ok (.istore 6, 2) := by decide +kernel
theorem dX13_needAlong_32 : decode cX13_needAlong 32 = .ok (.aload_n 0, 1) := by decide +kernel
theorem dX13_needAlong_33 : decode cX13_needAlong 33 = .ok (.iload_n 1, 1) := by decide +kernel
theorem dX13_needAlong_34 : decode cX13_needAlong 34 = .ok (.iload_n 2, 1) := by decide +kernel
theorem dX13_needAlong_35 : decode cX13_needAlong 35 = .ok (.iload 6, 2) := by decide +kernel
theorem dX13_needAlong_37 : decode cX13_needAlong 37 = .ok (.invokevirtual 454, 3) := by decide +kernel
theorem dX13_needAlong_40 : decode cX13_needAlong 40 = .ok (.ifCond .ne 5, 3) := by decide +kernel
theorem dX13_needAlong_43 : decode cX13_needAlong 43 = .ok (.iconst (-1), 1) := by decide +kernel
theorem dX13_needAlong_44 : decode cX13_needAlong 44 = .ok (.ireturn, 1) := by decide +kernel
theorem dX13_needAlong_45 : decode cX13_needAlong 45 = .ok (.aload_n 0, 1) := by decide +kernel
theorem dX13_needAlong_46 : decode cX13_needAlong 46 = .ok (.iload_n 1, 1) := by decide +kernel
theorem dX13_needAlong_47 : decode cX13_needAlong 47 = .ok (.aload_n 0, 1) := by decide +kernel
theorem dX13_needAlong_48 : decode cX13_needAlong 48 = .ok (.getfield 431, 3) := by decide +kernel
theorem dX13_needAlong_51 : decode cX13_needAlong 51 = .ok (.getfield 301, 3) := by decide +kernel
theorem dX13_needAlong_54 : decode cX13_needAlong 54 = .ok (.iload_n 2, 1) := by decide +kernel
theorem dX13_needAlong_55 : decode cX13_needAlong 55 = .ok (.iaload, 1) := by decide +kernel
theorem dX13_needAlong_56 : decode cX13_needAlong 56 = .ok (.iload 6, 2) := by decide +kernel
theorem dX13_needAlong_58 : decode cX13_needAlong 58 = .ok (.invokevirtual 468, 3) := by decide +kernel
theorem dX13_needAlong_61 : decode cX13_needAlong 61 = .ok (.istore 7, 2) := by decide +kernel
theorem dX13_needAlong_63 : decode cX13_needAlong 63 = .ok (.iload 7, 2) := by decide +kernel
theorem dX13_needAlong_65 : decode cX13_needAlong 65 = .ok (.iload 4, 2) := by decide +kernel
theorem dX13_needAlong_67 : decode cX13_needAlong 67 = .ok (.if_icmp .le 8, 3) := by decide +kernel
theorem dX13_needAlong_70 : decode cX13_needAlong 70 = .ok (.iload 7, 2) := by decide +kernel
theorem dX13_needAlong_72 : decode cX13_needAlong 72 = .ok (.goto 5, 3) := by decide +kernel
theorem dX13_needAlong_75 : decode cX13_needAlong 75 = .ok (.iload 4, 2) := by decide +kernel
theorem dX13_needAlong_77 : decode cX13_needAlong 77 = .ok (.istore 4, 2) := by decide +kernel
theorem dX13_needAlong_79 : decode cX13_needAlong 79 = .ok (.iinc 5 1, 3) := by decide +kernel
theorem dX13_needAlong_82 : decode cX13_needAlong 82 = .ok (.goto (-76), 3) := by decide +kernel
theorem dX13_needAlong_85 : decode cX13_needAlong 85 = .ok (.iload 4, 2) := by decide +kernel
theorem dX13_needAlong_87 : decode cX13_needAlong 87 = .ok (.ireturn, 1) := by decide +kernel
set_option maxRecDepth 20000 in
theorem ggX13_easiest_X13_isStatue : GoodIn wsX13_easiest wsX13_isStatue := goodIn_r _ [7, 2, 49, 50, 51, 52, 53, 54, 55, 56, 57, 58, 59, 60, 61, 62, 63, 64, 65, 66, 67, 68, 69, 70, 71, 72, 73, 74, 75, 76, 77, 78, 79, 80, 81, 82, 83, 84, 85, 86, 87, 88, 89, 90, 91, 92, 93, 94, 95, 96, 97, 98, 99, 100, 101, 102, 103, 104, 105, 106, 107, 108, 109, 110, 111, 112, 113, 114, 115, 116, 117, 118, 119, 120, 121, 122, 123, 124, 125] rfl (by decide +kernel)
set_option maxRecDepth 20000 in
theorem gX13_easiest_X13_isStatue : GoodIn wsX13_easiest (wsV RX13 447 RX13 yX13_isStatue wsX13_isStatue) := goodIn_app (goodIn_of _ (by decide +kernel)) ggX13_easiest_X13_isStatue
set_option maxRecDepth 20000 in
theorem ggX13_easiest_X13_isRoad : GoodIn wsX13_easiest wsX13_isRoad := goodIn_r _ [11, 2, 49, 50, 51, 52, 53, 54, 55, 56, 57, 58, 59, 60, 61, 62, 63, 64, 65, 66, 67, 68, 69, 70, 71, 72, 73, 74, 75, 76, 77, 78, 79, 80, 81, 82, 83, 84, 85, 86, 87, 88, 89, 90, 91, 92, 93, 94, 95, 96, 97, 98, 99, 100, 101, 102, 103, 104, 105, 106, 107, 108, 109, 110, 111, 112, 113, 114, 115, 116, 117, 118, 119, 120, 121, 122, 123, 124, 125] rfl (by decide +kernel)
set_option maxRecDepth 20000 in
theorem gX13_easiest_X13_isRoad : GoodIn wsX13_easiest (wsV RX13 457 RX13 yX13_isRoad wsX13_isRoad) := goodIn_app (goodIn_of _ (by decide +kernel)) ggX13_easiest_X13_isRoad
set_option maxRecDepth 20000 in
theorem ggX13_easiest_X13_refused : GoodIn wsX13_easiest wsX13_refused := goodIn_r _ [15, 16, 17, 49, 50, 51, 52, 53, 54, 55, 56, 57, 58, 59, 60, 61, 62, 63, 64, 65, 66, 67, 68, 69, 70, 71, 72, 73, 74, 75, 76, 77] rfl (by decide +kernel)
set_option maxRecDepth 20000 in
theorem gX13_easiest_X13_refused : GoodIn wsX13_easiest (wsV RX13 36 RX13 yX13_refused wsX13_refused) := goodIn_app (goodIn_of _ (by decide +kernel)) ggX13_easiest_X13_refused
set_option maxRecDepth 20000 in
theorem ggX13_easiest_X13_needAlong : GoodIn wsX13_easiest wsX13_needAlong := goodIn_r _ [21, 2, 22, 23, 24, 25, 26, 27, 28, 29, 30, 6, 31, 32, 33, 34, 35, 36, 37, 38, 39, 40, 41, 42, 43, 44, 49, 50, 51, 52, 53, 54, 55, 56, 57, 58, 59, 60, 61, 62, 63, 64, 65, 66, 67, 68, 69, 70, 71, 72, 73, 74, 75, 76, 77, 78, 79, 80, 81, 82, 83, 84, 85, 86, 87, 88, 89, 90, 91, 92, 93, 94, 95, 96, 97, 98, 99, 100, 101, 102, 103, 104, 105, 106, 107, 108, 109, 110, 111, 112, 113, 114, 115, 116, 117, 118, 119, 120, 121, 122, 123, 124, 125] rfl (by decide +kernel)
set_option maxRecDepth 20000 in
theorem gX13_easiest_X13_needAlong : GoodIn wsX13_easiest (wsV RX13 480 RX13 yX13_needAlong wsX13_needAlong) := goodIn_app (goodIn_of _ (by decide +kernel)) ggX13_easiest_X13_needAlong
set_option maxRecDepth 20000 in
theorem ggX13_easiest_X13_done : GoodIn wsX13_easiest wsX13_done := goodIn_r _ [48, 16, 17, 49, 50, 51, 52, 53, 54, 55, 56, 57, 58, 59, 60, 61, 62, 63, 64, 65, 66, 67, 68, 69, 70, 71, 72, 73, 74, 75, 76, 77] rfl (by decide +kernel)
set_option maxRecDepth 20000 in
theorem gX13_easiest_X13_done : GoodIn wsX13_easiest (wsV RX13 40 RX13 yX13_done wsX13_done) := goodIn_app (goodIn_of _ (by decide +kernel)) ggX13_easiest_X13_done
theorem dX13_easiest_0 : decode cX13_easiest 0 = .ok (.aload_n 0, 1) := by decide +kernel
theorem dX13_easiest_1 : decode cX13_easiest 1 = .ok (.iconst 0, 1) := by decide +kernel
theorem dX13_easiest_2 : decode cX13_easiest 2 = .ok (.putfield 30, 3) := by decide +kernel
theorem dX13_easiest_5 : decode cX13_easiest 5 = .ok (.aload_n 0, 1) := by decide +kernel
theorem dX13_easiest_6 : decode cX13_easiest 6 = .ok (.iload_n 1, 1) := by decide +kernel
theorem dX13_easiest_7 : decode cX13_easiest 7 = .ok (.invokevirtual 447, 3) := by decide +kernel
theorem dX13_easiest_10 : decode cX13_easiest 10 = .ok (.ifCond .eq 11, 3) := by decide +kernel
theorem dX13_easiest_13 : decode cX13_easiest 13 = .ok (.aload_n 0, 1) := by decide +kernel
theorem dX13_easiest_14 : decode cX13_easiest 14 = .ok (.iload_n 2, 1) := by decide +kernel
theorem dX13_easiest_15 : decode cX13_easiest 15 = .ok (.invokevirtual 457, 3) := by decide +kernel
theorem dX13_easiest_18 : decode cX13_easiest 18 = .ok (.ifCond .ne 9, 3) := by decide +kernel
theorem dX13_easiest_21 : decode cX13_easiest 21 = .ok (.aload_n 0, 1) := by decide +kernel
theorem dX13_easiest_22 : decode cX13_easiest 22 = .ok (.iconst 1, 1) := by decide +kernel
theorem dX13_easiest_23 : decode cX13_easiest 23 = .ok (.invokevirtual 36, 3) := by decide +kernel
theorem dX13_easiest_26 : decode cX13_easiest 26 = .ok (.ireturn, 1) := by decide +kernel
theorem dX13_easiest_27 : decode cX13_easiest 27 = .ok (.bipush (-2), 2) := by decide +kernel
theorem dX13_easiest_29 : decode cX13_easiest 29 = .ok (.istore_n 3, 1) := by decide +kernel
theorem dX13_easiest_30 : decode cX13_easiest 30 = .ok (.iconst 0, 1) := by decide +kernel
theorem dX13_easiest_31 : decode cX13_easiest 31 = .ok (.istore 4, 2) := by decide +kernel
theorem dX13_easiest_33 : decode cX13_easiest 33 = .ok (.iconst 0, 1) := by decide +kernel
theorem dX13_easiest_34 : decode cX13_easiest 34 = .ok (.istore 5, 2) := by decide +kernel
theorem dX13_easiest_36 : decode cX13_easiest 36 = .ok (.iload 5, 2) := by decide +kernel
theorem dX13_easiest_38 : decode cX13_easiest 38 = .ok (.aload_n 0, 1) := by decide +kernel
theorem dX13_easiest_39 : decode cX13_easiest 39 = .ok (.getfield 431, 3) := by decide +kernel
theorem dX13_easiest_42 : decode cX13_easiest 42 = .ok (.getfield 185, 3) := by decide +kernel
theorem dX13_easiest_45 : decode cX13_easiest 45 = .ok (.if_icmp .ge 48, 3) := by decide +kernel
theorem dX13_easiest_48 : decode cX13_easiest 48 = .ok (.aload_n 0, 1) := by decide +kernel
theorem dX13_easiest_49 : decode cX13_easiest 49 = .ok (.iload 5, 2) := by decide +kernel
theorem dX13_easiest_51 : decode cX13_easiest 51 = .ok (.iload_n 1, 1) := by decide +kernel
theorem dX13_easiest_52 : decode cX13_easiest 52 = .ok (.iload_n 2, 1) := by decide +kernel
theorem dX13_easiest_53 : decode cX13_easiest 53 = .ok (.invokevirtual 480, 3) := by decide +kernel
theorem dX13_easiest_56 : decode cX13_easiest 56 = .ok (.istore 6, 2) := by decide +kernel
theorem dX13_easiest_58 : decode cX13_easiest 58 = .ok (.iload 6, 2) := by decide +kernel
theorem dX13_easiest_60 : decode cX13_easiest 60 = .ok (.iconst (-1), 1) := by decide +kernel
theorem dX13_easiest_61 : decode cX13_easiest 61 = .ok (.if_icmp .eq 26, 3) := by decide +kernel
theorem dX13_easiest_64 : decode cX13_easiest 64 = .ok (.iload_n 3, 1) := by decide +kernel
theorem dX13_easiest_65 : decode cX13_easiest 65 = .ok (.bipush (-2), 2) := by decide +kernel
theorem dX13_easiest_67 : decode cX13_easiest 67 = .ok (.if_icmp .eq 13, 3) := by decide +kernel
theorem dX13_easiest_70 : decode cX13_easiest 70 = .ok (.iload 6, 2) := by decide +kernel
theorem dX13_easiest_72 : decode cX13_easiest 72 = .ok (.iload 4, 2) := by decide +kernel
theorem dX13_easiest_74 : decode cX13_easiest 74 = .ok (.if_icmp .lt 6, 3) := by decide +kernel
theorem dX13_easiest_77 : decode cX13_easiest 77 = .ok (.goto 10, 3) := by decide +kernel
theorem dX13_easiest_80 : decode cX13_easiest 80 = .ok (.iload 6, 2) := by decide +kernel
theorem dX13_easiest_82 : decode cX13_easiest 82 = .ok (.istore 4, 2) := by decide +kernel
theorem dX13_easiest_84 : decode cX13_easiest 84 = .ok (.iload 5, 2) := by decide +kernel
theorem dX13_easiest_86 : decode cX13_easiest 86 = .ok (.istore_n 3, 1) := by decide +kernel
theorem dX13_easiest_87 : decode cX13_easiest 87 = .ok (.iinc 5 1, 3) := by decide +kernel
theorem dX13_easiest_90 : decode cX13_easiest 90 = .ok (.goto (-54), 3) := by decide +kernel
theorem dX13_easiest_93 : decode cX13_easiest 93 = .ok (.aload_n 0, 1) := by decide +kernel
theorem dX13_easiest_94 : decode cX13_easiest 94 = .ok (.iload_n 3, 1) := by decide +kernel
theorem dX13_easiest_95 : decode cX13_easiest 95 = .ok (.invokevirtual 40, 3) := by decide +kernel
theorem dX13_easiest_98 : decode cX13_easiest 98 = .ok (.ireturn, 1) := by decide +kernel
set_option maxRecDepth 20000 in
theorem ggX13_seed_X13_denied : GoodIn wsX13_seed wsX13_denied := goodIn_r _ [9, 10, 11, 12, 8, 13, 14, 15, 27, 28, 29, 30, 31, 32, 33, 34, 35, 36, 37, 38, 39, 40, 41, 42, 43, 44, 45, 46, 47, 48, 49, 50, 51, 52, 53, 54, 55] rfl (by decide +kernel)
set_option maxRecDepth 20000 in
theorem gX13_seed_X13_denied : GoodIn wsX13_seed (wsV RX13 483 RX13 yX13_denied wsX13_denied) := goodIn_app (goodIn_of _ (by decide +kernel)) ggX13_seed_X13_denied
set_option maxRecDepth 20000 in
theorem ggX13_seed_X13_in : GoodIn wsX13_seed wsX13_in := goodIn_r _ [18] rfl (by decide +kernel)
set_option maxRecDepth 20000 in
theorem gX13_seed_X13_in : GoodIn wsX13_seed (va_wsS RX13 108 yX13_in wsX13_in) := goodIn_app (goodIn_of _ (by decide +kernel)) ggX13_seed_X13_in
set_option maxRecDepth 20000 in
theorem ggX13_seed_X13_granted : GoodIn wsX13_seed wsX13_granted := goodIn_r _ [22, 23, 24, 25, 8, 26, 14, 15, 27, 28, 29, 30, 31, 32, 33, 34, 35, 36, 37, 38, 39, 40, 41, 42, 43, 44, 45, 46, 47, 48, 49, 50, 51, 52, 53, 54, 55] rfl (by decide +kernel)
set_option maxRecDepth 20000 in
theorem gX13_seed_X13_granted : GoodIn wsX13_seed (wsV RX13 487 RX13 yX13_granted wsX13_granted) := goodIn_app (goodIn_of _ (by decide +kernel)) ggX13_seed_X13_granted
theorem dX13_seed_0 : decode cX13_seed 0 = .ok (.aload_n 0, 1) := by decide +kernel
theorem dX13_seed_1 : decode cX13_seed 1 = .ok (.iconst 0, 1) := by decide +kernel
theorem dX13_seed_2 : decode cX13_seed 2 = .ok (.putfield 30, 3) := by decide +kernel
theorem dX13_seed_5 : decode cX13_seed 5 = .ok (.aload_n 0, 1) := by decide +kernel
theorem dX13_seed_6 : decode cX13_seed 6 = .ok (.getfield 431, 3) := by decide +kernel
theorem dX13_seed_9 : decode cX13_seed 9 = .ok (.ifnonnull 9, 3) := by decide +kernel
theorem dX13_seed_12 : decode cX13_seed 12 = .ok (.aload_n 0, 1) := by decide +kernel
theorem dX13_seed_13 : decode cX13_seed 13 = .ok (.iconst 1, 1) := by decide +kernel
theorem dX13_seed_14 : decode cX13_seed 14 = .ok (.invokevirtual 483, 3) := by decide +kernel
theorem dX13_seed_17 : decode cX13_seed 17 = .ok (.ireturn, 1) := by decide +kernel
theorem dX13_seed_18 : decode cX13_seed 18 = .ok (.iload_n 1, 1) := by decide +kernel
theorem dX13_seed_19 : decode cX13_seed 19 = .ok (.iconst 0, 1) := by decide +kernel
theorem dX13_seed_20 : decode cX13_seed 20 = .ok (.ldc_w 486, 3) := by decide +kernel
theorem dX13_seed_23 : decode cX13_seed 23 = .ok (.invokestatic 108, 3) := by decide +kernel
theorem dX13_seed_26 : decode cX13_seed 26 = .ok (.ifCond .ne 9, 3) := by decide +kernel
theorem dX13_seed_29 : decode cX13_seed 29 = .ok (.aload_n 0, 1) := by decide +kernel
theorem dX13_seed_30 : decode cX13_seed 30 = .ok (.iconst 2, 1) := by decide +kernel
theorem dX13_seed_31 : decode cX13_seed 31 = .ok (.invokevirtual 483, 3) := by decide +kernel
theorem dX13_seed_34 : decode cX13_seed 34 = .ok (.ireturn, 1) := by decide +kernel
theorem dX13_seed_35 : decode cX13_seed 35 = .ok (.aload_n 0, 1) := by decide +kernel
theorem dX13_seed_36 : decode cX13_seed 36 = .ok (.iload_n 1, 1) := by decide +kernel
theorem dX13_seed_37 : decode cX13_seed 37 = .ok (.putfield 437, 3) := by decide +kernel
theorem dX13_seed_40 : decode cX13_seed 40 = .ok (.aload_n 0, 1) := by decide +kernel
theorem dX13_seed_41 : decode cX13_seed 41 = .ok (.invokevirtual 487, 3) := by decide +kernel
theorem dX13_seed_44 : decode cX13_seed 44 = .ok (.ireturn, 1) := by decide +kernel
set_option maxRecDepth 20000 in
theorem ggX13_move_X13_isStatue : GoodIn wsX13_move wsX13_isStatue := goodIn_r _ [10, 11, 49, 50, 51, 52, 53, 54, 55, 56, 57, 58, 59, 60, 61, 62, 63, 64, 65, 66, 67, 68, 69, 70, 71, 72, 73, 74, 75, 76, 77, 78, 79, 80, 81, 82, 83, 84, 85, 86, 87, 88, 89, 90, 91, 92, 93, 94, 95, 96, 97, 98, 99, 100, 101, 102, 103, 104, 105, 106, 107, 108, 109, 110, 111, 112, 113, 114, 115, 116, 117, 118, 119, 120, 121, 122, 123, 124, 125] rfl (by decide +kernel)
set_option maxRecDepth 20000 in
theorem gX13_move_X13_isStatue : GoodIn wsX13_move (wsV RX13 447 RX13 yX13_isStatue wsX13_isStatue) := goodIn_app (goodIn_of _ (by decide +kernel)) ggX13_move_X13_isStatue
set_option maxRecDepth 20000 in
theorem ggX13_move_X13_isWay : GoodIn wsX13_move wsX13_isWay := goodIn_r _ [15, 11, 49, 50, 51, 52, 53, 54, 55, 56, 57, 58, 59, 60, 61, 62, 63, 64, 65, 66, 67, 68, 69, 70, 71, 72, 73, 74, 75, 76, 77, 78, 79, 80, 81, 82, 83, 84, 85, 86, 87, 88, 89, 90, 91, 92, 93, 94, 95, 96, 97, 98, 99, 100, 101, 102, 103, 104, 105, 106, 107, 108, 109, 110, 111, 112, 113, 114, 115, 116, 117, 118, 119, 120, 121, 122, 123, 124, 125] rfl (by decide +kernel)
set_option maxRecDepth 20000 in
theorem gX13_move_X13_isWay : GoodIn wsX13_move (wsV RX13 444 RX13 yX13_isWay wsX13_isWay) := goodIn_app (goodIn_of _ (by decide +kernel)) ggX13_move_X13_isWay
set_option maxRecDepth 20000 in
theorem ggX13_move_X13_isRoad : GoodIn wsX13_move wsX13_isRoad := goodIn_r _ [19, 11, 49, 50, 51, 52, 53, 54, 55, 56, 57, 58, 59, 60, 61, 62, 63, 64, 65, 66, 67, 68, 69, 70, 71, 72, 73, 74, 75, 76, 77, 78, 79, 80, 81, 82, 83, 84, 85, 86, 87, 88, 89, 90, 91, 92, 93, 94, 95, 96, 97, 98, 99, 100, 101, 102, 103, 104, 105, 106, 107, 108, 109, 110, 111, 112, 113, 114, 115, 116, 117, 118, 119, 120, 121, 122, 123, 124, 125] rfl (by decide +kernel)
set_option maxRecDepth 20000 in
theorem gX13_move_X13_isRoad : GoodIn wsX13_move (wsV RX13 457 RX13 yX13_isRoad wsX13_isRoad) := goodIn_app (goodIn_of _ (by decide +kernel)) ggX13_move_X13_isRoad
set_option maxRecDepth 20000 in
theorem ggX13_move_X13_denied : GoodIn wsX13_move wsX13_denied := goodIn_r _ [23, 24, 25, 26, 9, 27, 28, 29, 49, 50, 51, 52, 53, 54, 55, 56, 57, 58, 59, 60, 61, 62, 63, 64, 65, 66, 67, 68, 69, 70, 71, 72, 73, 74, 75, 76, 77] rfl (by decide +kernel)
set_option maxRecDepth 20000 in
theorem gX13_move_X13_denied : GoodIn wsX13_move (wsV RX13 483 RX13 yX13_denied wsX13_denied) := goodIn_app (goodIn_of _ (by decide +kernel)) ggX13_move_X13_denied
set_option maxRecDepth 20000 in
theorem ggX13_move_X13_in : GoodIn wsX13_move wsX13_in := goodIn_r _ [32] rfl (by decide +kernel)
set_option maxRecDepth 20000 in
theorem gX13_move_X13_in : GoodIn wsX13_move (va_wsS RX13 108 yX13_in wsX13_in) := goodIn_app (goodIn_of _ (by decide +kernel)) ggX13_move_X13_in
set_option maxRecDepth 20000 in
theorem ggX13_move_X13_startsAnew : GoodIn wsX13_move wsX13_startsAnew := goodIn_r _ [36, 37, 38, 39, 40, 49, 50, 51, 52, 53, 54, 55, 56, 57, 58, 59, 60, 61, 62, 63, 64, 65, 66, 67, 68, 69, 70, 71, 72, 73, 74, 75, 76, 77] rfl (by decide +kernel)
set_option maxRecDepth 20000 in
theorem gX13_move_X13_startsAnew : GoodIn wsX13_move (wsV RX13 497 RX13 yX13_startsAnew wsX13_startsAnew) := goodIn_app (goodIn_of _ (by decide +kernel)) ggX13_move_X13_startsAnew
set_option maxRecDepth 20000 in
theorem ggX13_move_X13_granted : GoodIn wsX13_move wsX13_granted := goodIn_r _ [44, 45, 46, 47, 9, 48, 28, 29, 49, 50, 51, 52, 53, 54, 55, 56, 57, 58, 59, 60, 61, 62, 63, 64, 65, 66, 67, 68, 69, 70, 71, 72, 73, 74, 75, 76, 77] rfl (by decide +kernel)
set_option maxRecDepth 20000 in
theorem gX13_move_X13_granted : GoodIn wsX13_move (wsV RX13 487 RX13 yX13_granted wsX13_granted) := goodIn_app (goodIn_of _ (by decide +kernel)) ggX13_move_X13_granted
theorem dX13_move_0 : decode cX13_move 0 = .ok (.aload_n 0, 1) := by decide +kernel
theorem dX13_move_1 : decode cX13_move 1 = .ok (.iconst 0, 1) := by decide +kernel
theorem dX13_move_2 : decode cX13_move 2 = .ok (.putfield 30, 3) := by decide +kernel
theorem dX13_move_5 : decode cX13_move 5 = .ok (.aload_n 0, 1) := by decide +kernel
theorem dX13_move_6 : decode cX13_move 6 = .ok (.iload_n 1, 1) := by decide +kernel
theorem dX13_move_7 : decode cX13_move 7 = .ok (.invokevirtual 447, 3) := by decide +kernel
theorem dX13_move_10 : decode cX13_move 10 = .ok (.ifCond .eq 19, 3) := by decide +kernel
theorem dX13_move_13 : decode cX13_move 13 = .ok (.aload_n 0, 1) := by decide +kernel
theorem dX13_move_14 : decode cX13_move 14 = .ok (.iload_n 2, 1) := by decide +kernel
theorem dX13_move_15 : decode cX13_move 15 = .ok (.invokevirtual 444, 3) := by decide +kernel
theorem dX13_move_18 : decode cX13_move 18 = .ok (.ifCond .eq 11, 3) := by decide +kernel
theorem dX13_move_21 : decode cX13_move 21 = .ok (.aload_n 0, 1) := by decide +kernel
theorem dX13_move_22 : decode cX13_move 22 = .ok (.iload_n 3, 1) := by decide +kernel
theorem dX13_move_23 : decode cX13_move 23 = .ok (.invokevirtual 457, 3) := by decide +kernel
theorem dX13_move_26 : decode cX13_move 26 = .ok (.ifCond .ne 9, 3) := by decide +kernel
theorem dX13_move_29 : decode cX13_move 29 = .ok (.aload_n 0, 1) := by decide +kernel
theorem dX13_move_30 : decode cX13_move 30 = .ok (.iconst 1, 1) := by decide +kernel
theorem dX13_move_31 : decode cX13_move 31 = .ok (.invokevirtual 483, 3) := by decide +kernel
theorem dX13_move_34 : decode cX13_move 34 = .ok (.ireturn, 1) := by decide +kernel
theorem dX13_move_35 : decode cX13_move 35 = .ok (.iload 4, 2) := by decide +kernel
theorem dX13_move_37 : decode cX13_move 37 = .ok (.iconst 1, 1) := by decide +kernel
theorem dX13_move_38 : decode cX13_move 38 = .ok (.sipush 200, 3) := by decide +kernel
theorem dX13_move_41 : decode cX13_move 41 = .ok (.invokestatic 108, 3) := by decide +kernel
theorem dX13_move_44 : decode cX13_move 44 = .ok (.ifCond .ne 9, 3) := by decide +kernel
theorem dX13_move_47 : decode cX13_move 47 = .ok (.aload_n 0, 1) := by decide +kernel
theorem dX13_move_48 : decode cX13_move 48 = .ok (.iconst 2, 1) := by decide +kernel
theorem dX13_move_49 : decode cX13_move 49 = .ok (.invokevirtual 483, 3) := by decide +kernel
theorem dX13_move_52 : decode cX13_move 52 = .ok (.ireturn, 1) := by decide +kernel
theorem dX13_move_53 : decode cX13_move 53 = .ok (.aload_n 0, 1) := by decide +kernel
theorem dX13_move_54 : decode cX13_move 54 = .ok (.iload_n 1, 1) := by decide +kernel
theorem dX13_move_55 : decode cX13_move 55 = .ok (.putfield 17, 3) := by decide +kernel
theorem dX13_move_58 : decode cX13_move 58 = .ok (.aload_n 0, 1) := by decide +kernel
theorem dX13_move_59 : decode cX13_move 59 = .ok (.iload_n 2, 1) := by decide +kernel
theorem dX13_move_60 : decode cX13_move 60 = .ok (.putfield 490, 3) := by decide +kernel
theorem dX13_move_63 : decode cX13_move 63 = .ok (.aload_n 0, 1) := by decide +kernel
theorem dX13_move_64 : decode cX13_move 64 = .ok (.iload_n 3, 1) := by decide +kernel
theorem dX13_move_65 : decode cX13_move 65 = .ok (.putfield 493, 3) := by decide +kernel
theorem dX13_move_68 : decode cX13_move 68 = .ok (.aload_n 0, 1) := by decide +kernel
theorem dX13_move_69 : decode cX13_move 69 = .ok (.iload 4, 2) := by decide +kernel
theorem dX13_move_71 : decode cX13_move 71 = .ok (.putfield 496, 3) := by decide +kernel
theorem dX13_move_74 : decode cX13_move 74 = .ok (.aload_n 0, 1) := by decide +kernel
theorem dX13_move_75 : decode cX13_move 75 = .ok (.invokevirtual 497, 3) := by decide +kernel
theorem dX13_move_78 : decode cX13_move 78 = .ok (.aload_n 0, 1) := by decide +kernel
theorem dX13_move_79 : decode cX13_move 79 = .ok (.invokevirtual 487, 3) := by decide +kernel
theorem dX13_move_82 : decode cX13_move 82 = .ok (.ireturn, 1) := by decide +kernel
theorem dX13_startsAnew_0 : decode cX13_startsAnew 0 = .ok (.aload_n 0, 1) := by decide +kernel
theorem dX13_startsAnew_1 : decode cX13_startsAnew 1 = .ok (.iconst 1, 1) := by decide +kernel
theorem dX13_startsAnew_2 : decode cX13_startsAnew 2 = .ok (.putfield 500, 3) := by decide +kernel
theorem dX13_startsAnew_5 : decode cX13_startsAnew 5 = .ok (.aload_n 0, 1) := by decide +kernel
theorem dX13_startsAnew_6 : decode cX13_startsAnew 6 = .ok (.iconst 0, 1) := by decide +kernel
theorem dX13_startsAnew_7 : decode cX13_startsAnew 7 = .ok (.putfield 503, 3) := by decide +kernel
theorem dX13_startsAnew_10 : decode cX13_startsAnew 10 = .ok (.aload_n 0, 1) := by decide +kernel
theorem dX13_startsAnew_11 : decode cX13_startsAnew 11 = .ok (.iconst 0, 1) := by decide +kernel
theorem dX13_startsAnew_12 : decode cX13_startsAnew 12 = .ok (.putfield 506, 3) := by decide +kernel
theorem dX13_startsAnew_15 : decode cX13_startsAnew 15 = .ok (.aload_n 0, 1) := by decide +kernel
theorem dX13_startsAnew_16 : decode cX13_startsAnew 16 = .ok (.bipush (-2), 2) := by decide +kernel
theorem dX13_startsAnew_18 : decode cX13_startsAnew 18 = .ok (.putfield 509, 3) := by decide +kernel
theorem dX13_startsAnew_21 : decode cX13_startsAnew 21 = .ok (.return_, 1) := by decide +kernel
theorem dX13_drawn_0 : decode cX13_drawn 0 = .ok (.aload_n 0, 1) := by decide +kernel
theorem dX13_drawn_1 : decode cX13_drawn 1 = .ok (.ldc2_w 512, 3) := by decide +kernel
theorem dX13_drawn_4 : decode cX13_drawn 4 = .ok (.aload_n 0, 1) := by decide +kernel
theorem dX13_drawn_5 : decode cX13_drawn 5 = .ok (.getfield 437, 3) := by decide +kernel
theorem dX13_drawn_8 : decode cX13_drawn 8 = .ok (.i2l, 1) := by decide +kernel
theorem dX13_drawn_9 : decode cX13_drawn 9 = .ok (.lmul, 1) := by decide +kernel
theorem dX13_drawn_10 : decode cX13_drawn 10 = .ok (.ldc2_w 514, 3) := by decide +kernel
theorem dX13_drawn_13 : decode cX13_drawn 13 = .ok (.ladd, 1) := by decide +kernel
theorem dX13_drawn_14 : decode cX13_drawn 14 = .ok (.ldc2_w 516, 3) := by decide +kernel
theorem dX13_drawn_17 : decode cX13_drawn 17 = .ok (.lrem, 1) := by decide +kernel
theorem dX13_drawn_18 : decode cX13_drawn 18 = .ok (.l2i, 1) := by decide +kernel
theorem dX13_drawn_19 : decode cX13_drawn 19 = .ok (.putfield 437, 3) := by decide +kernel
theorem dX13_drawn_22 : decode cX13_drawn 22 = .ok (.aload_n 0, 1) := by decide +kernel
theorem dX13_drawn_23 : decode cX13_drawn 23 = .ok (.getfield 437, 3) := by decide +kernel
theorem dX13_drawn_26 : decode cX13_drawn 26 = .ok (.iload_n 1, 1) := by decide +kernel
theorem dX13_drawn_27 : decode cX13_drawn 27 = .ok (.irem, 1) := by decide +kernel
theorem dX13_drawn_28 : decode cX13_drawn 28 = .ok (.ireturn, 1) := by decide +kernel
set_option maxRecDepth 20000 in
theorem ggX13_steps_X12_slopeAt : GoodIn wsX13_steps wsX12_slopeAt := goodIn_r _ [13, 14, 82, 83, 84, 85, 86, 87, 88, 89, 90, 91, 92, 93, 94, 95, 96, 97, 98, 99, 100, 101, 102, 103, 104, 105, 106, 107, 108, 109, 110, 111, 112, 113, 114, 115, 116, 117, 118, 119, 120, 121, 122, 123, 124, 125, 126, 127, 128, 129] rfl (by decide +kernel)
set_option maxRecDepth 20000 in
theorem gX13_steps_X12_slopeAt : GoodIn wsX13_steps (wsV RX13 460 RX12 yX12_slopeAt wsX12_slopeAt) := goodIn_app (goodIn_of _ (by decide +kernel)) ggX13_steps_X12_slopeAt
set_option maxRecDepth 20000 in
theorem ggX13_steps_X13_canBy : GoodIn wsX13_steps wsX13_canBy := goodIn_r _ [19, 1, 20, 21, 18, 22, 23, 24, 25, 53, 54, 55, 56, 57, 58, 59, 60, 61, 62, 63, 64, 65, 66, 67, 68, 69, 70, 71, 72, 73, 74, 75, 76, 77, 78, 79, 80, 81, 82, 83, 84, 85, 86, 87, 88, 89, 90, 91, 92, 93, 94, 95, 96, 97, 98, 99, 100, 101, 102, 103, 104, 105, 106, 107, 108, 109, 110, 111, 112, 113, 114, 115, 116, 117, 118, 119, 120, 121, 122, 123, 124, 125, 126, 127, 128, 129] rfl (by decide +kernel)
set_option maxRecDepth 20000 in
theorem gX13_steps_X13_canBy : GoodIn wsX13_steps (wsV RX13 454 RX13 yX13_canBy wsX13_canBy) := goodIn_app (goodIn_of _ (by decide +kernel)) ggX13_steps_X13_canBy
set_option maxRecDepth 20000 in
theorem ggX13_steps_X13_needBy : GoodIn wsX13_steps wsX13_needBy := goodIn_r _ [29, 1, 30, 31, 18, 32, 53, 54, 55, 56, 57, 58, 59, 60, 61, 62, 63, 64, 65, 66, 67, 68, 69, 70, 71, 72, 73, 74, 75, 76, 77, 78, 79, 80, 81, 82, 83, 84, 85, 86, 87, 88, 89, 90, 91, 92, 93, 94, 95, 96, 97, 98, 99, 100, 101, 102, 103, 104, 105, 106, 107, 108, 109, 110, 111, 112, 113, 114, 115, 116, 117, 118, 119, 120, 121, 122, 123, 124, 125, 126, 127, 128, 129] rfl (by decide +kernel)
set_option maxRecDepth 20000 in
theorem gX13_steps_X13_needBy : GoodIn wsX13_steps (wsV RX13 468 RX13 yX13_needBy wsX13_needBy) := goodIn_app (goodIn_of _ (by decide +kernel)) ggX13_steps_X13_needBy
set_option maxRecDepth 20000 in
theorem ggX13_steps_X13_minutesBy : GoodIn wsX13_steps wsX13_minutesBy := goodIn_r _ [36, 1, 30, 31, 18, 32, 53, 54, 55, 56, 57, 58, 59, 60, 61, 62, 63, 64, 65, 66, 67, 68, 69, 70, 71, 72, 73, 74, 75, 76, 77, 78, 79, 80, 81, 82, 83, 84, 85, 86, 87, 88, 89, 90, 91, 92, 93, 94, 95, 96, 97, 98, 99, 100, 101, 102, 103, 104, 105, 106, 107, 108, 109, 110, 111, 112, 113, 114, 115, 116, 117, 118, 119, 120, 121, 122, 123, 124, 125, 126, 127, 128, 129] rfl (by decide +kernel)
set_option maxRecDepth 20000 in
theorem gX13_steps_X13_minutesBy : GoodIn wsX13_steps (wsV RX13 471 RX13 yX13_minutesBy wsX13_minutesBy) := goodIn_app (goodIn_of _ (by decide +kernel)) ggX13_steps_X13_minutesBy
set_option maxRecDepth 20000 in
theorem ggX13_steps_X13_chanceBy : GoodIn wsX13_steps wsX13_chanceBy := goodIn_r _ [40, 1, 53, 54, 55, 56, 57, 58, 59, 60, 61, 62, 63, 64, 65, 66, 67, 68, 69, 70, 71, 72, 73, 74, 75, 76, 77, 78, 79, 80, 81, 82, 83, 84, 85, 86, 87, 88, 89, 90, 91, 92, 93, 94, 95, 96, 97, 98, 99, 100, 101, 102, 103, 104, 105, 106, 107, 108, 109, 110, 111, 112, 113, 114, 115, 116, 117, 118, 119, 120, 121, 122, 123, 124, 125, 126, 127, 128, 129] rfl (by decide +kernel)
set_option maxRecDepth 20000 in
theorem gX13_steps_X13_chanceBy : GoodIn wsX13_steps (wsV RX13 474 RX13 yX13_chanceBy wsX13_chanceBy) := goodIn_app (goodIn_of _ (by decide +kernel)) ggX13_steps_X13_chanceBy
set_option maxRecDepth 20000 in
theorem ggX13_steps_X13_drawn : GoodIn wsX13_steps wsX13_drawn := goodIn_r _ [44, 45, 46, 47, 48, 53, 54, 55, 56, 57, 58, 59, 60, 61, 62, 63, 64, 65, 66, 67, 68, 69, 70, 71, 72, 73, 74, 75, 76, 77, 78, 79, 80, 81] rfl (by decide +kernel)
set_option maxRecDepth 20000 in
theorem gX13_steps_X13_drawn : GoodIn wsX13_steps (wsV RX13 518 RX13 yX13_drawn wsX13_drawn) := goodIn_app (goodIn_of _ (by decide +kernel)) ggX13_steps_X13_drawn
set_option maxRecDepth 20000 in
theorem ggX13_steps_X13_tenths : GoodIn wsX13_steps wsX13_tenths := goodIn_r _ [52, 1, 53, 54, 55, 56, 57, 58, 59, 60, 61, 62, 63, 64, 65, 66, 67, 68, 69, 70, 71, 72, 73, 74, 75, 76, 77, 78, 79, 80, 81, 82, 83, 84, 85, 86, 87, 88, 89, 90, 91, 92, 93, 94, 95, 96, 97, 98, 99, 100, 101, 102, 103, 104, 105, 106, 107, 108, 109, 110, 111, 112, 113, 114, 115, 116, 117, 118, 119, 120, 121, 122, 123, 124, 125, 126, 127, 128, 129] rfl (by decide +kernel)
set_option maxRecDepth 20000 in
theorem gX13_steps_X13_tenths : GoodIn wsX13_steps (wsV RX13 477 RX13 yX13_tenths wsX13_tenths) := goodIn_app (goodIn_of _ (by decide +kernel)) ggX13_steps_X13_tenths
theorem dX13_steps_0 : decode cX13_steps 0 = .ok (.aload_n 0, 1) := by decide +kernel
theorem dX13_steps_1 : decode cX13_steps 1 = .ok (.getfield 431, 3) := by decide +kernel
theorem dX13_steps_4 : decode cX13_steps 4 = .ok (.aload_n 0, 1) := by decide +kernel
theorem dX13_steps_5 : decode cX13_steps 5 = .ok (.getfield 493, 3) := by decide +kernel
theorem dX13_steps_8 : decode cX13_steps 8 = .ok (.aload_n 0, 1) := by decide +kernel
theorem dX13_steps_9 : decode cX13_steps 9 = .ok (.getfield 503, 3) := by decide +kernel
theorem dX13_steps_12 : decode cX13_steps 12 = .ok (.invokevirtual 460, 3) := by decide +kernel
theorem dX13_steps_15 : decode cX13_steps 15 = .ok (.istore_n 1, 1) := by decide +kernel
theorem dX13_steps_16 : decode cX13_steps 16 = .ok (.aload_n 0, 1) := by decide +kernel
theorem dX13_steps_17 : decode cX13_steps 17 = .ok (.aload_n 0, 1) := by decide +kernel
theorem dX13_steps_18 : decode cX13_steps 18 = .ok (.getfield 490, 3) := by decide +kernel
theorem dX13_steps_21 : decode cX13_steps 21 = .ok (.aload_n 0, 1) := by decide +kernel
theorem dX13_steps_22 : decode cX13_steps 22 = .ok (.getfield 17, 3) := by decide +kernel
theorem dX13_steps_25 : decode cX13_steps 25 = .ok (.iload_n 1, 1) := by decide +kernel
theorem dX13_steps_26 : decode cX13_steps 26 = .ok (.invokevirtual 454, 3) := by decide +kernel
theorem dX13_steps_29 : decode cX13_steps 29 = .ok (.ifCond .ne 5, 3) := by decide +kernel
theorem dX13_steps_32 : decode cX13_steps 32 = .ok (.iconst 4, 1) := by decide +kernel
theorem dX13_steps_33 : decode cX13_steps 33 = .ok (.ireturn, 1) := by decide +kernel
theorem dX13_steps_34 : decode cX13_steps 34 = .ok (.aload_n 0, 1) := by decide +kernel
theorem dX13_steps_35 : decode cX13_steps 35 = .ok (.aload_n 0, 1) := by decide +kernel
theorem dX13_steps_36 : decode cX13_steps 36 = .ok (.getfield 490, 3) := by decide +kernel
theorem dX13_steps_39 : decode cX13_steps 39 = .ok (.aload_n 0, 1) := by decide +kernel
theorem dX13_steps_40 : decode cX13_steps 40 = .ok (.getfield 431, 3) := by decide +kernel
theorem dX13_steps_43 : decode cX13_steps 43 = .ok (.getfield 301, 3) := by decide +kernel
theorem dX13_steps_46 : decode cX13_steps 46 = .ok (.aload_n 0, 1) := by decide +kernel
theorem dX13_steps_47 : decode cX13_steps 47 = .ok (.getfield 17, 3) := by decide +kernel
theorem dX13_steps_50 : decode cX13_steps 50 = .ok (.iaload, 1) := by decide +kernel
theorem dX13_steps_51 : decode cX13_steps 51 = .ok (.iload_n 1, 1) := by decide +kernel
theorem dX13_steps_52 : decode cX13_steps 52 = .ok (.invokevirtual 468, 3) := by decide +kernel
theorem dX13_steps_55 : decode cX13_steps 55 = .ok (.istore_n 2, 1) := by decide +kernel
theorem dX13_steps_56 : decode cX13_steps 56 = .ok (.aload_n 0, 1) := by decide +kernel
theorem dX13_steps_57 : decode cX13_steps 57 = .ok (.getfield 496, 3) := by decide +kernel
theorem dX13_steps_60 : decode cX13_steps 60 = .ok (.iload_n 2, 1) := by decide +kernel
theorem dX13_steps_61 : decode cX13_steps 61 = .ok (.if_icmp .ge 5, 3) := by decide +kernel
theorem dX13_steps_64 : decode cX13_steps 64 = .ok (.iconst 5, 1) := by decide +kernel
theorem dX13_steps_65 : decode cX13_steps 65 = .ok (.ireturn, 1) := by decide +kernel
theorem dX13_steps_66 : decode cX13_steps 66 = .ok (.aload_n 0, 1) := by decide +kernel
theorem dX13_steps_67 : decode cX13_steps 67 = .ok (.dup, 1) := by decide +kernel
theorem dX13_steps_68 : decode cX13_steps 68 = .ok (.getfield 506, 3) := by decide +kernel
theorem dX13_steps_71 : decode cX13_steps 71 = .ok (.aload_n 0, 1) := by decide +kernel
theorem dX13_steps_72 : decode cX13_steps 72 = .ok (.aload_n 0, 1) := by decide +kernel
theorem dX13_steps_73 : decode cX13_steps 73 = .ok (.getfield 490, 3) := by decide +kernel
theorem dX13_steps_76 : decode cX13_steps 76 = .ok (.iload_n 2, 1) := by decide +kernel
theorem dX13_steps_77 : decode cX13_steps 77 = .ok (.aload_n 0, 1) := by decide +kernel
theorem dX13_steps_78 : decode cX13_steps 78 = .ok (.getfield 496, 3) := by decide +kernel
theorem dX13_steps_81 : decode cX13_steps 81 = .ok (.invokevirtual 471, 3) := by decide +kernel
theorem dX13_steps_84 : decode cX13_steps 84 = .ok (.iadd, 1) := by decide +kernel
theorem dX13_steps_85 : decode cX13_steps 85 = .ok (.putfield 506, 3) := by decide +kernel
theorem dX13_steps_88 : decode cX13_steps 88 = .ok (.aload_n 0, 1) := by decide +kernel
theorem dX13_steps_89 : decode cX13_steps 89 = .ok (.aload_n 0, 1) := by decide +kernel
theorem dX13_steps_90 : decode cX13_steps 90 = .ok (.getfield 490, 3) := by decide +kernel
theorem dX13_steps_93 : decode cX13_steps 93 = .ok (.aload_n 0, 1) := by decide +kernel
theorem dX13_steps_94 : decode cX13_steps 94 = .ok (.getfield 17, 3) := by decide +kernel
theorem dX13_steps_97 : decode cX13_steps 97 = .ok (.iload_n 1, 1) := by decide +kernel
theorem dX13_steps_98 : decode cX13_steps 98 = .ok (.invokevirtual 474, 3) := by decide +kernel
theorem dX13_steps_101 : decode cX13_steps 101 = .ok (.istore_n 3, 1) := by decide +kernel
theorem dX13_steps_102 : decode cX13_steps 102 = .ok (.iload_n 3, 1) := by decide +kernel
theorem dX13_steps_103 : decode cX13_steps 103 = .ok (.ifCond .le 73, 3) := by decide +kernel
theorem dX13_steps_106 : decode cX13_steps 106 = .ok (.aload_n 0, 1) := by decide +kernel
theorem dX13_steps_107 : decode cX13_steps 107 = .ok (.bipush 100, 2) := by decide +kernel
theorem dX13_steps_109 : decode cX13_steps 109 = .ok (.invokevirtual 518, 3) := by decide +kernel
theorem dX13_steps_112 : decode cX13_steps 112 = .ok (.iload_n 3, 1) := by decide +kernel
theorem dX13_steps_113 : decode cX13_steps 113 = .ok (.if_icmp .ge 63, 3) := by decide +kernel
theorem dX13_steps_116 : decode cX13_steps 116 = .ok (.aload_n 0, 1) := by decide +kernel
theorem dX13_steps_117 : decode cX13_steps 117 = .ok (.bipush 10, 2) := by decide +kernel
theorem dX13_steps_119 : decode cX13_steps 119 = .ok (.invokevirtual 518, 3) := by decide +kernel
theorem dX13_steps_122 : decode cX13_steps 122 = .ok (.istore 4, 2) := by decide +kernel
theorem dX13_steps_124 : decode cX13_steps 124 = .ok (.aload_n 0, 1) := by decide +kernel
theorem dX13_steps_125 : decode cX13_steps 125 = .ok (.aload_n 0, 1) := by decide +kernel
theorem dX13_steps_126 : decode cX13_steps 126 = .ok (.getfield 490, 3) := by decide +kernel
theorem dX13_steps_129 : decode cX13_steps 129 = .ok (.iload_n 1, 1) := by decide +kernel
theorem dX13_steps_130 : decode cX13_steps 130 = .ok (.iconst 0, 1) := by decide +kernel
theorem dX13_steps_131 : decode cX13_steps 131 = .ok (.invokevirtual 477, 3) := by decide +kernel
theorem dX13_steps_134 : decode cX13_steps 134 = .ok (.istore 5, 2) := by decide +kernel
theorem dX13_steps_136 : decode cX13_steps 136 = .ok (.aload_n 0, 1) := by decide +kernel
theorem dX13_steps_137 : decode cX13_steps 137 = .ok (.iload 4, 2) := by decide +kernel
theorem dX13_steps_139 : decode cX13_steps 139 = .ok (.iload 5, 2) := by decide +kernel
theorem dX13_steps_141 : decode cX13_steps 141 = .ok (.if_icmp .ge 7, 3) := by decide +kernel
theorem dX13_steps_144 : decode cX13_steps 144 = .ok (.iconst 0, 1) := by decide +kernel
theorem dX13_steps_145 : decode cX13_steps 145 = .ok (.goto 26, 3) := by decide +kernel
theorem dX13_steps_148 : decode cX13_steps 148 = .ok (.iload 4, 2) := by decide +kernel
theorem dX13_steps_150 : decode cX13_steps 150 = .ok (.iload 5, 2) := by decide +kernel
theorem dX13_steps_152 : decode cX13_steps 152 = .ok (.aload_n 0, 1) := by decide +kernel
theorem dX13_steps_153 : decode cX13_steps 153 = .ok (.aload_n 0, 1) := by decide +kernel
theorem dX13_steps_154 : decode cX13_steps 154 = .ok (.getfield 490, 3) := by decide +kernel
theorem dX13_steps_157 : decode cX13_steps 157 = .ok (.iload_n 1, 1) := by decide +kernel
theorem dX13_steps_158 : decode cX13_steps 158 = .ok (.iconst 1, 1) := by decide +kernel
theorem dX13_steps_159 : decode cX13_steps 159 = .ok (.invokevirtual 477, 3) := by decide +kernel
theorem dX13_steps_162 : decode cX13_steps 162 = .ok (.iadd, 1) := by decide +kernel
theorem dX13_steps_163 : decode cX13_steps 163 = .ok (.if_icmp .ge 7, 3) := by decide +kernel
theorem dX13_steps_166 : decode cX13_steps 166 = .ok (.iconst 1, 1) := by decide +kernel
theorem dX13_steps_167 : decode cX13_steps 167 = .ok (.goto 4, 3) := by decide +kernel
theorem dX13_steps_170 : decode cX13_steps 170 = .ok (.iconst 2, 1) := by decide +kernel
theorem dX13_steps_171 : decode cX13_steps 171 = .ok (.putfield 509, 3) := by decide +kernel
theorem dX13_steps_174 : decode cX13_steps 174 = .ok (.iconst 3, 1) := by decide +kernel
theorem dX13_steps_175 : decode cX13_steps 175 = .ok (.ireturn, 1) := by decide +kernel
theorem dX13_steps_176 : decode cX13_steps 176 = .ok (.aload_n 0, 1) := by decide +kernel
theorem dX13_steps_177 : decode cX13_steps 177 = .ok (.dup, 1) := by decide +kernel
theorem dX13_steps_178 : decode cX13_steps 178 = .ok (.getfield 503, 3) := by decide +kernel
theorem dX13_steps_181 : decode cX13_steps 181 = .ok (.iconst 1, 1) := by decide +kernel
theorem dX13_steps_182 : decode cX13_steps 182 = .ok (.iadd, 1) := by decide +kernel
theorem dX13_steps_183 : decode cX13_steps 183 = .ok (.putfield 503, 3) := by decide +kernel
theorem dX13_steps_186 : decode cX13_steps 186 = .ok (.aload_n 0, 1) := by decide +kernel
theorem dX13_steps_187 : decode cX13_steps 187 = .ok (.getfield 503, 3) := by decide +kernel
theorem dX13_steps_190 : decode cX13_steps 190 = .ok (.aload_n 0, 1) := by decide +kernel
theorem dX13_steps_191 : decode cX13_steps 191 = .ok (.getfield 431, 3) := by decide +kernel
theorem dX13_steps_194 : decode cX13_steps 194 = .ok (.getfield 266, 3) := by decide +kernel
theorem dX13_steps_197 : decode cX13_steps 197 = .ok (.aload_n 0, 1) := by decide +kernel
theorem dX13_steps_198 : decode cX13_steps 198 = .ok (.getfield 493, 3) := by decide +kernel
theorem dX13_steps_201 : decode cX13_steps 201 = .ok (.iaload, 1) := by decide +kernel
theorem dX13_steps_202 : decode cX13_steps 202 = .ok (.if_icmp .ne 7, 3) := by decide +kernel
theorem dX13_steps_205 : decode cX13_steps 205 = .ok (.iconst 2, 1) := by decide +kernel
theorem dX13_steps_206 : decode cX13_steps 206 = .ok (.goto 4, 3) := by decide +kernel
theorem dX13_steps_209 : decode cX13_steps 209 = .ok (.iconst 1, 1) := by decide +kernel
theorem dX13_steps_210 : decode cX13_steps 210 = .ok (.ireturn, 1) := by decide +kernel
set_option maxRecDepth 20000 in
theorem ggX13_step_X13_refused : GoodIn wsX13_step wsX13_refused := goodIn_r _ [8, 9, 10, 69, 70, 71, 72, 73, 74, 75, 76, 77, 78, 79, 80, 81, 82, 83, 84, 85, 86, 87, 88, 89, 90, 91, 92, 93, 94, 95, 96, 97] rfl (by decide +kernel)
set_option maxRecDepth 20000 in
theorem gX13_step_X13_refused : GoodIn wsX13_step (wsV RX13 36 RX13 yX13_refused wsX13_refused) := goodIn_app (goodIn_of _ (by decide +kernel)) ggX13_step_X13_refused
set_option maxRecDepth 20000 in
theorem ggX13_step_X13_steps : GoodIn wsX13_step wsX13_steps := goodIn_r _ [14, 15, 16, 17, 18, 2, 19, 20, 21, 22, 23, 24, 25, 26, 27, 28, 29, 30, 7, 31, 32, 33, 34, 35, 36, 37, 38, 39, 40, 41, 42, 43, 44, 45, 46, 47, 48, 49, 50, 51, 52, 53, 54, 55, 56, 57, 58, 59, 60, 61, 62, 63, 64, 69, 70, 71, 72, 73, 74, 75, 76, 77, 78, 79, 80, 81, 82, 83, 84, 85, 86, 87, 88, 89, 90, 91, 92, 93, 94, 95, 96, 97, 98, 99, 100, 101, 102, 103, 104, 105, 106, 107, 108, 109, 110, 111, 112, 113, 114, 115, 116, 117, 118, 119, 120, 121, 122, 123, 124, 125, 126, 127, 128, 129, 130, 131, 132, 133, 134, 135, 136, 137, 138, 139, 140, 141, 142, 143, 144, 145] rfl (by decide +kernel)
set_option maxRecDepth 20000 in
theorem gX13_step_X13_steps : GoodIn wsX13_step (wsV RX13 521 RX13 yX13_steps wsX13_steps) := goodIn_app (goodIn_of _ (by decide +kernel)) ggX13_step_X13_steps
set_option maxRecDepth 20000 in
theorem ggX13_step_X13_done : GoodIn wsX13_step wsX13_done := goodIn_r _ [68, 9, 10, 69, 70, 71, 72, 73, 74, 75, 76, 77, 78, 79, 80, 81, 82, 83, 84, 85, 86, 87, 88, 89, 90, 91, 92, 93, 94, 95, 96, 97] rfl (by decide +kernel)
set_option maxRecDepth 20000 in
theorem gX13_step_X13_done : GoodIn wsX13_step (wsV RX13 40 RX13 yX13_done wsX13_done) := goodIn_app (goodIn_of _ (by decide +kernel)) ggX13_step_X13_done
theorem dX13_step_0 : decode cX13_step 0 = .ok (.aload_n 0, 1) := by decide +kernel
theorem dX13_step_1 : decode cX13_step 1 = .ok (.iconst 0, 1) := by decide +kernel
theorem dX13_step_2 : decode cX13_step 2 = .ok (.putfield 30, 3) := by decide +kernel
theorem dX13_step_5 : decode cX13_step 5 = .ok (.aload_n 0, 1) := by decide +kernel
theorem dX13_step_6 : decode cX13_step 6 = .ok (.getfield 17, 3) := by decide +kernel
theorem dX13_step_9 : decode cX13_step 9 = .ok (.iconst (-1), 1) := by decide +kernel
theorem dX13_step_10 : decode cX13_step 10 = .ok (.if_icmp .ne 10, 3) := by decide +kernel
theorem dX13_step_13 : decode cX13_step 13 = .ok (.aload_n 0, 1) := by decide +kernel
theorem dX13_step_14 : decode cX13_step 14 = .ok (.bipush 6, 2) := by decide +kernel
theorem dX13_step_16 : decode cX13_step 16 = .ok (.invokevirtual 36, 3) := by decide +kernel
theorem dX13_step_19 : decode cX13_step 19 = .ok (.ireturn, 1) := by decide +kernel
theorem dX13_step_20 : decode cX13_step 20 = .ok (.aload_n 0, 1) := by decide +kernel
theorem dX13_step_21 : decode cX13_step 21 = .ok (.getfield 500, 3) := by decide +kernel
theorem dX13_step_24 : decode cX13_step 24 = .ok (.iconst 1, 1) := by decide +kernel
theorem dX13_step_25 : decode cX13_step 25 = .ok (.if_icmp .eq 9, 3) := by decide +kernel
theorem dX13_step_28 : decode cX13_step 28 = .ok (.aload_n 0, 1) := by decide +kernel
theorem dX13_step_29 : decode cX13_step 29 = .ok (.iconst 5, 1) := by decide +kernel
theorem dX13_step_30 : decode cX13_step 30 = .ok (.invokevirtual 36, 3) := by decide +kernel
theorem dX13_step_33 : decode cX13_step 33 = .ok (.ireturn, 1) := by decide +kernel
theorem dX13_step_34 : decode cX13_step 34 = .ok (.aload_n 0, 1) := by decide +kernel
theorem dX13_step_35 : decode cX13_step 35 = .ok (.aload_n 0, 1) := by decide +kernel
theorem dX13_step_36 : decode cX13_step 36 = .ok (.invokevirtual 521, 3) := by decide +kernel
theorem dX13_step_39 : decode cX13_step 39 = .ok (.putfield 500, 3) := by decide +kernel
theorem dX13_step_42 : decode cX13_step 42 = .ok (.aload_n 0, 1) := by decide +kernel
theorem dX13_step_43 : decode cX13_step 43 = .ok (.aload_n 0, 1) := by decide +kernel
theorem dX13_step_44 : decode cX13_step 44 = .ok (.getfield 500, 3) := by decide +kernel
theorem dX13_step_47 : decode cX13_step 47 = .ok (.invokevirtual 40, 3) := by decide +kernel
theorem dX13_step_50 : decode cX13_step 50 = .ok (.ireturn, 1) := by decide +kernel
set_option maxRecDepth 20000 in
theorem ggX13_call_X13_denied : GoodIn wsX13_call wsX13_denied := goodIn_r _ [9, 10, 11, 12, 8, 13, 14, 15, 27, 28, 29, 30, 31, 32, 33, 34, 35, 36, 37, 38, 39, 40, 41, 42, 43, 44, 45, 46, 47, 48, 49, 50, 51, 52, 53, 54, 55] rfl (by decide +kernel)
set_option maxRecDepth 20000 in
theorem gX13_call_X13_denied : GoodIn wsX13_call (wsV RX13 483 RX13 yX13_denied wsX13_denied) := goodIn_app (goodIn_of _ (by decide +kernel)) ggX13_call_X13_denied
set_option maxRecDepth 20000 in
theorem ggX13_call_X13_in : GoodIn wsX13_call wsX13_in := goodIn_r _ [18] rfl (by decide +kernel)
set_option maxRecDepth 20000 in
theorem gX13_call_X13_in : GoodIn wsX13_call (va_wsS RX13 108 yX13_in wsX13_in) := goodIn_app (goodIn_of _ (by decide +kernel)) ggX13_call_X13_in
set_option maxRecDepth 20000 in
theorem ggX13_call_X13_granted : GoodIn wsX13_call wsX13_granted := goodIn_r _ [22, 23, 24, 25, 8, 26, 14, 15, 27, 28, 29, 30, 31, 32, 33, 34, 35, 36, 37, 38, 39, 40, 41, 42, 43, 44, 45, 46, 47, 48, 49, 50, 51, 52, 53, 54, 55] rfl (by decide +kernel)
set_option maxRecDepth 20000 in
theorem gX13_call_X13_granted : GoodIn wsX13_call (wsV RX13 487 RX13 yX13_granted wsX13_granted) := goodIn_app (goodIn_of _ (by decide +kernel)) ggX13_call_X13_granted
theorem dX13_call_0 : decode cX13_call 0 = .ok (.aload_n 0, 1) := by decide +kernel
theorem dX13_call_1 : decode cX13_call 1 = .ok (.iconst 0, 1) := by decide +kernel
theorem dX13_call_2 : decode cX13_call 2 = .ok (.putfield 30, 3) := by decide +kernel
theorem dX13_call_5 : decode cX13_call 5 = .ok (.aload_n 0, 1) := by decide +kernel
theorem dX13_call_6 : decode cX13_call 6 = .ok (.getfield 17, 3) := by decide +kernel
theorem dX13_call_9 : decode cX13_call 9 = .ok (.iconst (-1), 1) := by decide +kernel
theorem dX13_call_10 : decode cX13_call 10 = .ok (.if_icmp .ne 10, 3) := by decide +kernel
theorem dX13_call_13 : decode cX13_call 13 = .ok (.aload_n 0, 1) := by decide +kernel
theorem dX13_call_14 : decode cX13_call 14 = .ok (.bipush 6, 2) := by decide +kernel
theorem dX13_call_16 : decode cX13_call 16 = .ok (.invokevirtual 483, 3) := by decide +kernel
theorem dX13_call_19 : decode cX13_call 19 = .ok (.ireturn, 1) := by decide +kernel
theorem dX13_call_20 : decode cX13_call 20 = .ok (.iload_n 1, 1) := by decide +kernel
theorem dX13_call_21 : decode cX13_call 21 = .ok (.iconst 1, 1) := by decide +kernel
theorem dX13_call_22 : decode cX13_call 22 = .ok (.sipush 200, 3) := by decide +kernel
theorem dX13_call_25 : decode cX13_call 25 = .ok (.invokestatic 108, 3) := by decide +kernel
theorem dX13_call_28 : decode cX13_call 28 = .ok (.ifCond .ne 9, 3) := by decide +kernel
theorem dX13_call_31 : decode cX13_call 31 = .ok (.aload_n 0, 1) := by decide +kernel
theorem dX13_call_32 : decode cX13_call 32 = .ok (.iconst 2, 1) := by decide +kernel
theorem dX13_call_33 : decode cX13_call 33 = .ok (.invokevirtual 483, 3) := by decide +kernel
theorem dX13_call_36 : decode cX13_call 36 = .ok (.ireturn, 1) := by decide +kernel
theorem dX13_call_37 : decode cX13_call 37 = .ok (.aload_n 0, 1) := by decide +kernel
theorem dX13_call_38 : decode cX13_call 38 = .ok (.getfield 500, 3) := by decide +kernel
theorem dX13_call_41 : decode cX13_call 41 = .ok (.iconst 1, 1) := by decide +kernel
theorem dX13_call_42 : decode cX13_call 42 = .ok (.if_icmp .eq 17, 3) := by decide +kernel
theorem dX13_call_45 : decode cX13_call 45 = .ok (.aload_n 0, 1) := by decide +kernel
theorem dX13_call_46 : decode cX13_call 46 = .ok (.getfield 500, 3) := by decide +kernel
theorem dX13_call_49 : decode cX13_call 49 = .ok (.iconst 5, 1) := by decide +kernel
theorem dX13_call_50 : decode cX13_call 50 = .ok (.if_icmp .eq 9, 3) := by decide +kernel
theorem dX13_call_53 : decode cX13_call 53 = .ok (.aload_n 0, 1) := by decide +kernel
theorem dX13_call_54 : decode cX13_call 54 = .ok (.iconst 5, 1) := by decide +kernel
theorem dX13_call_55 : decode cX13_call 55 = .ok (.invokevirtual 483, 3) := by decide +kernel
theorem dX13_call_58 : decode cX13_call 58 = .ok (.ireturn, 1) := by decide +kernel
theorem dX13_call_59 : decode cX13_call 59 = .ok (.aload_n 0, 1) := by decide +kernel
theorem dX13_call_60 : decode cX13_call 60 = .ok (.iload_n 1, 1) := by decide +kernel
theorem dX13_call_61 : decode cX13_call 61 = .ok (.putfield 496, 3) := by decide +kernel
theorem dX13_call_64 : decode cX13_call 64 = .ok (.aload_n 0, 1) := by decide +kernel
theorem dX13_call_65 : decode cX13_call 65 = .ok (.iconst 1, 1) := by decide +kernel
theorem dX13_call_66 : decode cX13_call 66 = .ok (.putfield 500, 3) := by decide +kernel
theorem dX13_call_69 : decode cX13_call 69 = .ok (.aload_n 0, 1) := by decide +kernel
theorem dX13_call_70 : decode cX13_call 70 = .ok (.invokevirtual 487, 3) := by decide +kernel
theorem dX13_call_73 : decode cX13_call 73 = .ok (.ireturn, 1) := by decide +kernel
theorem dX13_woodOf_0 : decode cX13_woodOf 0 = .ok (.aload_n 0, 1) := by decide +kernel
theorem dX13_woodOf_1 : decode cX13_woodOf 1 = .ok (.getfield 431, 3) := by decide +kernel
theorem dX13_woodOf_4 : decode cX13_woodOf 4 = .ok (.getfield 247, 3) := by decide +kernel
theorem dX13_woodOf_7 : decode cX13_woodOf 7 = .ok (.iload_n 1, 1) := by decide +kernel
theorem dX13_woodOf_8 : decode cX13_woodOf 8 = .ok (.iaload, 1) := by decide +kernel
theorem dX13_woodOf_9 : decode cX13_woodOf 9 = .ok (.istore_n 3, 1) := by decide +kernel
theorem dX13_woodOf_10 : decode cX13_woodOf 10 = .ok (.iload_n 2, 1) := by decide +kernel
theorem dX13_woodOf_11 : decode cX13_woodOf 11 = .ok (.iload_n 3, 1) := by decide +kernel
theorem dX13_woodOf_12 : decode cX13_woodOf 12 = .ok (.iconst 1, 1) := by decide +kernel
theorem dX13_woodOf_13 : decode cX13_woodOf 13 = .ok (.if_icmp .ne 7, 3) := by decide +kernel
theorem dX13_woodOf_16 : decode cX13_woodOf 16 = .ok (.iconst 2, 1) := by decide +kernel
theorem dX13_woodOf_17 : decode cX13_woodOf 17 = .ok (.goto 22, 3) := by decide +kernel
theorem dX13_woodOf_20 : decode cX13_woodOf 20 = .ok (.iload_n 3, 1) := by decide +kernel
theorem dX13_woodOf_21 : decode cX13_woodOf 21 = .ok (.iconst 2, 1) := by decide +kernel
theorem dX13_woodOf_22 : decode cX13_woodOf 22 = .ok (.if_icmp .ne 7, 3) := by decide +kernel
theorem dX13_woodOf_25 : decode cX13_woodOf 25 = .ok (.iconst 4, 1) := by decide +kernel
theorem dX13_woodOf_26 : decode cX13_woodOf 26 = .ok (.goto 13, 3) := by decide +kernel
theorem dX13_woodOf_29 : decode cX13_woodOf 29 = .ok (.iload_n 3, 1) := by decide +kernel
theorem dX13_woodOf_30 : decode cX13_woodOf 30 = .ok (.iconst 3, 1) := by decide +kernel
theorem dX13_woodOf_31 : decode cX13_woodOf 31 = .ok (.if_icmp .ne 7, 3) := by decide +kernel
theorem dX13_woodOf_34 : decode cX13_woodOf 34 = .ok (.iconst 1, 1) := by decide +kernel
theorem dX13_woodOf_35 : decode cX13_woodOf 35 = .ok (.goto 4, 3) := by decide +kernel
theorem dX13_woodOf_38 : decode cX13_woodOf 38 = .ok (.iconst 0, 1) := by decide +kernel
theorem dX13_woodOf_39 : decode cX13_woodOf 39 = .ok (.imul, 1) := by decide +kernel
theorem dX13_woodOf_40 : decode cX13_woodOf 40 = .ok (.ireturn, 1) := by decide +kernel
set_option maxRecDepth 20000 in
theorem ggX13_at_X13_in : GoodIn wsX13_at wsX13_in := goodIn_r _ [14] rfl (by decide +kernel)
set_option maxRecDepth 20000 in
theorem gX13_at_X13_in : GoodIn wsX13_at (va_wsS RX13 108 yX13_in wsX13_in) := goodIn_app (goodIn_of _ (by decide +kernel)) ggX13_at_X13_in
set_option maxRecDepth 20000 in
theorem ggX13_at_X13_refused : GoodIn wsX13_at wsX13_refused := goodIn_r _ [18, 19, 20, 29, 30, 31, 32, 33, 34, 35, 36, 37, 38, 39, 40, 41, 42, 43, 44, 45, 46, 47, 48, 49, 50, 51, 52, 53, 54, 55, 56, 57] rfl (by decide +kernel)
set_option maxRecDepth 20000 in
theorem gX13_at_X13_refused : GoodIn wsX13_at (wsV RX13 36 RX13 yX13_refused wsX13_refused) := goodIn_app (goodIn_of _ (by decide +kernel)) ggX13_at_X13_refused
set_option maxRecDepth 20000 in
theorem ggX13_at_X13_done : GoodIn wsX13_at wsX13_done := goodIn_r _ [24, 19, 20, 29, 30, 31, 32, 33, 34, 35, 36, 37, 38, 39, 40, 41, 42, 43, 44, 45, 46, 47, 48, 49, 50, 51, 52, 53, 54, 55, 56, 57] rfl (by decide +kernel)
set_option maxRecDepth 20000 in
theorem gX13_at_X13_done : GoodIn wsX13_at (wsV RX13 40 RX13 yX13_done wsX13_done) := goodIn_app (goodIn_of _ (by decide +kernel)) ggX13_at_X13_done
set_option maxRecDepth 20000 in
theorem ggX13_at_X13_woodOf : GoodIn wsX13_at wsX13_woodOf := goodIn_r _ [28, 7, 29, 30, 31, 32, 33, 34, 35, 36, 37, 38, 39, 40, 41, 42, 43, 44, 45, 46, 47, 48, 49, 50, 51, 52, 53, 54, 55, 56, 57, 58, 59, 60, 61, 62, 63, 64, 65, 66, 67, 68, 69, 70, 71, 72, 73, 74, 75, 76, 77, 78, 79, 80, 81, 82, 83, 84, 85, 86, 87, 88, 89, 90, 91, 92, 93, 94, 95, 96, 97, 98, 99, 100, 101, 102, 103, 104, 105] rfl (by decide +kernel)
set_option maxRecDepth 20000 in
theorem gX13_at_X13_woodOf : GoodIn wsX13_at (wsV RX13 524 RX13 yX13_woodOf wsX13_woodOf) := goodIn_app (goodIn_of _ (by decide +kernel)) ggX13_at_X13_woodOf
theorem dX13_at_0 : decode cX13_at 0 = .ok (.aload_n 0, 1) := by decide +kernel
theorem dX13_at_1 : decode cX13_at 1 = .ok (.iconst 0, 1) := by decide +kernel
theorem dX13_at_2 : decode cX13_at 2 = .ok (.putfield 30, 3) := by decide +kernel
theorem dX13_at_5 : decode cX13_at 5 = .ok (.iload_n 1, 1) := by decide +kernel
theorem dX13_at_6 : decode cX13_at 6 = .ok (.iconst 0, 1) := by decide +kernel
theorem dX13_at_7 : decode cX13_at 7 = .ok (.bipush 8, 2) := by decide +kernel
theorem dX13_at_9 : decode cX13_at 9 = .ok (.invokestatic 108, 3) := by decide +kernel
theorem dX13_at_12 : decode cX13_at 12 = .ok (.ifCond .ne 9, 3) := by decide +kernel
theorem dX13_at_15 : decode cX13_at 15 = .ok (.aload_n 0, 1) := by decide +kernel
theorem dX13_at_16 : decode cX13_at 16 = .ok (.iconst 1, 1) := by decide +kernel
theorem dX13_at_17 : decode cX13_at 17 = .ok (.invokevirtual 36, 3) := by decide +kernel
theorem dX13_at_20 : decode cX13_at 20 = .ok (.ireturn, 1) := by decide +kernel
theorem dX13_at_21 : decode cX13_at 21 = .ok (.aload_n 0, 1) := by decide +kernel
theorem dX13_at_22 : decode cX13_at 22 = .ok (.getfield 17, 3) := by decide +kernel
theorem dX13_at_25 : decode cX13_at 25 = .ok (.iconst (-1), 1) := by decide +kernel
theorem dX13_at_26 : decode cX13_at 26 = .ok (.if_icmp .ne 10, 3) := by decide +kernel
theorem dX13_at_29 : decode cX13_at 29 = .ok (.aload_n 0, 1) := by decide +kernel
theorem dX13_at_30 : decode cX13_at 30 = .ok (.bipush 6, 2) := by decide +kernel
theorem dX13_at_32 : decode cX13_at 32 = .ok (.invokevirtual 36, 3) := by decide +kernel
theorem dX13_at_35 : decode cX13_at 35 = .ok (.ireturn, 1) := by decide +kernel
theorem dX13_at_36 : decode cX13_at 36 = .ok (.iload_n 1, 1) := by decide +kernel
theorem dX13_at_37 : decode cX13_at 37 = .ok (.tableswitch 154 0 7 #[47, 56, 65, 74, 118, 127, 136, 145], 47) := by decide +kernel
theorem dX13_at_84 : decode cX13_at 84 = .ok (.aload_n 0, 1) := by decide +kernel
theorem dX13_at_85 : decode cX13_at 85 = .ok (.aload_n 0, 1) := by decide +kernel
theorem dX13_at_86 : decode cX13_at 86 = .ok (.getfield 500, 3) := by decide +kernel
theorem dX13_at_89 : decode cX13_at 89 = .ok (.invokevirtual 40, 3) := by decide +kernel
theorem dX13_at_92 : decode cX13_at 92 = .ok (.ireturn, 1) := by decide +kernel
theorem dX13_at_93 : decode cX13_at 93 = .ok (.aload_n 0, 1) := by decide +kernel
theorem dX13_at_94 : decode cX13_at 94 = .ok (.aload_n 0, 1) := by decide +kernel
theorem dX13_at_95 : decode cX13_at 95 = .ok (.getfield 503, 3) := by decide +kernel
theorem dX13_at_98 : decode cX13_at 98 = .ok (.invokevirtual 40, 3) := by decide +kernel
theorem dX13_at_101 : decode cX13_at 101 = .ok (.ireturn, 1) := by decide +kernel
theorem dX13_at_102 : decode cX13_at 102 = .ok (.aload_n 0, 1) := by decide +kernel
theorem dX13_at_103 : decode cX13_at 103 = .ok (.aload_n 0, 1) := by decide +kernel
theorem dX13_at_104 : decode cX13_at 104 = .ok (.getfield 506, 3) := by decide +kernel
theorem dX13_at_107 : decode cX13_at 107 = .ok (.invokevirtual 40, 3) := by decide +kernel
theorem dX13_at_110 : decode cX13_at 110 = .ok (.ireturn, 1) := by decide +kernel
theorem dX13_at_111 : decode cX13_at 111 = .ok (.aload_n 0, 1) := by decide +kernel
theorem dX13_at_112 : decode cX13_at 112 = .ok (.aload_n 0, 1) := by decide +kernel
theorem dX13_at_113 : decode cX13_at 113 = .ok (.aload_n 0, 1) := by decide +kernel
theorem dX13_at_114 : decode cX13_at 114 = .ok (.getfield 490, 3) := by decide +kernel
theorem dX13_at_117 : decode cX13_at 117 = .ok (.aload_n 0, 1) := by decide +kernel
theorem dX13_at_118 : decode cX13_at 118 = .ok (.getfield 431, 3) := by decide +kernel
theorem dX13_at_121 : decode cX13_at 121 = .ok (.getfield 301, 3) := by decide +kernel
theorem dX13_at_124 : decode cX13_at 124 = .ok (.aload_n 0, 1) := by decide +kernel
theorem dX13_at_125 : decode cX13_at 125 = .ok (.getfield 17, 3) := by decide +kernel
theorem dX13_at_128 : decode cX13_at 128 = .ok (.iaload, 1) := by decide +kernel
theorem dX13_at_129 : decode cX13_at 129 = .ok (.invokevirtual 524, 3) := by decide +kernel
theorem dX13_at_132 : decode cX13_at 132 = .ok (.aload_n 0, 1) := by decide +kernel
theorem dX13_at_133 : decode cX13_at 133 = .ok (.getfield 503, 3) := by decide +kernel
theorem dX13_at_136 : decode cX13_at 136 = .ok (.aload_n 0, 1) := by decide +kernel
theorem dX13_at_137 : decode cX13_at 137 = .ok (.getfield 500, 3) := by decide +kernel
theorem dX13_at_140 : decode cX13_at 140 = .ok (.iconst 3, 1) := by decide +kernel
theorem dX13_at_141 : decode cX13_at 141 = .ok (.if_icmp .ne 7, 3) := by decide +kernel
theorem dX13_at_144 : decode cX13_at 144 = .ok (.iconst 1, 1) := by decide +kernel
theorem dX13_at_145 : decode cX13_at 145 = .ok (.goto 4, 3) := by decide +kernel
theorem dX13_at_148 : decode cX13_at 148 = .ok (.iconst 0, 1) := by decide +kernel
theorem dX13_at_149 : decode cX13_at 149 = .ok (.iadd, 1) := by decide +kernel
theorem dX13_at_150 : decode cX13_at 150 = .ok (.imul, 1) := by decide +kernel
theorem dX13_at_151 : decode cX13_at 151 = .ok (.invokevirtual 40, 3) := by decide +kernel
theorem dX13_at_154 : decode cX13_at 154 = .ok (.ireturn, 1) := by decide +kernel
theorem dX13_at_155 : decode cX13_at 155 = .ok (.aload_n 0, 1) := by decide +kernel
theorem dX13_at_156 : decode cX13_at 156 = .ok (.aload_n 0, 1) := by decide +kernel
theorem dX13_at_157 : decode cX13_at 157 = .ok (.getfield 509, 3) := by decide +kernel
theorem dX13_at_160 : decode cX13_at 160 = .ok (.invokevirtual 40, 3) := by decide +kernel
theorem dX13_at_163 : decode cX13_at 163 = .ok (.ireturn, 1) := by decide +kernel
theorem dX13_at_164 : decode cX13_at 164 = .ok (.aload_n 0, 1) := by decide +kernel
theorem dX13_at_165 : decode cX13_at 165 = .ok (.aload_n 0, 1) := by decide +kernel
theorem dX13_at_166 : decode cX13_at 166 = .ok (.getfield 17, 3) := by decide +kernel
theorem dX13_at_169 : decode cX13_at 169 = .ok (.invokevirtual 40, 3) := by decide +kernel
theorem dX13_at_172 : decode cX13_at 172 = .ok (.ireturn, 1) := by decide +kernel
theorem dX13_at_173 : decode cX13_at 173 = .ok (.aload_n 0, 1) := by decide +kernel
theorem dX13_at_174 : decode cX13_at 174 = .ok (.aload_n 0, 1) := by decide +kernel
theorem dX13_at_175 : decode cX13_at 175 = .ok (.getfield 490, 3) := by decide +kernel
theorem dX13_at_178 : decode cX13_at 178 = .ok (.invokevirtual 40, 3) := by decide +kernel
theorem dX13_at_181 : decode cX13_at 181 = .ok (.ireturn, 1) := by decide +kernel
theorem dX13_at_182 : decode cX13_at 182 = .ok (.aload_n 0, 1) := by decide +kernel
theorem dX13_at_183 : decode cX13_at 183 = .ok (.aload_n 0, 1) := by decide +kernel
theorem dX13_at_184 : decode cX13_at 184 = .ok (.getfield 493, 3) := by decide +kernel
theorem dX13_at_187 : decode cX13_at 187 = .ok (.invokevirtual 40, 3) := by decide +kernel
theorem dX13_at_190 : decode cX13_at 190 = .ok (.ireturn, 1) := by decide +kernel
theorem dX13_at_191 : decode cX13_at 191 = .ok (.aload_n 0, 1) := by decide +kernel
theorem dX13_at_192 : decode cX13_at 192 = .ok (.aload_n 0, 1) := by decide +kernel
theorem dX13_at_193 : decode cX13_at 193 = .ok (.getfield 496, 3) := by decide +kernel
theorem dX13_at_196 : decode cX13_at 196 = .ok (.invokevirtual 40, 3) := by decide +kernel
theorem dX13_at_199 : decode cX13_at 199 = .ok (.ireturn, 1) := by decide +kernel
set_option maxRecDepth 20000 in
theorem ggX13_tries_X13_refused : GoodIn wsX13_tries wsX13_refused := goodIn_r _ [11, 12, 13, 73, 74, 75, 76, 77, 78, 79, 80, 81, 82, 83, 84, 85, 86, 87, 88, 89, 90, 91, 92, 93, 94, 95, 96, 97, 98, 99, 100, 101] rfl (by decide +kernel)
set_option maxRecDepth 20000 in
theorem gX13_tries_X13_refused : GoodIn wsX13_tries (wsV RX13 36 RX13 yX13_refused wsX13_refused) := goodIn_app (goodIn_of _ (by decide +kernel)) ggX13_tries_X13_refused
set_option maxRecDepth 20000 in
theorem ggX13_tries_X13_in : GoodIn wsX13_tries wsX13_in := goodIn_r _ [16] rfl (by decide +kernel)
set_option maxRecDepth 20000 in
theorem gX13_tries_X13_in : GoodIn wsX13_tries (va_wsS RX13 108 yX13_in wsX13_in) := goodIn_app (goodIn_of _ (by decide +kernel)) ggX13_tries_X13_in
set_option maxRecDepth 20000 in
theorem ggX13_tries_X13_startsAnew : GoodIn wsX13_tries wsX13_startsAnew := goodIn_r _ [20, 3, 4, 5, 6, 73, 74, 75, 76, 77, 78, 79, 80, 81, 82, 83, 84, 85, 86, 87, 88, 89, 90, 91, 92, 93, 94, 95, 96, 97, 98, 99, 100, 101] rfl (by decide +kernel)
set_option maxRecDepth 20000 in
theorem gX13_tries_X13_startsAnew : GoodIn wsX13_tries (wsV RX13 497 RX13 yX13_startsAnew wsX13_startsAnew) := goodIn_app (goodIn_of _ (by decide +kernel)) ggX13_tries_X13_startsAnew
set_option maxRecDepth 20000 in
theorem ggX13_tries_X13_steps : GoodIn wsX13_tries wsX13_steps := goodIn_r _ [24, 25, 26, 4, 27, 2, 28, 5, 6, 29, 30, 31, 32, 33, 34, 35, 36, 37, 10, 38, 39, 40, 41, 14, 15, 16, 42, 43, 44, 45, 46, 47, 48, 49, 50, 51, 52, 53, 54, 55, 56, 57, 58, 59, 60, 61, 62, 63, 64, 65, 66, 67, 68, 73, 74, 75, 76, 77, 78, 79, 80, 81, 82, 83, 84, 85, 86, 87, 88, 89, 90, 91, 92, 93, 94, 95, 96, 97, 98, 99, 100, 101, 102, 103, 104, 105, 106, 107, 108, 109, 110, 111, 112, 113, 114, 115, 116, 117, 118, 119, 120, 121, 122, 123, 124, 125, 126, 127, 128, 129, 130, 131, 132, 133, 134, 135, 136, 137, 138, 139, 140, 141, 142, 143, 144, 145, 146, 147, 148, 149] rfl (by decide +kernel)
set_option maxRecDepth 20000 in
theorem gX13_tries_X13_steps : GoodIn wsX13_tries (wsV RX13 521 RX13 yX13_steps wsX13_steps) := goodIn_app (goodIn_of _ (by decide +kernel)) ggX13_tries_X13_steps
set_option maxRecDepth 20000 in
theorem ggX13_tries_X13_done : GoodIn wsX13_tries wsX13_done := goodIn_r _ [72, 12, 13, 73, 74, 75, 76, 77, 78, 79, 80, 81, 82, 83, 84, 85, 86, 87, 88, 89, 90, 91, 92, 93, 94, 95, 96, 97, 98, 99, 100, 101] rfl (by decide +kernel)
set_option maxRecDepth 20000 in
theorem gX13_tries_X13_done : GoodIn wsX13_tries (wsV RX13 40 RX13 yX13_done wsX13_done) := goodIn_app (goodIn_of _ (by decide +kernel)) ggX13_tries_X13_done
theorem dX13_tries_0 : decode cX13_tries 0 = .ok (.aload_n 0, 1) := by decide +kernel
theorem dX13_tries_1 : decode cX13_tries 1 = .ok (.iconst 0, 1) := by decide +kernel
theorem dX13_tries_2 : decode cX13_tries 2 = .ok (.putfield 30, 3) := by decide +kernel
theorem dX13_tries_5 : decode cX13_tries 5 = .ok (.aload_n 0, 1) := by decide +kernel
theorem dX13_tries_6 : decode cX13_tries 6 = .ok (.getfield 17, 3) := by decide +kernel
theorem dX13_tries_9 : decode cX13_tries 9 = .ok (.iconst (-1), 1) := by decide +kernel
theorem dX13_tries_10 : decode cX13_tries 10 = .ok (.if_icmp .ne 10, 3) := by decide +kernel
theorem dX13_tries_13 : decode cX13_tries 13 = .ok (.aload_n 0, 1) := by decide +kernel
theorem dX13_tries_14 : decode cX13_tries 14 = .ok (.bipush 6, 2) := by decide +kernel
theorem dX13_tries_16 : decode cX13_tries 16 = .ok (.invokevirtual 36, 3) := by decide +kernel
theorem dX13_tries_19 : decode cX13_tries 19 = .ok (.ireturn, 1) := by decide +kernel
theorem dX13_tries_20 : decode cX13_tries 20 = .ok (.iload_n 1, 1) := by decide +kernel
theorem dX13_tries_21 : decode cX13_tries 21 = .ok (.iconst 1, 1) := by decide +kernel
theorem dX13_tries_22 : decode cX13_tries 22 = .ok (.bipush 100, 2) := by decide +kernel
theorem dX13_tries_24 : decode cX13_tries 24 = .ok (.invokestatic 108, 3) := by decide +kernel
theorem dX13_tries_27 : decode cX13_tries 27 = .ok (.ifCond .ne 9, 3) := by decide +kernel
theorem dX13_tries_30 : decode cX13_tries 30 = .ok (.aload_n 0, 1) := by decide +kernel
theorem dX13_tries_31 : decode cX13_tries 31 = .ok (.iconst 2, 1) := by decide +kernel
theorem dX13_tries_32 : decode cX13_tries 32 = .ok (.invokevirtual 36, 3) := by decide +kernel
theorem dX13_tries_35 : decode cX13_tries 35 = .ok (.ireturn, 1) := by decide +kernel
theorem dX13_tries_36 : decode cX13_tries 36 = .ok (.aload_n 0, 1) := by decide +kernel
theorem dX13_tries_37 : decode cX13_tries 37 = .ok (.getfield 500, 3) := by decide +kernel
theorem dX13_tries_40 : decode cX13_tries 40 = .ok (.istore_n 2, 1) := by decide +kernel
theorem dX13_tries_41 : decode cX13_tries 41 = .ok (.aload_n 0, 1) := by decide +kernel
theorem dX13_tries_42 : decode cX13_tries 42 = .ok (.getfield 503, 3) := by decide +kernel
theorem dX13_tries_45 : decode cX13_tries 45 = .ok (.istore_n 3, 1) := by decide +kernel
theorem dX13_tries_46 : decode cX13_tries 46 = .ok (.aload_n 0, 1) := by decide +kernel
theorem dX13_tries_47 : decode cX13_tries 47 = .ok (.getfield 506, 3) := by decide +kernel
theorem dX13_tries_50 : decode cX13_tries 50 = .ok (.istore 4, 2) := by decide +kernel
theorem dX13_tries_52 : decode cX13_tries 52 = .ok (.aload_n 0, 1) := by decide +kernel
theorem dX13_tries_53 : decode cX13_tries 53 = .ok (.getfield 509, 3) := by decide +kernel
theorem dX13_tries_56 : decode cX13_tries 56 = .ok (.istore 5, 2) := by decide +kernel
theorem dX13_tries_58 : decode cX13_tries 58 = .ok (.iconst 0, 1) := by decide +kernel
theorem dX13_tries_59 : decode cX13_tries 59 = .ok (.istore 6, 2) := by decide +kernel
theorem dX13_tries_61 : decode cX13_tries 61 = .ok (.iconst 0, 1) := by decide +kernel
theorem dX13_tries_62 : decode cX13_tries 62 = .ok (.istore 7, 2) := by decide +kernel
theorem dX13_tries_64 : decode cX13_tries 64 = .ok (.iload 7, 2) := by decide +kernel
theorem dX13_tries_66 : decode cX13_tries 66 = .ok (.iload_n 1, 1) := by decide +kernel
theorem dX13_tries_67 : decode cX13_tries 67 = .ok (.if_icmp .ge 50, 3) := by decide +kernel
theorem dX13_tries_70 : decode cX13_tries 70 = .ok (.aload_n 0, 1) := by decide +kernel
theorem dX13_tries_71 : decode cX13_tries 71 = .ok (.invokevirtual 497, 3) := by decide +kernel
theorem dX13_tries_74 : decode cX13_tries 74 = .ok (.aload_n 0, 1) := by decide +kernel
theorem dX13_tries_75 : decode cX13_tries 75 = .ok (.getfield 500, 3) := by decide +kernel
theorem dX13_tries_78 : decode cX13_tries 78 = .ok (.iconst 1, 1) := by decide +kernel
theorem dX13_tries_79 : decode cX13_tries 79 = .ok (.if_icmp .ne 14, 3) := by decide +kernel
theorem dX13_tries_82 : decode cX13_tries 82 = .ok (.aload_n 0, 1) := by decide +kernel
theorem dX13_tries_83 : decode cX13_tries 83 = .ok (.aload_n 0, 1) := by decide +kernel
theorem dX13_tries_84 : decode cX13_tries 84 = .ok (.invokevirtual 521, 3) := by decide +kernel
theorem dX13_tries_87 : decode cX13_tries 87 = .ok (.putfield 500, 3) := by decide +kernel
theorem dX13_tries_90 : decode cX13_tries 90 = .ok (.goto (-16), 3) := by decide +kernel
theorem dX13_tries_93 : decode cX13_tries 93 = .ok (.iload 6, 2) := by decide +kernel
theorem dX13_tries_95 : decode cX13_tries 95 = .ok (.aload_n 0, 1) := by decide +kernel
theorem dX13_tries_96 : decode cX13_tries 96 = .ok (.getfield 500, 3) := by decide +kernel
theorem dX13_tries_99 : decode cX13_tries 99 = .ok (.iconst 2, 1) := by decide +kernel
theorem dX13_tries_100 : decode cX13_tries 100 = .ok (.if_icmp .ne 7, 3) := by decide +kernel
theorem dX13_tries_103 : decode cX13_tries 103 = .ok (.iconst 1, 1) := by decide +kernel
theorem dX13_tries_104 : decode cX13_tries 104 = .ok (.goto 4, 3) := by decide +kernel
theorem dX13_tries_107 : decode cX13_tries 107 = .ok (.iconst 0, 1) := by decide +kernel
theorem dX13_tries_108 : decode cX13_tries 108 = .ok (.iadd, 1) := by decide +kernel
theorem dX13_tries_109 : decode cX13_tries 109 = .ok (.istore 6, 2) := by decide +kernel
theorem dX13_tries_111 : decode cX13_tries 111 = .ok (.iinc 7 1, 3) := by decide +kernel
theorem dX13_tries_114 : decode cX13_tries 114 = .ok (.goto (-50), 3) := by decide +kernel
theorem dX13_tries_117 : decode cX13_tries 117 = .ok (.aload_n 0, 1) := by decide +kernel
theorem dX13_tries_118 : decode cX13_tries 118 = .ok (.iload_n 2, 1) := by decide +kernel
theorem dX13_tries_119 : decode cX13_tries 119 = .ok (.putfield 500, 3) := by decide +kernel
theorem dX13_tries_122 : decode cX13_tries 122 = .ok (.aload_n 0, 1) := by decide +kernel
theorem dX13_tries_123 : decode cX13_tries 123 = .ok (.iload_n 3, 1) := by decide +kernel
theorem dX13_tries_124 : decode cX13_tries 124 = .ok (.putfield 503, 3) := by decide +kernel
theorem dX13_tries_127 : decode cX13_tries 127 = .ok (.aload_n 0, 1) := by decide +kernel
theorem dX13_tries_128 : decode cX13_tries 128 = .ok (.iload 4, 2) := by decide +kernel
theorem dX13_tries_130 : decode cX13_tries 130 = .ok (.putfield 506, 3) := by decide +kernel
theorem dX13_tries_133 : decode cX13_tries 133 = .ok (.aload_n 0, 1) := by decide +kernel
theorem dX13_tries_134 : decode cX13_tries 134 = .ok (.iload 5, 2) := by decide +kernel
theorem dX13_tries_136 : decode cX13_tries 136 = .ok (.putfield 509, 3) := by decide +kernel
theorem dX13_tries_139 : decode cX13_tries 139 = .ok (.aload_n 0, 1) := by decide +kernel
theorem dX13_tries_140 : decode cX13_tries 140 = .ok (.iload 6, 2) := by decide +kernel
theorem dX13_tries_142 : decode cX13_tries 142 = .ok (.invokevirtual 40, 3) := by decide +kernel
theorem dX13_tries_145 : decode cX13_tries 145 = .ok (.ireturn, 1) := by decide +kernel
set_option maxRecDepth 20000 in
theorem ggX13_image_X13_refused : GoodIn wsX13_image wsX13_refused := goodIn_r _ [22, 23, 24, 29, 30, 31, 32, 33, 34, 35, 36, 37, 38, 39, 40, 41, 42, 43, 44, 45, 46, 47, 48, 49, 50, 51, 52, 53, 54, 55, 56, 57] rfl (by decide +kernel)
set_option maxRecDepth 20000 in
theorem gX13_image_X13_refused : GoodIn wsX13_image (wsV RX13 36 RX13 yX13_refused wsX13_refused) := goodIn_app (goodIn_of _ (by decide +kernel)) ggX13_image_X13_refused
set_option maxRecDepth 20000 in
theorem ggX13_image_X13_done : GoodIn wsX13_image wsX13_done := goodIn_r _ [28, 23, 24, 29, 30, 31, 32, 33, 34, 35, 36, 37, 38, 39, 40, 41, 42, 43, 44, 45, 46, 47, 48, 49, 50, 51, 52, 53, 54, 55, 56, 57] rfl (by decide +kernel)
set_option maxRecDepth 20000 in
theorem gX13_image_X13_done : GoodIn wsX13_image (wsV RX13 40 RX13 yX13_done wsX13_done) := goodIn_app (goodIn_of _ (by decide +kernel)) ggX13_image_X13_done
theorem dX13_image_0 : decode cX13_image 0 = .ok (.aload_n 0, 1) := by decide +kernel
theorem dX13_image_1 : decode cX13_image 1 = .ok (.iconst 0, 1) := by decide +kernel
theorem dX13_image_2 : decode cX13_image 2 = .ok (.putfield 30, 3) := by decide +kernel
theorem dX13_image_5 : decode cX13_image 5 = .ok (.aload_n 0, 1) := by decide +kernel
theorem dX13_image_6 : decode cX13_image 6 = .ok (.getfield 17, 3) := by decide +kernel
theorem dX13_image_9 : decode cX13_image 9 = .ok (.iconst (-1), 1) := by decide +kernel
theorem dX13_image_10 : decode cX13_image 10 = .ok (.if_icmp .ne 11, 3) := by decide +kernel
theorem dX13_image_13 : decode cX13_image 13 = .ok (.aload_n 0, 1) := by decide +kernel
theorem dX13_image_14 : decode cX13_image 14 = .ok (.bipush 6, 2) := by decide +kernel
theorem dX13_image_16 : decode cX13_image 16 = .ok (.invokevirtual 36, 3) := by decide +kernel
theorem dX13_image_19 : decode cX13_image 19 = .ok (.i2l, 1) := by decide +kernel
theorem dX13_image_20 : decode cX13_image 20 = .ok (.lreturn, 1) := by decide +kernel
theorem dX13_image_21 : decode cX13_image 21 = .ok (.aload_n 0, 1) := by decide +kernel
theorem dX13_image_22 : decode cX13_image 22 = .ok (.iconst 0, 1) := by decide +kernel
theorem dX13_image_23 : decode cX13_image 23 = .ok (.invokevirtual 40, 3) := by decide +kernel
theorem dX13_image_26 : decode cX13_image 26 = .ok (.pop, 1) := by decide +kernel
theorem dX13_image_27 : decode cX13_image 27 = .ok (.aload_n 0, 1) := by decide +kernel
theorem dX13_image_28 : decode cX13_image 28 = .ok (.getfield 437, 3) := by decide +kernel
theorem dX13_image_31 : decode cX13_image 31 = .ok (.i2l, 1) := by decide +kernel
theorem dX13_image_32 : decode cX13_image 32 = .ok (.lstore_n 1, 1) := by decide +kernel
theorem dX13_image_33 : decode cX13_image 33 = .ok (.ldc2_w 527, 3) := by decide +kernel
theorem dX13_image_36 : decode cX13_image 36 = .ok (.lload_n 1, 1) := by decide +kernel
theorem dX13_image_37 : decode cX13_image 37 = .ok (.lmul, 1) := by decide +kernel
theorem dX13_image_38 : decode cX13_image 38 = .ok (.aload_n 0, 1) := by decide +kernel
theorem dX13_image_39 : decode cX13_image 39 = .ok (.getfield 500, 3) := by decide +kernel
theorem dX13_image_42 : decode cX13_image 42 = .ok (.i2l, 1) := by decide +kernel
theorem dX13_image_43 : decode cX13_image 43 = .ok (.ladd, 1) := by decide +kernel
theorem dX13_image_44 : decode cX13_image 44 = .ok (.lstore_n 1, 1) := by decide +kernel
theorem dX13_image_45 : decode cX13_image 45 = .ok (.ldc2_w 529, 3) := by decide +kernel
theorem dX13_image_48 : decode cX13_image 48 = .ok (.lload_n 1, 1) := by decide +kernel
theorem dX13_image_49 : decode cX13_image 49 = .ok (.lmul, 1) := by decide +kernel
theorem dX13_image_50 : decode cX13_image 50 = .ok (.aload_n 0, 1) := by decide +kernel
theorem dX13_image_51 : decode cX13_image 51 = .ok (.getfield 503, 3) := by decide +kernel
theorem dX13_image_54 : decode cX13_image 54 = .ok (.i2l, 1) := by decide +kernel
theorem dX13_image_55 : decode cX13_image 55 = .ok (.ladd, 1) := by decide +kernel
theorem dX13_image_56 : decode cX13_image 56 = .ok (.lstore_n 1, 1) := by decide +kernel
theorem dX13_image_57 : decode cX13_image 57 = .ok (.ldc2_w 531, 3) := by decide +kernel
theorem dX13_image_60 : decode cX13_image 60 = .ok (.lload_n 1, 1) := by decide +kernel
theorem dX13_image_61 : decode cX13_image 61 = .ok (.lmul, 1) := by decide +kernel
theorem dX13_image_62 : decode cX13_image 62 = .ok (.aload_n 0, 1) := by decide +kernel
theorem dX13_image_63 : decode cX13_image 63 = .ok (.getfield 506, 3) := by decide +kernel
theorem dX13_image_66 : decode cX13_image 66 = .ok (.i2l, 1) := by decide +kernel
theorem dX13_image_67 : decode cX13_image 67 = .ok (.ladd, 1) := by decide +kernel
theorem dX13_image_68 : decode cX13_image 68 = .ok (.lstore_n 1, 1) := by decide +kernel
theorem dX13_image_69 : decode cX13_image 69 = .ok (.ldc2_w 533, 3) := by decide +kernel
theorem dX13_image_72 : decode cX13_image 72 = .ok (.lload_n 1, 1) := by decide +kernel
theorem dX13_image_73 : decode cX13_image 73 = .ok (.lmul, 1) := by decide +kernel
theorem dX13_image_74 : decode cX13_image 74 = .ok (.aload_n 0, 1) := by decide +kernel
theorem dX13_image_75 : decode cX13_image 75 = .ok (.getfield 509, 3) := by decide +kernel
theorem dX13_image_78 : decode cX13_image 78 = .ok (.bipush (-2), 2) := by decide +kernel
theorem dX13_image_80 : decode cX13_image 80 = .ok (.if_icmp .ne 7, 3) := by decide +kernel
theorem dX13_image_83 : decode cX13_image 83 = .ok (.iconst 3, 1) := by decide +kernel
theorem dX13_image_84 : decode cX13_image 84 = .ok (.goto 7, 3) := by decide +kernel
theorem dX13_image_87 : decode cX13_image 87 = .ok (.aload_n 0, 1) := by decide +kernel
theorem dX13_image_88 : decode cX13_image 88 = .ok (.getfield 509, 3) := by decide +kernel
theorem dX13_image_91 : decode cX13_image 91 = .ok (.i2l, 1) := by decide +kernel
theorem dX13_image_92 : decode cX13_image 92 = .ok (.ladd, 1) := by decide +kernel
theorem dX13_image_93 : decode cX13_image 93 = .ok (.lstore_n 1, 1) := by decide +kernel
theorem dX13_image_94 : decode cX13_image 94 = .ok (.ldc2_w 535, 3) := by decide +kernel
theorem dX13_image_97 : decode cX13_image 97 = .ok (.lload_n 1, 1) := by decide +kernel
theorem dX13_image_98 : decode cX13_image 98 = .ok (.lmul, 1) := by decide +kernel
theorem dX13_image_99 : decode cX13_image 99 = .ok (.aload_n 0, 1) := by decide +kernel
theorem dX13_image_100 : decode cX13_image 100 = .ok (.getfield 17, 3) := by decide +kernel
theorem dX13_image_103 : decode cX13_image 103 = .ok (.i2l, 1) := by decide +kernel
theorem dX13_image_104 : decode cX13_image 104 = .ok (.ladd, 1) := by decide +kernel
theorem dX13_image_105 : decode cX13_image 105 = .ok (.lstore_n 1, 1) := by decide +kernel
theorem dX13_image_106 : decode cX13_image 106 = .ok (.ldc2_w 533, 3) := by decide +kernel
theorem dX13_image_109 : decode cX13_image 109 = .ok (.lload_n 1, 1) := by decide +kernel
theorem dX13_image_110 : decode cX13_image 110 = .ok (.lmul, 1) := by decide +kernel
theorem dX13_image_111 : decode cX13_image 111 = .ok (.aload_n 0, 1) := by decide +kernel
theorem dX13_image_112 : decode cX13_image 112 = .ok (.getfield 490, 3) := by decide +kernel
theorem dX13_image_115 : decode cX13_image 115 = .ok (.i2l, 1) := by decide +kernel
theorem dX13_image_116 : decode cX13_image 116 = .ok (.ladd, 1) := by decide +kernel
theorem dX13_image_117 : decode cX13_image 117 = .ok (.lstore_n 1, 1) := by decide +kernel
theorem dX13_image_118 : decode cX13_image 118 = .ok (.ldc2_w 537, 3) := by decide +kernel
theorem dX13_image_121 : decode cX13_image 121 = .ok (.lload_n 1, 1) := by decide +kernel
theorem dX13_image_122 : decode cX13_image 122 = .ok (.lmul, 1) := by decide +kernel
theorem dX13_image_123 : decode cX13_image 123 = .ok (.aload_n 0, 1) := by decide +kernel
theorem dX13_image_124 : decode cX13_image 124 = .ok (.getfield 493, 3) := by decide +kernel
theorem dX13_image_127 : decode cX13_image 127 = .ok (.i2l, 1) := by decide +kernel
theorem dX13_image_128 : decode cX13_image 128 = .ok (.ladd, 1) := by decide +kernel
theorem dX13_image_129 : decode cX13_image 129 = .ok (.lstore_n 1, 1) := by decide +kernel
theorem dX13_image_130 : decode cX13_image 130 = .ok (.ldc2_w 539, 3) := by decide +kernel
theorem dX13_image_133 : decode cX13_image 133 = .ok (.lload_n 1, 1) := by decide +kernel
theorem dX13_image_134 : decode cX13_image 134 = .ok (.lmul, 1) := by decide +kernel
theorem dX13_image_135 : decode cX13_image 135 = .ok (.aload_n 0, 1) := by decide +kernel
theorem dX13_image_136 : decode cX13_image 136 = .ok (.getfield 496, 3) := by decide +kernel
theorem dX13_image_139 : decode cX13_image 139 = .ok (.i2l, 1) := by decide +kernel
theorem dX13_image_140 : decode cX13_image 140 = .ok (.ladd, 1) := by decide +kernel
theorem dX13_image_141 : decode cX13_image 141 = .ok (.lreturn, 1) := by decide +kernel
set_option maxRecDepth 20000 in
theorem ggX13_restore_X13_denied : GoodIn wsX13_restore wsX13_denied := goodIn_r _ [24, 25, 26, 27, 23, 28, 29, 30, 51, 52, 53, 54, 55, 56, 57, 58, 59, 60, 61, 62, 63, 64, 65, 66, 67, 68, 69, 70, 71, 72, 73, 74, 75, 76, 77, 78, 79] rfl (by decide +kernel)
set_option maxRecDepth 20000 in
theorem gX13_restore_X13_denied : GoodIn wsX13_restore (wsV RX13 483 RX13 yX13_denied wsX13_denied) := goodIn_app (goodIn_of _ (by decide +kernel)) ggX13_restore_X13_denied
set_option maxRecDepth 20000 in
theorem ggX13_restore_X13_isStatue : GoodIn wsX13_restore wsX13_isStatue := goodIn_r _ [34, 2, 51, 52, 53, 54, 55, 56, 57, 58, 59, 60, 61, 62, 63, 64, 65, 66, 67, 68, 69, 70, 71, 72, 73, 74, 75, 76, 77, 78, 79, 80, 81, 82, 83, 84, 85, 86, 87, 88, 89, 90, 91, 92, 93, 94, 95, 96, 97, 98, 99, 100, 101, 102, 103, 104, 105, 106, 107, 108, 109, 110, 111, 112, 113, 114, 115, 116, 117, 118, 119, 120, 121, 122, 123, 124, 125, 126, 127] rfl (by decide +kernel)
set_option maxRecDepth 20000 in
theorem gX13_restore_X13_isStatue : GoodIn wsX13_restore (wsV RX13 447 RX13 yX13_isStatue wsX13_isStatue) := goodIn_app (goodIn_of _ (by decide +kernel)) ggX13_restore_X13_isStatue
set_option maxRecDepth 20000 in
theorem ggX13_restore_X13_isWay : GoodIn wsX13_restore wsX13_isWay := goodIn_r _ [38, 2, 51, 52, 53, 54, 55, 56, 57, 58, 59, 60, 61, 62, 63, 64, 65, 66, 67, 68, 69, 70, 71, 72, 73, 74, 75, 76, 77, 78, 79, 80, 81, 82, 83, 84, 85, 86, 87, 88, 89, 90, 91, 92, 93, 94, 95, 96, 97, 98, 99, 100, 101, 102, 103, 104, 105, 106, 107, 108, 109, 110, 111, 112, 113, 114, 115, 116, 117, 118, 119, 120, 121, 122, 123, 124, 125, 126, 127] rfl (by decide +kernel)
set_option maxRecDepth 20000 in
theorem gX13_restore_X13_isWay : GoodIn wsX13_restore (wsV RX13 444 RX13 yX13_isWay wsX13_isWay) := goodIn_app (goodIn_of _ (by decide +kernel)) ggX13_restore_X13_isWay
set_option maxRecDepth 20000 in
theorem ggX13_restore_X13_isRoad : GoodIn wsX13_restore wsX13_isRoad := goodIn_r _ [42, 2, 51, 52, 53, 54, 55, 56, 57, 58, 59, 60, 61, 62, 63, 64, 65, 66, 67, 68, 69, 70, 71, 72, 73, 74, 75, 76, 77, 78, 79, 80, 81, 82, 83, 84, 85, 86, 87, 88, 89, 90, 91, 92, 93, 94, 95, 96, 97, 98, 99, 100, 101, 102, 103, 104, 105, 106, 107, 108, 109, 110, 111, 112, 113, 114, 115, 116, 117, 118, 119, 120, 121, 122, 123, 124, 125, 126, 127] rfl (by decide +kernel)
set_option maxRecDepth 20000 in
theorem gX13_restore_X13_isRoad : GoodIn wsX13_restore (wsV RX13 457 RX13 yX13_isRoad wsX13_isRoad) := goodIn_app (goodIn_of _ (by decide +kernel)) ggX13_restore_X13_isRoad
set_option maxRecDepth 20000 in
theorem ggX13_restore_X13_granted : GoodIn wsX13_restore wsX13_granted := goodIn_r _ [46, 47, 48, 49, 23, 50, 29, 30, 51, 52, 53, 54, 55, 56, 57, 58, 59, 60, 61, 62, 63, 64, 65, 66, 67, 68, 69, 70, 71, 72, 73, 74, 75, 76, 77, 78, 79] rfl (by decide +kernel)
set_option maxRecDepth 20000 in
theorem gX13_restore_X13_granted : GoodIn wsX13_restore (wsV RX13 487 RX13 yX13_granted wsX13_granted) := goodIn_app (goodIn_of _ (by decide +kernel)) ggX13_restore_X13_granted
theorem dX13_restore_0 : decode cX13_restore 0 = .ok (.aload_n 0, 1) := by decide +kernel
theorem dX13_restore_1 : decode cX13_restore 1 = .ok (.iconst 0, 1) := by decide +kernel
theorem dX13_restore_2 : decode cX13_restore 2 = .ok (.putfield 30, 3) := by decide +kernel
theorem dX13_restore_5 : decode cX13_restore 5 = .ok (.aload_n 0, 1) := by decide +kernel
theorem dX13_restore_6 : decode cX13_restore 6 = .ok (.getfield 431, 3) := by decide +kernel
theorem dX13_restore_9 : decode cX13_restore 9 = .ok (.ifnonnull 9, 3) := by decide +kernel
theorem dX13_restore_12 : decode cX13_restore 12 = .ok (.aload_n 0, 1) := by decide +kernel
theorem dX13_restore_13 : decode cX13_restore 13 = .ok (.iconst 1, 1) := by decide +kernel
theorem dX13_restore_14 : decode cX13_restore 14 = .ok (.invokevirtual 483, 3) := by decide +kernel
theorem dX13_restore_17 : decode cX13_restore 17 = .ok (.ireturn, 1) := by decide +kernel
theorem dX13_restore_18 : decode cX13_restore 18 = .ok (.lload_n 1, 1) := by decide +kernel
theorem dX13_restore_19 : decode cX13_restore 19 = .ok (.lconst 0, 1) := by decide +kernel
theorem dX13_restore_20 : decode cX13_restore 20 = .ok (.lcmp, 1) := by decide +kernel
theorem dX13_restore_21 : decode cX13_restore 21 = .ok (.ifCond .ge 9, 3) := by decide +kernel
theorem dX13_restore_24 : decode cX13_restore 24 = .ok (.aload_n 0, 1) := by decide +kernel
theorem dX13_restore_25 : decode cX13_restore 25 = .ok (.iconst 2, 1) := by decide +kernel
theorem dX13_restore_26 : decode cX13_restore 26 = .ok (.invokevirtual 483, 3) := by decide +kernel
theorem dX13_restore_29 : decode cX13_restore 29 = .ok (.ireturn, 1) := by decide +kernel
theorem dX13_restore_30 : decode cX13_restore 30 = .ok (.lload_n 1, 1) := by decide +kernel
theorem dX13_restore_31 : decode cX13_restore 31 = .ok (.lstore_n 3, 1) := by decide +kernel
theorem dX13_restore_32 : decode cX13_restore 32 = .ok (.lload_n 3, 1) := by decide +kernel
theorem dX13_restore_33 : decode cX13_restore 33 = .ok (.ldc2_w 539, 3) := by decide +kernel
theorem dX13_restore_36 : decode cX13_restore 36 = .ok (.lrem, 1) := by decide +kernel
theorem dX13_restore_37 : decode cX13_restore 37 = .ok (.l2i, 1) := by decide +kernel
theorem dX13_restore_38 : decode cX13_restore 38 = .ok (.istore 5, 2) := by decide +kernel
theorem dX13_restore_40 : decode cX13_restore 40 = .ok (.lload_n 3, 1) := by decide +kernel
theorem dX13_restore_41 : decode cX13_restore 41 = .ok (.ldc2_w 539, 3) := by decide +kernel
theorem dX13_restore_44 : decode cX13_restore 44 = .ok (.ldiv, 1) := by decide +kernel
theorem dX13_restore_45 : decode cX13_restore 45 = .ok (.lstore_n 3, 1) := by decide +kernel
theorem dX13_restore_46 : decode cX13_restore 46 = .ok (.lload_n 3, 1) := by decide +kernel
theorem dX13_restore_47 : decode cX13_restore 47 = .ok (.ldc2_w 537, 3) := by decide +kernel
theorem dX13_restore_50 : decode cX13_restore 50 = .ok (.lrem, 1) := by decide +kernel
theorem dX13_restore_51 : decode cX13_restore 51 = .ok (.l2i, 1) := by decide +kernel
theorem dX13_restore_52 : decode cX13_restore 52 = .ok (.istore 6, 2) := by decide +kernel
theorem dX13_restore_54 : decode cX13_restore 54 = .ok (.lload_n 3, 1) := by decide +kernel
theorem dX13_restore_55 : decode cX13_restore 55 = .ok (.ldc2_w 537, 3) := by decide +kernel
theorem dX13_restore_58 : decode cX13_restore 58 = .ok (.ldiv, 1) := by decide +kernel
theorem dX13_restore_59 : decode cX13_restore 59 = .ok (.lstore_n 3, 1) := by decide +kernel
theorem dX13_restore_60 : decode cX13_restore 60 = .ok (.lload_n 3, 1) := by decide +kernel
theorem dX13_restore_61 : decode cX13_restore 61 = .ok (.ldc2_w 533, 3) := by decide +kernel
theorem dX13_restore_64 : decode cX13_restore 64 = .ok (.lrem, 1) := by decide +kernel
theorem dX13_restore_65 : decode cX13_restore 65 = .ok (.l2i, 1) := by decide +kernel
theorem dX13_restore_66 : decode cX13_restore 66 = .ok (.istore 7, 2) := by decide +kernel
theorem dX13_restore_68 : decode cX13_restore 68 = .ok (.lload_n 3, 1) := by decide +kernel
theorem dX13_restore_69 : decode cX13_restore 69 = .ok (.ldc2_w 533, 3) := by decide +kernel
theorem dX13_restore_72 : decode cX13_restore 72 = .ok (.ldiv, 1) := by decide +kernel
theorem dX13_restore_73 : decode cX13_restore 73 = .ok (.lstore_n 3, 1) := by decide +kernel
theorem dX13_restore_74 : decode cX13_restore 74 = .ok (.lload_n 3, 1) := by decide +kernel
theorem dX13_restore_75 : decode cX13_restore 75 = .ok (.ldc2_w 535, 3) := by decide +kernel
theorem dX13_restore_78 : decode cX13_restore 78 = .ok (.lrem, 1) := by decide +kernel
theorem dX13_restore_79 : decode cX13_restore 79 = .ok (.l2i, 1) := by decide +kernel
theorem dX13_restore_80 : decode cX13_restore 80 = .ok (.istore 8, 2) := by decide +kernel
theorem dX13_restore_82 : decode cX13_restore 82 = .ok (.lload_n 3, 1) := by decide +kernel
theorem dX13_restore_83 : decode cX13_restore 83 = .ok (.ldc2_w 535, 3) := by decide +kernel
theorem dX13_restore_86 : decode cX13_restore 86 = .ok (.ldiv, 1) := by decide +kernel
theorem dX13_restore_87 : decode cX13_restore 87 = .ok (.lstore_n 3, 1) := by decide +kernel
theorem dX13_restore_88 : decode cX13_restore 88 = .ok (.lload_n 3, 1) := by decide +kernel
theorem dX13_restore_89 : decode cX13_restore 89 = .ok (.ldc2_w 533, 3) := by decide +kernel
theorem dX13_restore_92 : decode cX13_restore 92 = .ok (.lrem, 1) := by decide +kernel
theorem dX13_restore_93 : decode cX13_restore 93 = .ok (.l2i, 1) := by decide +kernel
theorem dX13_restore_94 : decode cX13_restore 94 = .ok (.istore 9, 2) := by decide +kernel
theorem dX13_restore_96 : decode cX13_restore 96 = .ok (.lload_n 3, 1) := by decide +kernel
theorem dX13_restore_97 : decode cX13_restore 97 = .ok (.ldc2_w 533, 3) := by decide +kernel
theorem dX13_restore_100 : decode cX13_restore 100 = .ok (.ldiv, 1) := by decide +kernel
theorem dX13_restore_101 : decode cX13_restore 101 = .ok (.lstore_n 3, 1) := by decide +kernel
theorem dX13_restore_102 : decode cX13_restore 102 = .ok (.lload_n 3, 1) := by decide +kernel
theorem dX13_restore_103 : decode cX13_restore 103 = .ok (.ldc2_w 531, 3) := by decide +kernel
theorem dX13_restore_106 : decode cX13_restore 106 = .ok (.lrem, 1) := by decide +kernel
theorem dX13_restore_107 : decode cX13_restore 107 = .ok (.l2i, 1) := by decide +kernel
theorem dX13_restore_108 : decode cX13_restore 108 = .ok (.istore 10, 2) := by decide +kernel
theorem dX13_restore_110 : decode cX13_restore 110 = .ok (.lload_n 3, 1) := by decide +kernel
theorem dX13_restore_111 : decode cX13_restore 111 = .ok (.ldc2_w 531, 3) := by decide +kernel
theorem dX13_restore_114 : decode cX13_restore 114 = .ok (.ldiv, 1) := by decide +kernel
theorem dX13_restore_115 : decode cX13_restore 115 = .ok (.lstore_n 3, 1) := by decide +kernel
theorem dX13_restore_116 : decode cX13_restore 116 = .ok (.lload_n 3, 1) := by decide +kernel
theorem dX13_restore_117 : decode cX13_restore 117 = .ok (.ldc2_w 529, 3) := by decide +kernel
theorem dX13_restore_120 : decode cX13_restore 120 = .ok (.lrem, 1) := by decide +kernel
theorem dX13_restore_121 : decode cX13_restore 121 = .ok (.l2i, 1) := by decide +kernel
theorem dX13_restore_122 : decode cX13_restore 122 = .ok (.istore 11, 2) := by decide +kernel
theorem dX13_restore_124 : decode cX13_restore 124 = .ok (.lload_n 3, 1) := by decide +kernel
theorem dX13_restore_125 : decode cX13_restore 125 = .ok (.ldc2_w 529, 3) := by decide +kernel
theorem dX13_restore_128 : decode cX13_restore 128 = .ok (.ldiv, 1) := by decide +kernel
theorem dX13_restore_129 : decode cX13_restore 129 = .ok (.lstore_n 3, 1) := by decide +kernel
theorem dX13_restore_130 : decode cX13_restore 130 = .ok (.lload_n 3, 1) := by decide +kernel
theorem dX13_restore_131 : decode cX13_restore 131 = .ok (.ldc2_w 527, 3) := by decide +kernel
theorem dX13_restore_134 : decode cX13_restore 134 = .ok (.lrem, 1) := by decide +kernel
theorem dX13_restore_135 : decode cX13_restore 135 = .ok (.l2i, 1) := by decide +kernel
theorem dX13_restore_136 : decode cX13_restore 136 = .ok (.istore 12, 2) := by decide +kernel
theorem dX13_restore_138 : decode cX13_restore 138 = .ok (.lload_n 3, 1) := by decide +kernel
theorem dX13_restore_139 : decode cX13_restore 139 = .ok (.ldc2_w 527, 3) := by decide +kernel
theorem dX13_restore_142 : decode cX13_restore 142 = .ok (.ldiv, 1) := by decide +kernel
theorem dX13_restore_143 : decode cX13_restore 143 = .ok (.lstore_n 3, 1) := by decide +kernel
theorem dX13_restore_144 : decode cX13_restore 144 = .ok (.lload_n 3, 1) := by decide +kernel
theorem dX13_restore_145 : decode cX13_restore 145 = .ok (.ldc2_w 516, 3) := by decide +kernel
theorem dX13_restore_148 : decode cX13_restore 148 = .ok (.lcmp, 1) := by decide +kernel
theorem dX13_restore_149 : decode cX13_restore 149 = .ok (.ifCond .ge 65, 3) := by decide +kernel
theorem dX13_restore_152 : decode cX13_restore 152 = .ok (.iload 12, 2) := by decide +kernel
theorem dX13_restore_154 : decode cX13_restore 154 = .ok (.ifCond .eq 60, 3) := by decide +kernel
theorem dX13_restore_157 : decode cX13_restore 157 = .ok (.aload_n 0, 1) := by decide +kernel
theorem dX13_restore_158 : decode cX13_restore 158 = .ok (.iload 8, 2) := by decide +kernel
theorem dX13_restore_160 : decode cX13_restore 160 = .ok (.invokevirtual 447, 3) := by decide +kernel
theorem dX13_restore_163 : decode cX13_restore 163 = .ok (.ifCond .eq 51, 3) := by decide +kernel
theorem dX13_restore_166 : decode cX13_restore 166 = .ok (.aload_n 0, 1) := by decide +kernel
theorem dX13_restore_167 : decode cX13_restore 167 = .ok (.iload 7, 2) := by decide +kernel
theorem dX13_restore_169 : decode cX13_restore 169 = .ok (.invokevirtual 444, 3) := by decide +kernel
theorem dX13_restore_172 : decode cX13_restore 172 = .ok (.ifCond .eq 42, 3) := by decide +kernel
theorem dX13_restore_175 : decode cX13_restore 175 = .ok (.aload_n 0, 1) := by decide +kernel
theorem dX13_restore_176 : decode cX13_restore 176 = .ok (.iload 6, 2) := by decide +kernel
theorem dX13_restore_178 : decode cX13_restore 178 = .ok (.invokevirtual 457, 3) := by decide +kernel
theorem dX13_restore_181 : decode cX13_restore 181 = .ok (.ifCond .eq 33, 3) := by decide +kernel
theorem dX13_restore_184 : decode cX13_restore 184 = .ok (.iload 5, 2) := by decide +kernel
theorem dX13_restore_186 : decode cX13_restore 186 = .ok (.ifCond .eq 28, 3) := by decide +kernel
theorem dX13_restore_189 : decode cX13_restore 189 = .ok (.iload 9, 2) := by decide +kernel
theorem dX13_restore_191 : decode cX13_restore 191 = .ok (.iconst 3, 1) := by decide +kernel
theorem dX13_restore_192 : decode cX13_restore 192 = .ok (.if_icmp .ne 7, 3) := by decide +kernel
theorem dX13_restore_195 : decode cX13_restore 195 = .ok (.iconst 1, 1) := by decide +kernel
theorem dX13_restore_196 : decode cX13_restore 196 = .ok (.goto 4, 3) := by decide +kernel
theorem dX13_restore_199 : decode cX13_restore 199 = .ok (.iconst 0, 1) := by decide +kernel
theorem dX13_restore_200 : decode cX13_restore 200 = .ok (.iload 12, 2) := by decide +kernel
theorem dX13_restore_202 : decode cX13_restore 202 = .ok (.iconst 3, 1) := by decide +kernel
theorem dX13_restore_203 : decode cX13_restore 203 = .ok (.if_icmp .ne 7, 3) := by decide +kernel
theorem dX13_restore_206 : decode cX13_restore 206 = .ok (.iconst 1, 1) := by decide +kernel
theorem dX13_restore_207 : decode cX13_restore 207 = .ok (.goto 4, 3) := by decide +kernel
theorem dX13_restore_210 : decode cX13_restore 210 = .ok (.iconst 0, 1) := by decide +kernel
theorem dX13_restore_211 : decode cX13_restore 211 = .ok (.if_icmp .ne 9, 3) := by decide +kernel
theorem dX13_restore_214 : decode cX13_restore 214 = .ok (.aload_n 0, 1) := by decide +kernel
theorem dX13_restore_215 : decode cX13_restore 215 = .ok (.iconst 2, 1) := by decide +kernel
theorem dX13_restore_216 : decode cX13_restore 216 = .ok (.invokevirtual 483, 3) := by decide +kernel
theorem dX13_restore_219 : decode cX13_restore 219 = .ok (.ireturn, 1) := by decide +kernel
theorem dX13_restore_220 : decode cX13_restore 220 = .ok (.aload_n 0, 1) := by decide +kernel
theorem dX13_restore_221 : decode cX13_restore 221 = .ok (.getfield 431, 3) := by decide +kernel
theorem dX13_restore_224 : decode cX13_restore 224 = .ok (.getfield 266, 3) := by decide +kernel
theorem dX13_restore_227 : decode cX13_restore 227 = .ok (.iload 6, 2) := by decide +kernel
theorem dX13_restore_229 : decode cX13_restore 229 = .ok (.iaload, 1) := by decide +kernel
theorem dX13_restore_230 : decode cX13_restore 230 = .ok (.istore 13, 2) := by decide +kernel
theorem dX13_restore_232 : decode cX13_restore 232 = .ok (.iload 12, 2) := by decide +kernel
theorem dX13_restore_234 : decode cX13_restore 234 = .ok (.iconst 2, 1) := by decide +kernel
theorem dX13_restore_235 : decode cX13_restore 235 = .ok (.if_icmp .ne 13, 3) := by decide +kernel
theorem dX13_restore_238 : decode cX13_restore 238 = .ok (.iload 11, 2) := by decide +kernel
theorem dX13_restore_240 : decode cX13_restore 240 = .ok (.iload 13, 2) := by decide +kernel
theorem dX13_restore_242 : decode cX13_restore 242 = .ok (.if_icmp .eq 19, 3) := by decide +kernel
theorem dX13_restore_245 : decode cX13_restore 245 = .ok (.goto 10, 3) := by decide +kernel
theorem dX13_restore_248 : decode cX13_restore 248 = .ok (.iload 11, 2) := by decide +kernel
theorem dX13_restore_250 : decode cX13_restore 250 = .ok (.iload 13, 2) := by decide +kernel
theorem dX13_restore_252 : decode cX13_restore 252 = .ok (.if_icmp .lt 9, 3) := by decide +kernel
theorem dX13_restore_255 : decode cX13_restore 255 = .ok (.aload_n 0, 1) := by decide +kernel
theorem dX13_restore_256 : decode cX13_restore 256 = .ok (.iconst 2, 1) := by decide +kernel
theorem dX13_restore_257 : decode cX13_restore 257 = .ok (.invokevirtual 483, 3) := by decide +kernel
theorem dX13_restore_260 : decode cX13_restore 260 = .ok (.ireturn, 1) := by decide +kernel
theorem dX13_restore_261 : decode cX13_restore 261 = .ok (.aload_n 0, 1) := by decide +kernel
theorem dX13_restore_262 : decode cX13_restore 262 = .ok (.lload_n 3, 1) := by decide +kernel
theorem dX13_restore_263 : decode cX13_restore 263 = .ok (.l2i, 1) := by decide +kernel
theorem dX13_restore_264 : decode cX13_restore 264 = .ok (.putfield 437, 3) := by decide +kernel
theorem dX13_restore_267 : decode cX13_restore 267 = .ok (.aload_n 0, 1) := by decide +kernel
theorem dX13_restore_268 : decode cX13_restore 268 = .ok (.iload 8, 2) := by decide +kernel
theorem dX13_restore_270 : decode cX13_restore 270 = .ok (.putfield 17, 3) := by decide +kernel
theorem dX13_restore_273 : decode cX13_restore 273 = .ok (.aload_n 0, 1) := by decide +kernel
theorem dX13_restore_274 : decode cX13_restore 274 = .ok (.iload 7, 2) := by decide +kernel
theorem dX13_restore_276 : decode cX13_restore 276 = .ok (.putfield 490, 3) := by decide +kernel
theorem dX13_restore_279 : decode cX13_restore 279 = .ok (.aload_n 0, 1) := by decide +kernel
theorem dX13_restore_280 : decode cX13_restore 280 = .ok (.iload 6, 2) := by decide +kernel
theorem dX13_restore_282 : decode cX13_restore 282 = .ok (.putfield 493, 3) := by decide +kernel
theorem dX13_restore_285 : decode cX13_restore 285 = .ok (.aload_n 0, 1) := by decide +kernel
theorem dX13_restore_286 : decode cX13_restore 286 = .ok (.iload 5, 2) := by decide +kernel
theorem dX13_restore_288 : decode cX13_restore 288 = .ok (.putfield 496, 3) := by decide +kernel
theorem dX13_restore_291 : decode cX13_restore 291 = .ok (.aload_n 0, 1) := by decide +kernel
theorem dX13_restore_292 : decode cX13_restore 292 = .ok (.iload 12, 2) := by decide +kernel
theorem dX13_restore_294 : decode cX13_restore 294 = .ok (.putfield 500, 3) := by decide +kernel
theorem dX13_restore_297 : decode cX13_restore 297 = .ok (.aload_n 0, 1) := by decide +kernel
theorem dX13_restore_298 : decode cX13_restore 298 = .ok (.iload 11, 2) := by decide +kernel
theorem dX13_restore_300 : decode cX13_restore 300 = .ok (.putfield 503, 3) := by decide +kernel
theorem dX13_restore_303 : decode cX13_restore 303 = .ok (.aload_n 0, 1) := by decide +kernel
theorem dX13_restore_304 : decode cX13_restore 304 = .ok (.iload 10, 2) := by decide +kernel
theorem dX13_restore_306 : decode cX13_restore 306 = .ok (.putfield 506, 3) := by decide +kernel
theorem dX13_restore_309 : decode cX13_restore 309 = .ok (.aload_n 0, 1) := by decide +kernel
theorem dX13_restore_310 : decode cX13_restore 310 = .ok (.iload 9, 2) := by decide +kernel
theorem dX13_restore_312 : decode cX13_restore 312 = .ok (.iconst 3, 1) := by decide +kernel
theorem dX13_restore_313 : decode cX13_restore 313 = .ok (.if_icmp .ne 8, 3) := by decide +kernel
theorem dX13_restore_316 : decode cX13_restore 316 = .ok (.bipush (-2), 2) := by decide +kernel
theorem dX13_restore_318 : decode cX13_restore 318 = .ok (.goto 5, 3) := by decide +kernel
theorem dX13_restore_321 : decode cX13_restore 321 = .ok (.iload 9, 2) := by decide +kernel
theorem dX13_restore_323 : decode cX13_restore 323 = .ok (.putfield 509, 3) := by decide +kernel
theorem dX13_restore_326 : decode cX13_restore 326 = .ok (.aload_n 0, 1) := by decide +kernel
theorem dX13_restore_327 : decode cX13_restore 327 = .ok (.invokevirtual 487, 3) := by decide +kernel
theorem dX13_restore_330 : decode cX13_restore 330 = .ok (.ireturn, 1) := by decide +kernel
theorem dX13_meanLean_0 : decode cX13_meanLean 0 = .ok (.iconst 0, 1) := by decide +kernel
theorem dX13_meanLean_1 : decode cX13_meanLean 1 = .ok (.istore_n 3, 1) := by decide +kernel
theorem dX13_meanLean_2 : decode cX13_meanLean 2 = .ok (.iconst 0, 1) := by decide +kernel
theorem dX13_meanLean_3 : decode cX13_meanLean 3 = .ok (.istore 4, 2) := by decide +kernel
theorem dX13_meanLean_5 : decode cX13_meanLean 5 = .ok (.iconst 0, 1) := by decide +kernel
theorem dX13_meanLean_6 : decode cX13_meanLean 6 = .ok (.istore 5, 2) := by decide +kernel
theorem dX13_meanLean_8 : decode cX13_meanLean 8 = .ok (.iload 5, 2) := by decide +kernel
theorem dX13_meanLean_10 : decode cX13_meanLean 10 = .ok (.aload_n 0, 1) := by decide +kernel
theorem dX13_meanLean_11 : decode cX13_meanLean 11 = .ok (.getfield 431, 3) := by decide +kernel
theorem dX13_meanLean_14 : decode cX13_meanLean 14 = .ok (.getfield 191, 3) := by decide +kernel
theorem dX13_meanLean_17 : decode cX13_meanLean 17 = .ok (.if_icmp .ge 48, 3) := by decide +kernel
theorem dX13_meanLean_20 : decode cX13_meanLean 20 = .ok (.aload_n 0, 1) := by decide +kernel
theorem dX13_meanLean_21 : decode cX13_meanLean 21 = .ok (.getfield 431, 3) := by decide +kernel
theorem dX13_meanLean_24 : decode cX13_meanLean 24 = .ok (.getfield 307, 3) := by decide +kernel
theorem dX13_meanLean_27 : decode cX13_meanLean 27 = .ok (.iload 5, 2) := by decide +kernel
theorem dX13_meanLean_29 : decode cX13_meanLean 29 = .ok (.iaload, 1) := by decide +kernel
theorem dX13_meanLean_30 : decode cX13_meanLean 30 = .ok (.iload_n 1, 1) := by decide +kernel
theorem dX13_meanLean_31 : decode cX13_meanLean 31 = .ok (.if_icmp .ne 28, 3) := by decide +kernel
theorem dX13_meanLean_34 : decode cX13_meanLean 34 = .ok (.iload 5, 2) := by decide +kernel
theorem dX13_meanLean_36 : decode cX13_meanLean 36 = .ok (.iload_n 2, 1) := by decide +kernel
theorem dX13_meanLean_37 : decode cX13_meanLean 37 = .ok (.if_icmp .ne 6, 3) := by decide +kernel
theorem dX13_meanLean_40 : decode cX13_meanLean 40 = .ok (.goto 19, 3) := by decide +kernel
theorem dX13_meanLean_43 : decode cX13_meanLean 43 = .ok (.iload_n 3, 1) := by decide +kernel
theorem dX13_meanLean_44 : decode cX13_meanLean 44 = .ok (.aload_n 0, 1) := by decide +kernel
theorem dX13_meanLean_45 : decode cX13_meanLean 45 = .ok (.getfield 431, 3) := by decide +kernel
theorem dX13_meanLean_48 : decode cX13_meanLean 48 = .ok (.getfield 303, 3) := by decide +kernel
theorem dX13_meanLean_51 : decode cX13_meanLean 51 = .ok (.iload 5, 2) := by decide +kernel
theorem dX13_meanLean_53 : decode cX13_meanLean 53 = .ok (.iaload, 1) := by decide +kernel
theorem dX13_meanLean_54 : decode cX13_meanLean 54 = .ok (.iadd, 1) := by decide +kernel
theorem dX13_meanLean_55 : decode cX13_meanLean 55 = .ok (.istore_n 3, 1) := by decide +kernel
theorem dX13_meanLean_56 : decode cX13_meanLean 56 = .ok (.iinc 4 1, 3) := by decide +kernel
theorem dX13_meanLean_59 : decode cX13_meanLean 59 = .ok (.iinc 5 1, 3) := by decide +kernel
theorem dX13_meanLean_62 : decode cX13_meanLean 62 = .ok (.goto (-54), 3) := by decide +kernel
theorem dX13_meanLean_65 : decode cX13_meanLean 65 = .ok (.iload 4, 2) := by decide +kernel
theorem dX13_meanLean_67 : decode cX13_meanLean 67 = .ok (.ifCond .ne 7, 3) := by decide +kernel
theorem dX13_meanLean_70 : decode cX13_meanLean 70 = .ok (.iconst (-1), 1) := by decide +kernel
theorem dX13_meanLean_71 : decode cX13_meanLean 71 = .ok (.goto 7, 3) := by decide +kernel
theorem dX13_meanLean_74 : decode cX13_meanLean 74 = .ok (.iload_n 3, 1) := by decide +kernel
theorem dX13_meanLean_75 : decode cX13_meanLean 75 = .ok (.iload 4, 2) := by decide +kernel
theorem dX13_meanLean_77 : decode cX13_meanLean 77 = .ok (.idiv, 1) := by decide +kernel
theorem dX13_meanLean_78 : decode cX13_meanLean 78 = .ok (.ireturn, 1) := by decide +kernel
set_option maxRecDepth 20000 in
theorem ggX13_shapeOf_X13_meanLean : GoodIn wsX13_shapeOf wsX13_meanLean := goodIn_r _ [6, 1, 7, 8, 9, 10, 11, 12, 13, 14, 15, 16, 17, 18, 19, 20, 21, 22, 23, 24, 25, 26, 27, 28, 29, 30, 31, 32, 33, 34, 35, 36, 37, 38, 39, 40, 41, 42, 43, 44, 45, 46, 47, 48, 49, 50, 51, 52, 53, 54, 55, 56, 57, 58, 59, 60, 61, 62, 63, 64, 65, 66, 67, 68, 69, 70, 71, 72, 73, 74, 75, 76, 77, 78, 79, 80, 81, 82, 83] rfl (by decide +kernel)
set_option maxRecDepth 20000 in
theorem gX13_shapeOf_X13_meanLean : GoodIn wsX13_shapeOf (wsV RX13 541 RX13 yX13_meanLean wsX13_meanLean) := goodIn_app (goodIn_of _ (by decide +kernel)) ggX13_shapeOf_X13_meanLean
theorem dX13_shapeOf_0 : decode cX13_shapeOf 0 = .ok (.aload_n 0, 1) := by decide +kernel
theorem dX13_shapeOf_1 : decode cX13_shapeOf 1 = .ok (.iconst 5, 1) := by decide +kernel
theorem dX13_shapeOf_2 : decode cX13_shapeOf 2 = .ok (.iload_n 2, 1) := by decide +kernel
theorem dX13_shapeOf_3 : decode cX13_shapeOf 3 = .ok (.invokevirtual 541, 3) := by decide +kernel
theorem dX13_shapeOf_6 : decode cX13_shapeOf 6 = .ok (.istore_n 3, 1) := by decide +kernel
theorem dX13_shapeOf_7 : decode cX13_shapeOf 7 = .ok (.aload_n 0, 1) := by decide +kernel
theorem dX13_shapeOf_8 : decode cX13_shapeOf 8 = .ok (.iconst 3, 1) := by decide +kernel
theorem dX13_shapeOf_9 : decode cX13_shapeOf 9 = .ok (.iload_n 2, 1) := by decide +kernel
theorem dX13_shapeOf_10 : decode cX13_shapeOf 10 = .ok (.invokevirtual 541, 3) := by decide +kernel
theorem dX13_shapeOf_13 : decode cX13_shapeOf 13 = .ok (.istore 4, 2) := by decide +kernel
theorem dX13_shapeOf_15 : decode cX13_shapeOf 15 = .ok (.iload_n 3, 1) := by decide +kernel
theorem dX13_shapeOf_16 : decode cX13_shapeOf 16 = .ok (.ifCond .lt 8, 3) := by decide +kernel
theorem dX13_shapeOf_19 : decode cX13_shapeOf 19 = .ok (.iload 4, 2) := by decide +kernel
theorem dX13_shapeOf_21 : decode cX13_shapeOf 21 = .ok (.ifCond .ge 5, 3) := by decide +kernel
theorem dX13_shapeOf_24 : decode cX13_shapeOf 24 = .ok (.iconst 1, 1) := by decide +kernel
theorem dX13_shapeOf_25 : decode cX13_shapeOf 25 = .ok (.ireturn, 1) := by decide +kernel
theorem dX13_shapeOf_26 : decode cX13_shapeOf 26 = .ok (.aload_n 0, 1) := by decide +kernel
theorem dX13_shapeOf_27 : decode cX13_shapeOf 27 = .ok (.getfield 431, 3) := by decide +kernel
theorem dX13_shapeOf_30 : decode cX13_shapeOf 30 = .ok (.getfield 247, 3) := by decide +kernel
theorem dX13_shapeOf_33 : decode cX13_shapeOf 33 = .ok (.iload_n 1, 1) := by decide +kernel
theorem dX13_shapeOf_34 : decode cX13_shapeOf 34 = .ok (.iaload, 1) := by decide +kernel
theorem dX13_shapeOf_35 : decode cX13_shapeOf 35 = .ok (.ifCond .ne 7, 3) := by decide +kernel
theorem dX13_shapeOf_38 : decode cX13_shapeOf 38 = .ok (.iconst 1, 1) := by decide +kernel
theorem dX13_shapeOf_39 : decode cX13_shapeOf 39 = .ok (.goto 4, 3) := by decide +kernel
theorem dX13_shapeOf_42 : decode cX13_shapeOf 42 = .ok (.iconst 0, 1) := by decide +kernel
theorem dX13_shapeOf_43 : decode cX13_shapeOf 43 = .ok (.istore 5, 2) := by decide +kernel
theorem dX13_shapeOf_45 : decode cX13_shapeOf 45 = .ok (.iload_n 3, 1) := by decide +kernel
theorem dX13_shapeOf_46 : decode cX13_shapeOf 46 = .ok (.iload 4, 2) := by decide +kernel
theorem dX13_shapeOf_48 : decode cX13_shapeOf 48 = .ok (.isub, 1) := by decide +kernel
theorem dX13_shapeOf_49 : decode cX13_shapeOf 49 = .ok (.iconst 5, 1) := by decide +kernel
theorem dX13_shapeOf_50 : decode cX13_shapeOf 50 = .ok (.if_icmp .lt 17, 3) := by decide +kernel
theorem dX13_shapeOf_53 : decode cX13_shapeOf 53 = .ok (.iload 5, 2) := by decide +kernel
theorem dX13_shapeOf_55 : decode cX13_shapeOf 55 = .ok (.ifCond .eq 8, 3) := by decide +kernel
theorem dX13_shapeOf_58 : decode cX13_shapeOf 58 = .ok (.bipush 9, 2) := by decide +kernel
theorem dX13_shapeOf_60 : decode cX13_shapeOf 60 = .ok (.goto 18, 3) := by decide +kernel
theorem dX13_shapeOf_63 : decode cX13_shapeOf 63 = .ok (.iconst 3, 1) := by decide +kernel
theorem dX13_shapeOf_64 : decode cX13_shapeOf 64 = .ok (.goto 14, 3) := by decide +kernel
theorem dX13_shapeOf_67 : decode cX13_shapeOf 67 = .ok (.iload 5, 2) := by decide +kernel
theorem dX13_shapeOf_69 : decode cX13_shapeOf 69 = .ok (.ifCond .eq 7, 3) := by decide +kernel
theorem dX13_shapeOf_72 : decode cX13_shapeOf 72 = .ok (.iconst 2, 1) := by decide +kernel
theorem dX13_shapeOf_73 : decode cX13_shapeOf 73 = .ok (.goto 5, 3) := by decide +kernel
theorem dX13_shapeOf_76 : decode cX13_shapeOf 76 = .ok (.bipush 6, 2) := by decide +kernel
theorem dX13_shapeOf_78 : decode cX13_shapeOf 78 = .ok (.ireturn, 1) := by decide +kernel
theorem dX13_hollowOf_0 : decode cX13_hollowOf 0 = .ok (.aload_n 0, 1) := by decide +kernel
theorem dX13_hollowOf_1 : decode cX13_hollowOf 1 = .ok (.getfield 431, 3) := by decide +kernel
theorem dX13_hollowOf_4 : decode cX13_hollowOf 4 = .ok (.getfield 247, 3) := by decide +kernel
theorem dX13_hollowOf_7 : decode cX13_hollowOf 7 = .ok (.iload_n 1, 1) := by decide +kernel
theorem dX13_hollowOf_8 : decode cX13_hollowOf 8 = .ok (.iaload, 1) := by decide +kernel
theorem dX13_hollowOf_9 : decode cX13_hollowOf 9 = .ok (.istore_n 3, 1) := by decide +kernel
theorem dX13_hollowOf_10 : decode cX13_hollowOf 10 = .ok (.iload_n 3, 1) := by decide +kernel
theorem dX13_hollowOf_11 : decode cX13_hollowOf 11 = .ok (.ifCond .ne 8, 3) := by decide +kernel
theorem dX13_hollowOf_14 : decode cX13_hollowOf 14 = .ok (.bipush 8, 2) := by decide +kernel
theorem dX13_hollowOf_16 : decode cX13_hollowOf 16 = .ok (.goto 23, 3) := by decide +kernel
theorem dX13_hollowOf_19 : decode cX13_hollowOf 19 = .ok (.iload_n 3, 1) := by decide +kernel
theorem dX13_hollowOf_20 : decode cX13_hollowOf 20 = .ok (.iconst 1, 1) := by decide +kernel
theorem dX13_hollowOf_21 : decode cX13_hollowOf 21 = .ok (.if_icmp .ne 7, 3) := by decide +kernel
theorem dX13_hollowOf_24 : decode cX13_hollowOf 24 = .ok (.iconst 1, 1) := by decide +kernel
theorem dX13_hollowOf_25 : decode cX13_hollowOf 25 = .ok (.goto 14, 3) := by decide +kernel
theorem dX13_hollowOf_28 : decode cX13_hollowOf 28 = .ok (.iload_n 3, 1) := by decide +kernel
theorem dX13_hollowOf_29 : decode cX13_hollowOf 29 = .ok (.iconst 2, 1) := by decide +kernel
theorem dX13_hollowOf_30 : decode cX13_hollowOf 30 = .ok (.if_icmp .ne 7, 3) := by decide +kernel
theorem dX13_hollowOf_33 : decode cX13_hollowOf 33 = .ok (.iconst 3, 1) := by decide +kernel
theorem dX13_hollowOf_34 : decode cX13_hollowOf 34 = .ok (.goto 5, 3) := by decide +kernel
theorem dX13_hollowOf_37 : decode cX13_hollowOf 37 = .ok (.bipush 6, 2) := by decide +kernel
theorem dX13_hollowOf_39 : decode cX13_hollowOf 39 = .ok (.istore 4, 2) := by decide +kernel
theorem dX13_hollowOf_41 : decode cX13_hollowOf 41 = .ok (.aload_n 0, 1) := by decide +kernel
theorem dX13_hollowOf_42 : decode cX13_hollowOf 42 = .ok (.getfield 431, 3) := by decide +kernel
theorem dX13_hollowOf_45 : decode cX13_hollowOf 45 = .ok (.getfield 264, 3) := by decide +kernel
theorem dX13_hollowOf_48 : decode cX13_hollowOf 48 = .ok (.iload_n 2, 1) := by decide +kernel
theorem dX13_hollowOf_49 : decode cX13_hollowOf 49 = .ok (.iaload, 1) := by decide +kernel
theorem dX13_hollowOf_50 : decode cX13_hollowOf 50 = .ok (.iconst 3, 1) := by decide +kernel
theorem dX13_hollowOf_51 : decode cX13_hollowOf 51 = .ok (.if_icmp .lt 8, 3) := by decide +kernel
theorem dX13_hollowOf_54 : decode cX13_hollowOf 54 = .ok (.iload 4, 2) := by decide +kernel
theorem dX13_hollowOf_56 : decode cX13_hollowOf 56 = .ok (.goto 8, 3) := by decide +kernel
theorem dX13_hollowOf_59 : decode cX13_hollowOf 59 = .ok (.bipush 10, 2) := by decide +kernel
theorem dX13_hollowOf_61 : decode cX13_hollowOf 61 = .ok (.iload 4, 2) := by decide +kernel
theorem dX13_hollowOf_63 : decode cX13_hollowOf 63 = .ok (.isub, 1) := by decide +kernel
theorem dX13_hollowOf_64 : decode cX13_hollowOf 64 = .ok (.ireturn, 1) := by decide +kernel
theorem dX13_toldOf_0 : decode cX13_toldOf 0 = .ok (.aload_n 0, 1) := by decide +kernel
theorem dX13_toldOf_1 : decode cX13_toldOf 1 = .ok (.getfield 431, 3) := by decide +kernel
theorem dX13_toldOf_4 : decode cX13_toldOf 4 = .ok (.getfield 405, 3) := by decide +kernel
theorem dX13_toldOf_7 : decode cX13_toldOf 7 = .ok (.iload_n 2, 1) := by decide +kernel
theorem dX13_toldOf_8 : decode cX13_toldOf 8 = .ok (.baload, 1) := by decide +kernel
theorem dX13_toldOf_9 : decode cX13_toldOf 9 = .ok (.ifCond .eq 7, 3) := by decide +kernel
theorem dX13_toldOf_12 : decode cX13_toldOf 12 = .ok (.iconst 5, 1) := by decide +kernel
theorem dX13_toldOf_13 : decode cX13_toldOf 13 = .ok (.goto 26, 3) := by decide +kernel
theorem dX13_toldOf_16 : decode cX13_toldOf 16 = .ok (.aload_n 0, 1) := by decide +kernel
theorem dX13_toldOf_17 : decode cX13_toldOf 17 = .ok (.getfield 431, 3) := by decide +kernel
theorem dX13_toldOf_20 : decode cX13_toldOf 20 = .ok (.getfield 403, 3) := by decide +kernel
theorem dX13_toldOf_23 : decode cX13_toldOf 23 = .ok (.iload_n 2, 1) := by decide +kernel
theorem dX13_toldOf_24 : decode cX13_toldOf 24 = .ok (.iaload, 1) := by decide +kernel
theorem dX13_toldOf_25 : decode cX13_toldOf 25 = .ok (.iload_n 1, 1) := by decide +kernel
theorem dX13_toldOf_26 : decode cX13_toldOf 26 = .ok (.ishr, 1) := by decide +kernel
theorem dX13_toldOf_27 : decode cX13_toldOf 27 = .ok (.iconst 1, 1) := by decide +kernel
theorem dX13_toldOf_28 : decode cX13_toldOf 28 = .ok (.iand, 1) := by decide +kernel
theorem dX13_toldOf_29 : decode cX13_toldOf 29 = .ok (.iconst 1, 1) := by decide +kernel
theorem dX13_toldOf_30 : decode cX13_toldOf 30 = .ok (.if_icmp .ne 8, 3) := by decide +kernel
theorem dX13_toldOf_33 : decode cX13_toldOf 33 = .ok (.bipush 6, 2) := by decide +kernel
theorem dX13_toldOf_35 : decode cX13_toldOf 35 = .ok (.goto 4, 3) := by decide +kernel
theorem dX13_toldOf_38 : decode cX13_toldOf 38 = .ok (.iconst 4, 1) := by decide +kernel
theorem dX13_toldOf_39 : decode cX13_toldOf 39 = .ok (.ireturn, 1) := by decide +kernel
set_option maxRecDepth 20000 in
theorem ggX13_liesBy_X12_slopeAt : GoodIn wsX13_liesBy wsX12_slopeAt := goodIn_r _ [6, 7, 42, 43, 44, 45, 46, 47, 48, 49, 50, 51, 52, 53, 54, 55, 56, 57, 58, 59, 60, 61, 62, 63, 64, 65, 66, 67, 68, 69, 70, 71, 72, 73, 74, 75, 76, 77, 78, 79, 80, 81, 82, 83, 84, 85, 86, 87, 88, 89] rfl (by decide +kernel)
set_option maxRecDepth 20000 in
theorem gX13_liesBy_X12_slopeAt : GoodIn wsX13_liesBy (wsV RX13 460 RX12 yX12_slopeAt wsX12_slopeAt) := goodIn_app (goodIn_of _ (by decide +kernel)) ggX13_liesBy_X12_slopeAt
set_option maxRecDepth 20000 in
theorem ggX13_liesBy_X13_tenths : GoodIn wsX13_liesBy wsX13_tenths := goodIn_r _ [12, 1, 13, 14, 15, 16, 17, 18, 19, 20, 21, 22, 23, 24, 25, 26, 27, 28, 29, 30, 31, 32, 33, 34, 35, 36, 37, 38, 39, 40, 41, 42, 43, 44, 45, 46, 47, 48, 49, 50, 51, 52, 53, 54, 55, 56, 57, 58, 59, 60, 61, 62, 63, 64, 65, 66, 67, 68, 69, 70, 71, 72, 73, 74, 75, 76, 77, 78, 79, 80, 81, 82, 83, 84, 85, 86, 87, 88, 89] rfl (by decide +kernel)
set_option maxRecDepth 20000 in
theorem gX13_liesBy_X13_tenths : GoodIn wsX13_liesBy (wsV RX13 477 RX13 yX13_tenths wsX13_tenths) := goodIn_app (goodIn_of _ (by decide +kernel)) ggX13_liesBy_X13_tenths
theorem dX13_liesBy_0 : decode cX13_liesBy 0 = .ok (.aload_n 0, 1) := by decide +kernel
theorem dX13_liesBy_1 : decode cX13_liesBy 1 = .ok (.iload_n 1, 1) := by decide +kernel
theorem dX13_liesBy_2 : decode cX13_liesBy 2 = .ok (.aload_n 0, 1) := by decide +kernel
theorem dX13_liesBy_3 : decode cX13_liesBy 3 = .ok (.getfield 431, 3) := by decide +kernel
theorem dX13_liesBy_6 : decode cX13_liesBy 6 = .ok (.aload_n 0, 1) := by decide +kernel
theorem dX13_liesBy_7 : decode cX13_liesBy 7 = .ok (.getfield 431, 3) := by decide +kernel
theorem dX13_liesBy_10 : decode cX13_liesBy 10 = .ok (.getfield 312, 3) := by decide +kernel
theorem dX13_liesBy_13 : decode cX13_liesBy 13 = .ok (.iload_n 2, 1) := by decide +kernel
theorem dX13_liesBy_14 : decode cX13_liesBy 14 = .ok (.iaload, 1) := by decide +kernel
theorem dX13_liesBy_15 : decode cX13_liesBy 15 = .ok (.aload_n 0, 1) := by decide +kernel
theorem dX13_liesBy_16 : decode cX13_liesBy 16 = .ok (.getfield 431, 3) := by decide +kernel
theorem dX13_liesBy_19 : decode cX13_liesBy 19 = .ok (.getfield 314, 3) := by decide +kernel
theorem dX13_liesBy_22 : decode cX13_liesBy 22 = .ok (.iload_n 2, 1) := by decide +kernel
theorem dX13_liesBy_23 : decode cX13_liesBy 23 = .ok (.iaload, 1) := by decide +kernel
theorem dX13_liesBy_24 : decode cX13_liesBy 24 = .ok (.invokevirtual 460, 3) := by decide +kernel
theorem dX13_liesBy_27 : decode cX13_liesBy 27 = .ok (.aload_n 0, 1) := by decide +kernel
theorem dX13_liesBy_28 : decode cX13_liesBy 28 = .ok (.getfield 431, 3) := by decide +kernel
theorem dX13_liesBy_31 : decode cX13_liesBy 31 = .ok (.getfield 309, 3) := by decide +kernel
theorem dX13_liesBy_34 : decode cX13_liesBy 34 = .ok (.iload_n 2, 1) := by decide +kernel
theorem dX13_liesBy_35 : decode cX13_liesBy 35 = .ok (.iaload, 1) := by decide +kernel
theorem dX13_liesBy_36 : decode cX13_liesBy 36 = .ok (.invokevirtual 477, 3) := by decide +kernel
theorem dX13_liesBy_39 : decode cX13_liesBy 39 = .ok (.ireturn, 1) := by decide +kernel
set_option maxRecDepth 20000 in
theorem ggX13_oddsOf_X13_liesBy : GoodIn wsX13_oddsOf wsX13_liesBy := goodIn_r _ [6, 1, 7, 8, 9, 10, 11, 12, 13, 14, 15, 5, 16, 33, 34, 35, 36, 37, 38, 39, 40, 41, 42, 43, 44, 45, 46, 47, 48, 49, 50, 51, 52, 53, 54, 55, 56, 57, 58, 59, 60, 61, 62, 63, 64, 65, 66, 67, 68, 69, 70, 71, 72, 73, 74, 75, 76, 77, 78, 79, 80, 81, 82, 83, 84, 85, 86, 87, 88, 89, 90, 91, 92, 93, 94, 95, 96, 97, 98, 99, 100, 101, 102, 103, 104, 105, 106, 107, 108, 109] rfl (by decide +kernel)
set_option maxRecDepth 20000 in
theorem gX13_oddsOf_X13_liesBy : GoodIn wsX13_oddsOf (wsV RX13 544 RX13 yX13_liesBy wsX13_liesBy) := goodIn_app (goodIn_of _ (by decide +kernel)) ggX13_oddsOf_X13_liesBy
set_option maxRecDepth 20000 in
theorem ggX13_oddsOf_X13_hollowOf : GoodIn wsX13_oddsOf wsX13_hollowOf := goodIn_r _ [20, 1, 33, 34, 35, 36, 37, 38, 39, 40, 41, 42, 43, 44, 45, 46, 47, 48, 49, 50, 51, 52, 53, 54, 55, 56, 57, 58, 59, 60, 61, 62, 63, 64, 65, 66, 67, 68, 69, 70, 71, 72, 73, 74, 75, 76, 77, 78, 79, 80, 81, 82, 83, 84, 85, 86, 87, 88, 89, 90, 91, 92, 93, 94, 95, 96, 97, 98, 99, 100, 101, 102, 103, 104, 105, 106, 107, 108, 109] rfl (by decide +kernel)
set_option maxRecDepth 20000 in
theorem gX13_oddsOf_X13_hollowOf : GoodIn wsX13_oddsOf (wsV RX13 547 RX13 yX13_hollowOf wsX13_hollowOf) := goodIn_app (goodIn_of _ (by decide +kernel)) ggX13_oddsOf_X13_hollowOf
set_option maxRecDepth 20000 in
theorem ggX13_oddsOf_X13_shapeOf : GoodIn wsX13_oddsOf wsX13_shapeOf := goodIn_r _ [24, 1, 25, 26, 27, 5, 28, 33, 34, 35, 36, 37, 38, 39, 40, 41, 42, 43, 44, 45, 46, 47, 48, 49, 50, 51, 52, 53, 54, 55, 56, 57, 58, 59, 60, 61, 62, 63, 64, 65, 66, 67, 68, 69, 70, 71, 72, 73, 74, 75, 76, 77, 78, 79, 80, 81, 82, 83, 84, 85, 86, 87, 88, 89, 90, 91, 92, 93, 94, 95, 96, 97, 98, 99, 100, 101, 102, 103, 104, 105, 106, 107, 108, 109] rfl (by decide +kernel)
set_option maxRecDepth 20000 in
theorem gX13_oddsOf_X13_shapeOf : GoodIn wsX13_oddsOf (wsV RX13 550 RX13 yX13_shapeOf wsX13_shapeOf) := goodIn_app (goodIn_of _ (by decide +kernel)) ggX13_oddsOf_X13_shapeOf
set_option maxRecDepth 20000 in
theorem ggX13_oddsOf_X13_toldOf : GoodIn wsX13_oddsOf wsX13_toldOf := goodIn_r _ [32, 1, 33, 34, 35, 36, 37, 38, 39, 40, 41, 42, 43, 44, 45, 46, 47, 48, 49, 50, 51, 52, 53, 54, 55, 56, 57, 58, 59, 60, 61, 62, 63, 64, 65, 66, 67, 68, 69, 70, 71, 72, 73, 74, 75, 76, 77, 78, 79, 80, 81, 82, 83, 84, 85, 86, 87, 88, 89, 90, 91, 92, 93, 94, 95, 96, 97, 98, 99, 100, 101, 102, 103, 104, 105, 106, 107, 108, 109] rfl (by decide +kernel)
set_option maxRecDepth 20000 in
theorem gX13_oddsOf_X13_toldOf : GoodIn wsX13_oddsOf (wsV RX13 553 RX13 yX13_toldOf wsX13_toldOf) := goodIn_app (goodIn_of _ (by decide +kernel)) ggX13_oddsOf_X13_toldOf
theorem dX13_oddsOf_0 : decode cX13_oddsOf 0 = .ok (.aload_n 0, 1) := by decide +kernel
theorem dX13_oddsOf_1 : decode cX13_oddsOf 1 = .ok (.getfield 431, 3) := by decide +kernel
theorem dX13_oddsOf_4 : decode cX13_oddsOf 4 = .ok (.getfield 250, 3) := by decide +kernel
theorem dX13_oddsOf_7 : decode cX13_oddsOf 7 = .ok (.iload_n 1, 1) := by decide +kernel
theorem dX13_oddsOf_8 : decode cX13_oddsOf 8 = .ok (.iaload, 1) := by decide +kernel
theorem dX13_oddsOf_9 : decode cX13_oddsOf 9 = .ok (.i2l, 1) := by decide +kernel
theorem dX13_oddsOf_10 : decode cX13_oddsOf 10 = .ok (.lstore_n 3, 1) := by decide +kernel
theorem dX13_oddsOf_11 : decode cX13_oddsOf 11 = .ok (.iconst 0, 1) := by decide +kernel
theorem dX13_oddsOf_12 : decode cX13_oddsOf 12 = .ok (.istore 5, 2) := by decide +kernel
theorem dX13_oddsOf_14 : decode cX13_oddsOf 14 = .ok (.iload 5, 2) := by decide +kernel
theorem dX13_oddsOf_16 : decode cX13_oddsOf 16 = .ok (.aload_n 0, 1) := by decide +kernel
theorem dX13_oddsOf_17 : decode cX13_oddsOf 17 = .ok (.getfield 431, 3) := by decide +kernel
theorem dX13_oddsOf_20 : decode cX13_oddsOf 20 = .ok (.getfield 191, 3) := by decide +kernel
theorem dX13_oddsOf_23 : decode cX13_oddsOf 23 = .ok (.if_icmp .ge 40, 3) := by decide +kernel
theorem dX13_oddsOf_26 : decode cX13_oddsOf 26 = .ok (.aload_n 0, 1) := by decide +kernel
theorem dX13_oddsOf_27 : decode cX13_oddsOf 27 = .ok (.getfield 431, 3) := by decide +kernel
theorem dX13_oddsOf_30 : decode cX13_oddsOf 30 = .ok (.getfield 307, 3) := by decide +kernel
theorem dX13_oddsOf_33 : decode cX13_oddsOf 33 = .ok (.iload 5, 2) := by decide +kernel
theorem dX13_oddsOf_35 : decode cX13_oddsOf 35 = .ok (.iaload, 1) := by decide +kernel
theorem dX13_oddsOf_36 : decode cX13_oddsOf 36 = .ok (.iconst 5, 1) := by decide +kernel
theorem dX13_oddsOf_37 : decode cX13_oddsOf 37 = .ok (.if_icmp .ne 20, 3) := by decide +kernel
theorem dX13_oddsOf_40 : decode cX13_oddsOf 40 = .ok (.iload 5, 2) := by decide +kernel
theorem dX13_oddsOf_42 : decode cX13_oddsOf 42 = .ok (.iload_n 2, 1) := by decide +kernel
theorem dX13_oddsOf_43 : decode cX13_oddsOf 43 = .ok (.if_icmp .eq 14, 3) := by decide +kernel
theorem dX13_oddsOf_46 : decode cX13_oddsOf 46 = .ok (.lload_n 3, 1) := by decide +kernel
theorem dX13_oddsOf_47 : decode cX13_oddsOf 47 = .ok (.aload_n 0, 1) := by decide +kernel
theorem dX13_oddsOf_48 : decode cX13_oddsOf 48 = .ok (.iload_n 1, 1) := by decide +kernel
theorem dX13_oddsOf_49 : decode cX13_oddsOf 49 = .ok (.iload 5, 2) := by decide +kernel
theorem dX13_oddsOf_51 : decode cX13_oddsOf 51 = .ok (.invokevirtual 544, 3) := by decide +kernel
theorem dX13_oddsOf_54 : decode cX13_oddsOf 54 = .ok (.i2l, 1) := by decide +kernel
theorem dX13_oddsOf_55 : decode cX13_oddsOf 55 = .ok (.lmul, 1) := by decide +kernel
theorem dX13_oddsOf_56 : decode cX13_oddsOf 56 = .ok (.lstore_n 3, 1) := by decide +kernel
theorem dX13_oddsOf_57 : decode cX13_oddsOf 57 = .ok (.iinc 5 1, 3) := by decide +kernel
theorem dX13_oddsOf_60 : decode cX13_oddsOf 60 = .ok (.goto (-46), 3) := by decide +kernel
theorem dX13_oddsOf_63 : decode cX13_oddsOf 63 = .ok (.iconst 0, 1) := by decide +kernel
theorem dX13_oddsOf_64 : decode cX13_oddsOf 64 = .ok (.istore 5, 2) := by decide +kernel
theorem dX13_oddsOf_66 : decode cX13_oddsOf 66 = .ok (.iload 5, 2) := by decide +kernel
theorem dX13_oddsOf_68 : decode cX13_oddsOf 68 = .ok (.aload_n 0, 1) := by decide +kernel
theorem dX13_oddsOf_69 : decode cX13_oddsOf 69 = .ok (.getfield 431, 3) := by decide +kernel
theorem dX13_oddsOf_72 : decode cX13_oddsOf 72 = .ok (.getfield 188, 3) := by decide +kernel
theorem dX13_oddsOf_75 : decode cX13_oddsOf 75 = .ok (.if_icmp .ge 20, 3) := by decide +kernel
theorem dX13_oddsOf_78 : decode cX13_oddsOf 78 = .ok (.lload_n 3, 1) := by decide +kernel
theorem dX13_oddsOf_79 : decode cX13_oddsOf 79 = .ok (.aload_n 0, 1) := by decide +kernel
theorem dX13_oddsOf_80 : decode cX13_oddsOf 80 = .ok (.iload_n 1, 1) := by decide +kernel
theorem dX13_oddsOf_81 : decode cX13_oddsOf 81 = .ok (.iload 5, 2) := by decide +kernel
theorem dX13_oddsOf_83 : decode cX13_oddsOf 83 = .ok (.invokevirtual 547, 3) := by decide +kernel
theorem dX13_oddsOf_86 : decode cX13_oddsOf 86 = .ok (.i2l, 1) := by decide +kernel
theorem dX13_oddsOf_87 : decode cX13_oddsOf 87 = .ok (.lmul, 1) := by decide +kernel
theorem dX13_oddsOf_88 : decode cX13_oddsOf 88 = .ok (.lstore_n 3, 1) := by decide +kernel
theorem dX13_oddsOf_89 : decode cX13_oddsOf 89 = .ok (.iinc 5 1, 3) := by decide +kernel
theorem dX13_oddsOf_92 : decode cX13_oddsOf 92 = .ok (.goto (-26), 3) := by decide +kernel
theorem dX13_oddsOf_95 : decode cX13_oddsOf 95 = .ok (.lload_n 3, 1) := by decide +kernel
theorem dX13_oddsOf_96 : decode cX13_oddsOf 96 = .ok (.aload_n 0, 1) := by decide +kernel
theorem dX13_oddsOf_97 : decode cX13_oddsOf 97 = .ok (.iload_n 1, 1) := by decide +kernel
theorem dX13_oddsOf_98 : decode cX13_oddsOf 98 = .ok (.iload_n 2, 1) := by decide +kernel
theorem dX13_oddsOf_99 : decode cX13_oddsOf 99 = .ok (.invokevirtual 550, 3) := by decide +kernel
theorem dX13_oddsOf_102 : decode cX13_oddsOf 102 = .ok (.i2l, 1) := by decide +kernel
theorem dX13_oddsOf_103 : decode cX13_oddsOf 103 = .ok (.lmul, 1) := by decide +kernel
theorem dX13_oddsOf_104 : decode cX13_oddsOf 104 = .ok (.lstore_n 3, 1) := by decide +kernel
theorem dX13_oddsOf_105 : decode cX13_oddsOf 105 = .ok (.iconst 0, 1) := by decide +kernel
theorem dX13_oddsOf_106 : decode cX13_oddsOf 106 = .ok (.istore 5, 2) := by decide +kernel
theorem dX13_oddsOf_108 : decode cX13_oddsOf 108 = .ok (.iload 5, 2) := by decide +kernel
theorem dX13_oddsOf_110 : decode cX13_oddsOf 110 = .ok (.aload_n 0, 1) := by decide +kernel
theorem dX13_oddsOf_111 : decode cX13_oddsOf 111 = .ok (.getfield 431, 3) := by decide +kernel
theorem dX13_oddsOf_114 : decode cX13_oddsOf 114 = .ok (.getfield 393, 3) := by decide +kernel
theorem dX13_oddsOf_117 : decode cX13_oddsOf 117 = .ok (.if_icmp .ge 20, 3) := by decide +kernel
theorem dX13_oddsOf_120 : decode cX13_oddsOf 120 = .ok (.lload_n 3, 1) := by decide +kernel
theorem dX13_oddsOf_121 : decode cX13_oddsOf 121 = .ok (.aload_n 0, 1) := by decide +kernel
theorem dX13_oddsOf_122 : decode cX13_oddsOf 122 = .ok (.iload_n 1, 1) := by decide +kernel
theorem dX13_oddsOf_123 : decode cX13_oddsOf 123 = .ok (.iload 5, 2) := by decide +kernel
theorem dX13_oddsOf_125 : decode cX13_oddsOf 125 = .ok (.invokevirtual 553, 3) := by decide +kernel
theorem dX13_oddsOf_128 : decode cX13_oddsOf 128 = .ok (.i2l, 1) := by decide +kernel
theorem dX13_oddsOf_129 : decode cX13_oddsOf 129 = .ok (.lmul, 1) := by decide +kernel
theorem dX13_oddsOf_130 : decode cX13_oddsOf 130 = .ok (.lstore_n 3, 1) := by decide +kernel
theorem dX13_oddsOf_131 : decode cX13_oddsOf 131 = .ok (.iinc 5 1, 3) := by decide +kernel
theorem dX13_oddsOf_134 : decode cX13_oddsOf 134 = .ok (.goto (-26), 3) := by decide +kernel
theorem dX13_oddsOf_137 : decode cX13_oddsOf 137 = .ok (.lload_n 3, 1) := by decide +kernel
theorem dX13_oddsOf_138 : decode cX13_oddsOf 138 = .ok (.lreturn, 1) := by decide +kernel
set_option maxRecDepth 20000 in
theorem ggX13_odds_X13_isWay : GoodIn wsX13_odds wsX13_isWay := goodIn_r _ [7, 2, 52, 53, 54, 55, 56, 57, 58, 59, 60, 61, 62, 63, 64, 65, 66, 67, 68, 69, 70, 71, 72, 73, 74, 75, 76, 77, 78, 79, 80, 81, 82, 83, 84, 85, 86, 87, 88, 89, 90, 91, 92, 93, 94, 95, 96, 97, 98, 99, 100, 101, 102, 103, 104, 105, 106, 107, 108, 109, 110, 111, 112, 113, 114, 115, 116, 117, 118, 119, 120, 121, 122, 123, 124, 125, 126, 127, 128] rfl (by decide +kernel)
set_option maxRecDepth 20000 in
theorem gX13_odds_X13_isWay : GoodIn wsX13_odds (wsV RX13 444 RX13 yX13_isWay wsX13_isWay) := goodIn_app (goodIn_of _ (by decide +kernel)) ggX13_odds_X13_isWay
set_option maxRecDepth 20000 in
theorem ggX13_odds_X13_refused : GoodIn wsX13_odds wsX13_refused := goodIn_r _ [11, 12, 13, 52, 53, 54, 55, 56, 57, 58, 59, 60, 61, 62, 63, 64, 65, 66, 67, 68, 69, 70, 71, 72, 73, 74, 75, 76, 77, 78, 79, 80] rfl (by decide +kernel)
set_option maxRecDepth 20000 in
theorem gX13_odds_X13_refused : GoodIn wsX13_odds (wsV RX13 36 RX13 yX13_refused wsX13_refused) := goodIn_app (goodIn_of _ (by decide +kernel)) ggX13_odds_X13_refused
set_option maxRecDepth 20000 in
theorem ggX13_odds_X13_done : GoodIn wsX13_odds wsX13_done := goodIn_r _ [17, 12, 13, 52, 53, 54, 55, 56, 57, 58, 59, 60, 61, 62, 63, 64, 65, 66, 67, 68, 69, 70, 71, 72, 73, 74, 75, 76, 77, 78, 79, 80] rfl (by decide +kernel)
set_option maxRecDepth 20000 in
theorem gX13_odds_X13_done : GoodIn wsX13_odds (wsV RX13 40 RX13 yX13_done wsX13_done) := goodIn_app (goodIn_of _ (by decide +kernel)) ggX13_odds_X13_done
set_option maxRecDepth 20000 in
theorem ggX13_odds_X13_oddsOf : GoodIn wsX13_odds wsX13_oddsOf := goodIn_r _ [21, 2, 22, 23, 24, 6, 25, 26, 27, 28, 29, 30, 31, 32, 33, 34, 35, 36, 37, 38, 39, 40, 41, 42, 43, 44, 45, 46, 47, 48, 49, 50, 51, 52, 53, 54, 55, 56, 57, 58, 59, 60, 61, 62, 63, 64, 65, 66, 67, 68, 69, 70, 71, 72, 73, 74, 75, 76, 77, 78, 79, 80, 81, 82, 83, 84, 85, 86, 87, 88, 89, 90, 91, 92, 93, 94, 95, 96, 97, 98, 99, 100, 101, 102, 103, 104, 105, 106, 107, 108, 109, 110, 111, 112, 113, 114, 115, 116, 117, 118, 119, 120, 121, 122, 123, 124, 125, 126, 127, 128] rfl (by decide +kernel)
set_option maxRecDepth 20000 in
theorem gX13_odds_X13_oddsOf : GoodIn wsX13_odds (wsV RX13 556 RX13 yX13_oddsOf wsX13_oddsOf) := goodIn_app (goodIn_of _ (by decide +kernel)) ggX13_odds_X13_oddsOf
theorem dX13_odds_0 : decode cX13_odds 0 = .ok (.aload_n 0, 1) := by decide +kernel
theorem dX13_odds_1 : decode cX13_odds 1 = .ok (.iconst 0, 1) := by decide +kernel
theorem dX13_odds_2 : decode cX13_odds 2 = .ok (.putfield 30, 3) := by decide +kernel
theorem dX13_odds_5 : decode cX13_odds 5 = .ok (.aload_n 0, 1) := by decide +kernel
theorem dX13_odds_6 : decode cX13_odds 6 = .ok (.getfield 431, 3) := by decide +kernel
theorem dX13_odds_9 : decode cX13_odds 9 = .ok (.ifnull 16, 3) := by decide +kernel
theorem dX13_odds_12 : decode cX13_odds 12 = .ok (.iload_n 1, 1) := by decide +kernel
theorem dX13_odds_13 : decode cX13_odds 13 = .ok (.iconst (-1), 1) := by decide +kernel
theorem dX13_odds_14 : decode cX13_odds 14 = .ok (.if_icmp .eq 18, 3) := by decide +kernel
theorem dX13_odds_17 : decode cX13_odds 17 = .ok (.aload_n 0, 1) := by decide +kernel
theorem dX13_odds_18 : decode cX13_odds 18 = .ok (.iload_n 1, 1) := by decide +kernel
theorem dX13_odds_19 : decode cX13_odds 19 = .ok (.invokevirtual 444, 3) := by decide +kernel
theorem dX13_odds_22 : decode cX13_odds 22 = .ok (.ifCond .ne 10, 3) := by decide +kernel
theorem dX13_odds_25 : decode cX13_odds 25 = .ok (.aload_n 0, 1) := by decide +kernel
theorem dX13_odds_26 : decode cX13_odds 26 = .ok (.iconst 1, 1) := by decide +kernel
theorem dX13_odds_27 : decode cX13_odds 27 = .ok (.invokevirtual 36, 3) := by decide +kernel
theorem dX13_odds_30 : decode cX13_odds 30 = .ok (.i2l, 1) := by decide +kernel
theorem dX13_odds_31 : decode cX13_odds 31 = .ok (.lreturn, 1) := by decide +kernel
theorem dX13_odds_32 : decode cX13_odds 32 = .ok (.aload_n 0, 1) := by decide +kernel
theorem dX13_odds_33 : decode cX13_odds 33 = .ok (.iconst 0, 1) := by decide +kernel
theorem dX13_odds_34 : decode cX13_odds 34 = .ok (.invokevirtual 40, 3) := by decide +kernel
theorem dX13_odds_37 : decode cX13_odds 37 = .ok (.pop, 1) := by decide +kernel
theorem dX13_odds_38 : decode cX13_odds 38 = .ok (.iload_n 1, 1) := by decide +kernel
theorem dX13_odds_39 : decode cX13_odds 39 = .ok (.iconst (-1), 1) := by decide +kernel
theorem dX13_odds_40 : decode cX13_odds 40 = .ok (.if_icmp .eq 10, 3) := by decide +kernel
theorem dX13_odds_43 : decode cX13_odds 43 = .ok (.aload_n 0, 1) := by decide +kernel
theorem dX13_odds_44 : decode cX13_odds 44 = .ok (.iload_n 1, 1) := by decide +kernel
theorem dX13_odds_45 : decode cX13_odds 45 = .ok (.iconst (-1), 1) := by decide +kernel
theorem dX13_odds_46 : decode cX13_odds 46 = .ok (.invokevirtual 556, 3) := by decide +kernel
theorem dX13_odds_49 : decode cX13_odds 49 = .ok (.lreturn, 1) := by decide +kernel
theorem dX13_odds_50 : decode cX13_odds 50 = .ok (.lconst 0, 1) := by decide +kernel
theorem dX13_odds_51 : decode cX13_odds 51 = .ok (.lstore_n 2, 1) := by decide +kernel
theorem dX13_odds_52 : decode cX13_odds 52 = .ok (.iconst 0, 1) := by decide +kernel
theorem dX13_odds_53 : decode cX13_odds 53 = .ok (.istore 4, 2) := by decide +kernel
theorem dX13_odds_55 : decode cX13_odds 55 = .ok (.iload 4, 2) := by decide +kernel
theorem dX13_odds_57 : decode cX13_odds 57 = .ok (.aload_n 0, 1) := by decide +kernel
theorem dX13_odds_58 : decode cX13_odds 58 = .ok (.getfield 431, 3) := by decide +kernel
theorem dX13_odds_61 : decode cX13_odds 61 = .ok (.getfield 185, 3) := by decide +kernel
theorem dX13_odds_64 : decode cX13_odds 64 = .ok (.if_icmp .ge 19, 3) := by decide +kernel
theorem dX13_odds_67 : decode cX13_odds 67 = .ok (.lload_n 2, 1) := by decide +kernel
theorem dX13_odds_68 : decode cX13_odds 68 = .ok (.aload_n 0, 1) := by decide +kernel
theorem dX13_odds_69 : decode cX13_odds 69 = .ok (.iload 4, 2) := by decide +kernel
theorem dX13_odds_71 : decode cX13_odds 71 = .ok (.iconst (-1), 1) := by decide +kernel
theorem dX13_odds_72 : decode cX13_odds 72 = .ok (.invokevirtual 556, 3) := by decide +kernel
theorem dX13_odds_75 : decode cX13_odds 75 = .ok (.ladd, 1) := by decide +kernel
theorem dX13_odds_76 : decode cX13_odds 76 = .ok (.lstore_n 2, 1) := by decide +kernel
theorem dX13_odds_77 : decode cX13_odds 77 = .ok (.iinc 4 1, 3) := by decide +kernel
theorem dX13_odds_80 : decode cX13_odds 80 = .ok (.goto (-25), 3) := by decide +kernel
theorem dX13_odds_83 : decode cX13_odds 83 = .ok (.lload_n 2, 1) := by decide +kernel
theorem dX13_odds_84 : decode cX13_odds 84 = .ok (.lreturn, 1) := by decide +kernel
set_option maxRecDepth 20000 in
theorem ggX13_likeliestOf_X13_oddsOf : GoodIn wsX13_likeliestOf wsX13_oddsOf := goodIn_r _ [6, 1, 7, 8, 9, 5, 10, 11, 12, 13, 14, 15, 16, 17, 18, 19, 20, 21, 22, 23, 24, 25, 26, 27, 28, 29, 30, 31, 32, 33, 34, 35, 36, 37, 38, 39, 40, 41, 42, 43, 44, 45, 46, 47, 48, 49, 50, 51, 52, 53, 54, 55, 56, 57, 58, 59, 60, 61, 62, 63, 64, 65, 66, 67, 68, 69, 70, 71, 72, 73, 74, 75, 76, 77, 78, 79, 80, 81, 82, 83, 84, 85, 86, 87, 88, 89, 90, 91, 92, 93, 94, 95, 96, 97, 98, 99, 100, 101, 102, 103, 104, 105, 106, 107, 108, 109, 110, 111, 112, 113] rfl (by decide +kernel)
set_option maxRecDepth 20000 in
theorem gX13_likeliestOf_X13_oddsOf : GoodIn wsX13_likeliestOf (wsV RX13 556 RX13 yX13_oddsOf wsX13_oddsOf) := goodIn_app (goodIn_of _ (by decide +kernel)) ggX13_likeliestOf_X13_oddsOf
theorem dX13_likeliestOf_0 : decode cX13_likeliestOf 0 = .ok (.iconst 0, 1) := by decide +kernel
theorem dX13_likeliestOf_1 : decode cX13_likeliestOf 1 = .ok (.istore_n 2, 1) := by decide +kernel
theorem dX13_likeliestOf_2 : decode cX13_likeliestOf 2 = .ok (.iconst 1, 1) := by decide +kernel
theorem dX13_likeliestOf_3 : decode cX13_likeliestOf 3 = .ok (.istore_n 3, 1) := by decide +kernel
theorem dX13_likeliestOf_4 : decode cX13_likeliestOf 4 = .ok (.iload_n 3, 1) := by decide +kernel
theorem dX13_likeliestOf_5 : decode cX13_likeliestOf 5 = .ok (.aload_n 0, 1) := by decide +kernel
theorem dX13_likeliestOf_6 : decode cX13_likeliestOf 6 = .ok (.getfield 431, 3) := by decide +kernel
theorem dX13_likeliestOf_9 : decode cX13_likeliestOf 9 = .ok (.getfield 185, 3) := by decide +kernel
theorem dX13_likeliestOf_12 : decode cX13_likeliestOf 12 = .ok (.if_icmp .ge 27, 3) := by decide +kernel
theorem dX13_likeliestOf_15 : decode cX13_likeliestOf 15 = .ok (.aload_n 0, 1) := by decide +kernel
theorem dX13_likeliestOf_16 : decode cX13_likeliestOf 16 = .ok (.iload_n 3, 1) := by decide +kernel
theorem dX13_likeliestOf_17 : decode cX13_likeliestOf 17 = .ok (.iload_n 1, 1) := by decide +kernel
theorem dX13_likeliestOf_18 : decode cX13_likeliestOf 18 = .ok (.invokevirtual 556, 3) := by decide +kernel
theorem dX13_likeliestOf_21 : decode cX13_likeliestOf 21 = .ok (.aload_n 0, 1) := by decide +kernel
theorem dX13_likeliestOf_22 : decode cX13_likeliestOf 22 = .ok (.iload_n 2, 1) := by decide +kernel
theorem dX13_likeliestOf_23 : decode cX13_likeliestOf 23 = .ok (.iload_n 1, 1) := by decide +kernel
theorem dX13_likeliestOf_24 : decode cX13_likeliestOf 24 = .ok (.invokevirtual 556, 3) := by decide +kernel
theorem dX13_likeliestOf_27 : decode cX13_likeliestOf 27 = .ok (.lcmp, 1) := by decide +kernel
theorem dX13_likeliestOf_28 : decode cX13_likeliestOf 28 = .ok (.ifCond .le 5, 3) := by decide +kernel
theorem dX13_likeliestOf_31 : decode cX13_likeliestOf 31 = .ok (.iload_n 3, 1) := by decide +kernel
theorem dX13_likeliestOf_32 : decode cX13_likeliestOf 32 = .ok (.istore_n 2, 1) := by decide +kernel
theorem dX13_likeliestOf_33 : decode cX13_likeliestOf 33 = .ok (.iinc 3 1, 3) := by decide +kernel
theorem dX13_likeliestOf_36 : decode cX13_likeliestOf 36 = .ok (.goto (-32), 3) := by decide +kernel
theorem dX13_likeliestOf_39 : decode cX13_likeliestOf 39 = .ok (.iload_n 2, 1) := by decide +kernel
theorem dX13_likeliestOf_40 : decode cX13_likeliestOf 40 = .ok (.ireturn, 1) := by decide +kernel
set_option maxRecDepth 20000 in
theorem ggX13_likeliest_X13_refused : GoodIn wsX13_likeliest wsX13_refused := goodIn_r _ [7, 8, 9, 52, 53, 54, 55, 56, 57, 58, 59, 60, 61, 62, 63, 64, 65, 66, 67, 68, 69, 70, 71, 72, 73, 74, 75, 76, 77, 78, 79, 80] rfl (by decide +kernel)
set_option maxRecDepth 20000 in
theorem gX13_likeliest_X13_refused : GoodIn wsX13_likeliest (wsV RX13 36 RX13 yX13_refused wsX13_refused) := goodIn_app (goodIn_of _ (by decide +kernel)) ggX13_likeliest_X13_refused
set_option maxRecDepth 20000 in
theorem ggX13_likeliest_X13_likeliestOf : GoodIn wsX13_likeliest wsX13_likeliestOf := goodIn_r _ [13, 2, 14, 15, 16, 6, 17, 18, 19, 20, 21, 22, 23, 24, 25, 26, 27, 28, 29, 30, 31, 32, 33, 34, 35, 36, 37, 38, 39, 40, 41, 42, 43, 44, 45, 46, 47, 52, 53, 54, 55, 56, 57, 58, 59, 60, 61, 62, 63, 64, 65, 66, 67, 68, 69, 70, 71, 72, 73, 74, 75, 76, 77, 78, 79, 80, 81, 82, 83, 84, 85, 86, 87, 88, 89, 90, 91, 92, 93, 94, 95, 96, 97, 98, 99, 100, 101, 102, 103, 104, 105, 106, 107, 108, 109, 110, 111, 112, 113, 114, 115, 116, 117, 118, 119, 120, 121, 122, 123, 124, 125, 126, 127, 128] rfl (by decide +kernel)
set_option maxRecDepth 20000 in
theorem gX13_likeliest_X13_likeliestOf : GoodIn wsX13_likeliest (wsV RX13 560 RX13 yX13_likeliestOf wsX13_likeliestOf) := goodIn_app (goodIn_of _ (by decide +kernel)) ggX13_likeliest_X13_likeliestOf
set_option maxRecDepth 20000 in
theorem ggX13_likeliest_X13_done : GoodIn wsX13_likeliest wsX13_done := goodIn_r _ [51, 8, 9, 52, 53, 54, 55, 56, 57, 58, 59, 60, 61, 62, 63, 64, 65, 66, 67, 68, 69, 70, 71, 72, 73, 74, 75, 76, 77, 78, 79, 80] rfl (by decide +kernel)
set_option maxRecDepth 20000 in
theorem gX13_likeliest_X13_done : GoodIn wsX13_likeliest (wsV RX13 40 RX13 yX13_done wsX13_done) := goodIn_app (goodIn_of _ (by decide +kernel)) ggX13_likeliest_X13_done
theorem dX13_likeliest_0 : decode cX13_likeliest 0 = .ok (.aload_n 0, 1) := by decide +kernel
theorem dX13_likeliest_1 : decode cX13_likeliest 1 = .ok (.iconst 0, 1) := by decide +kernel
theorem dX13_likeliest_2 : decode cX13_likeliest 2 = .ok (.putfield 30, 3) := by decide +kernel
theorem dX13_likeliest_5 : decode cX13_likeliest 5 = .ok (.aload_n 0, 1) := by decide +kernel
theorem dX13_likeliest_6 : decode cX13_likeliest 6 = .ok (.getfield 431, 3) := by decide +kernel
theorem dX13_likeliest_9 : decode cX13_likeliest 9 = .ok (.ifnonnull 11, 3) := by decide +kernel
theorem dX13_likeliest_12 : decode cX13_likeliest 12 = .ok (.aload_n 0, 1) := by decide +kernel
theorem dX13_likeliest_13 : decode cX13_likeliest 13 = .ok (.iconst 1, 1) := by decide +kernel
theorem dX13_likeliest_14 : decode cX13_likeliest 14 = .ok (.invokevirtual 36, 3) := by decide +kernel
theorem dX13_likeliest_17 : decode cX13_likeliest 17 = .ok (.goto 12, 3) := by decide +kernel
theorem dX13_likeliest_20 : decode cX13_likeliest 20 = .ok (.aload_n 0, 1) := by decide +kernel
theorem dX13_likeliest_21 : decode cX13_likeliest 21 = .ok (.aload_n 0, 1) := by decide +kernel
theorem dX13_likeliest_22 : decode cX13_likeliest 22 = .ok (.iconst (-1), 1) := by decide +kernel
theorem dX13_likeliest_23 : decode cX13_likeliest 23 = .ok (.invokevirtual 560, 3) := by decide +kernel
theorem dX13_likeliest_26 : decode cX13_likeliest 26 = .ok (.invokevirtual 40, 3) := by decide +kernel
theorem dX13_likeliest_29 : decode cX13_likeliest 29 = .ok (.ireturn, 1) := by decide +kernel
set_option maxRecDepth 20000 in
theorem ggX13_lies_X13_isWay : GoodIn wsX13_lies wsX13_isWay := goodIn_r _ [7, 2, 36, 37, 38, 39, 40, 41, 42, 43, 44, 45, 46, 47, 48, 49, 50, 51, 52, 53, 54, 55, 56, 57, 58, 59, 60, 61, 62, 63, 64, 65, 66, 67, 68, 69, 70, 71, 72, 73, 74, 75, 76, 77, 78, 79, 80, 81, 82, 83, 84, 85, 86, 87, 88, 89, 90, 91, 92, 93, 94, 95, 96, 97, 98, 99, 100, 101, 102, 103, 104, 105, 106, 107, 108, 109, 110, 111, 112] rfl (by decide +kernel)
set_option maxRecDepth 20000 in
theorem gX13_lies_X13_isWay : GoodIn wsX13_lies (wsV RX13 444 RX13 yX13_isWay wsX13_isWay) := goodIn_app (goodIn_of _ (by decide +kernel)) ggX13_lies_X13_isWay
set_option maxRecDepth 20000 in
theorem ggX13_lies_X13_isStatue : GoodIn wsX13_lies wsX13_isStatue := goodIn_r _ [11, 2, 36, 37, 38, 39, 40, 41, 42, 43, 44, 45, 46, 47, 48, 49, 50, 51, 52, 53, 54, 55, 56, 57, 58, 59, 60, 61, 62, 63, 64, 65, 66, 67, 68, 69, 70, 71, 72, 73, 74, 75, 76, 77, 78, 79, 80, 81, 82, 83, 84, 85, 86, 87, 88, 89, 90, 91, 92, 93, 94, 95, 96, 97, 98, 99, 100, 101, 102, 103, 104, 105, 106, 107, 108, 109, 110, 111, 112] rfl (by decide +kernel)
set_option maxRecDepth 20000 in
theorem gX13_lies_X13_isStatue : GoodIn wsX13_lies (wsV RX13 447 RX13 yX13_isStatue wsX13_isStatue) := goodIn_app (goodIn_of _ (by decide +kernel)) ggX13_lies_X13_isStatue
set_option maxRecDepth 20000 in
theorem ggX13_lies_X13_liesBy : GoodIn wsX13_lies wsX13_liesBy := goodIn_r _ [15, 2, 16, 17, 18, 19, 20, 21, 22, 23, 24, 6, 25, 36, 37, 38, 39, 40, 41, 42, 43, 44, 45, 46, 47, 48, 49, 50, 51, 52, 53, 54, 55, 56, 57, 58, 59, 60, 61, 62, 63, 64, 65, 66, 67, 68, 69, 70, 71, 72, 73, 74, 75, 76, 77, 78, 79, 80, 81, 82, 83, 84, 85, 86, 87, 88, 89, 90, 91, 92, 93, 94, 95, 96, 97, 98, 99, 100, 101, 102, 103, 104, 105, 106, 107, 108, 109, 110, 111, 112] rfl (by decide +kernel)
set_option maxRecDepth 20000 in
theorem gX13_lies_X13_liesBy : GoodIn wsX13_lies (wsV RX13 544 RX13 yX13_liesBy wsX13_liesBy) := goodIn_app (goodIn_of _ (by decide +kernel)) ggX13_lies_X13_liesBy
set_option maxRecDepth 20000 in
theorem ggX13_lies_X13_done : GoodIn wsX13_lies wsX13_done := goodIn_r _ [29, 30, 31, 36, 37, 38, 39, 40, 41, 42, 43, 44, 45, 46, 47, 48, 49, 50, 51, 52, 53, 54, 55, 56, 57, 58, 59, 60, 61, 62, 63, 64] rfl (by decide +kernel)
set_option maxRecDepth 20000 in
theorem gX13_lies_X13_done : GoodIn wsX13_lies (wsV RX13 40 RX13 yX13_done wsX13_done) := goodIn_app (goodIn_of _ (by decide +kernel)) ggX13_lies_X13_done
set_option maxRecDepth 20000 in
theorem ggX13_lies_X13_refused : GoodIn wsX13_lies wsX13_refused := goodIn_r _ [35, 30, 31, 36, 37, 38, 39, 40, 41, 42, 43, 44, 45, 46, 47, 48, 49, 50, 51, 52, 53, 54, 55, 56, 57, 58, 59, 60, 61, 62, 63, 64] rfl (by decide +kernel)
set_option maxRecDepth 20000 in
theorem gX13_lies_X13_refused : GoodIn wsX13_lies (wsV RX13 36 RX13 yX13_refused wsX13_refused) := goodIn_app (goodIn_of _ (by decide +kernel)) ggX13_lies_X13_refused
theorem dX13_lies_0 : decode cX13_lies 0 = .ok (.aload_n 0, 1) := by decide +kernel
theorem dX13_lies_1 : decode cX13_lies 1 = .ok (.iconst 0, 1) := by decide +kernel
theorem dX13_lies_2 : decode cX13_lies 2 = .ok (.putfield 30, 3) := by decide +kernel
theorem dX13_lies_5 : decode cX13_lies 5 = .ok (.aload_n 0, 1) := by decide +kernel
theorem dX13_lies_6 : decode cX13_lies 6 = .ok (.iload_n 1, 1) := by decide +kernel
theorem dX13_lies_7 : decode cX13_lies 7 = .ok (.invokevirtual 444, 3) := by decide +kernel
theorem dX13_lies_10 : decode cX13_lies 10 = .ok (.ifCond .eq 37, 3) := by decide +kernel
theorem dX13_lies_13 : decode cX13_lies 13 = .ok (.aload_n 0, 1) := by decide +kernel
theorem dX13_lies_14 : decode cX13_lies 14 = .ok (.iload_n 2, 1) := by decide +kernel
theorem dX13_lies_15 : decode cX13_lies 15 = .ok (.invokevirtual 447, 3) := by decide +kernel
theorem dX13_lies_18 : decode cX13_lies 18 = .ok (.ifCond .eq 29, 3) := by decide +kernel
theorem dX13_lies_21 : decode cX13_lies 21 = .ok (.aload_n 0, 1) := by decide +kernel
theorem dX13_lies_22 : decode cX13_lies 22 = .ok (.getfield 431, 3) := by decide +kernel
theorem dX13_lies_25 : decode cX13_lies 25 = .ok (.getfield 307, 3) := by decide +kernel
theorem dX13_lies_28 : decode cX13_lies 28 = .ok (.iload_n 2, 1) := by decide +kernel
theorem dX13_lies_29 : decode cX13_lies 29 = .ok (.iaload, 1) := by decide +kernel
theorem dX13_lies_30 : decode cX13_lies 30 = .ok (.iconst 5, 1) := by decide +kernel
theorem dX13_lies_31 : decode cX13_lies 31 = .ok (.if_icmp .ne 16, 3) := by decide +kernel
theorem dX13_lies_34 : decode cX13_lies 34 = .ok (.aload_n 0, 1) := by decide +kernel
theorem dX13_lies_35 : decode cX13_lies 35 = .ok (.aload_n 0, 1) := by decide +kernel
theorem dX13_lies_36 : decode cX13_lies 36 = .ok (.iload_n 1, 1) := by decide +kernel
theorem dX13_lies_37 : decode cX13_lies 37 = .ok (.iload_n 2, 1) := by decide +kernel
theorem dX13_lies_38 : decode cX13_lies 38 = .ok (.invokevirtual 544, 3) := by decide +kernel
theorem dX13_lies_41 : decode cX13_lies 41 = .ok (.invokevirtual 40, 3) := by decide +kernel
theorem dX13_lies_44 : decode cX13_lies 44 = .ok (.goto 8, 3) := by decide +kernel
theorem dX13_lies_47 : decode cX13_lies 47 = .ok (.aload_n 0, 1) := by decide +kernel
theorem dX13_lies_48 : decode cX13_lies 48 = .ok (.iconst 1, 1) := by decide +kernel
theorem dX13_lies_49 : decode cX13_lies 49 = .ok (.invokevirtual 36, 3) := by decide +kernel
theorem dX13_lies_52 : decode cX13_lies 52 = .ok (.ireturn, 1) := by decide +kernel
set_option maxRecDepth 20000 in
theorem ggX13_hollow_X13_isWay : GoodIn wsX13_hollow wsX13_isWay := goodIn_r _ [6, 7, 26, 27, 28, 29, 30, 31, 32, 33, 34, 35, 36, 37, 38, 39, 40, 41, 42, 43, 44, 45, 46, 47, 48, 49, 50, 51, 52, 53, 54, 55, 56, 57, 58, 59, 60, 61, 62, 63, 64, 65, 66, 67, 68, 69, 70, 71, 72, 73, 74, 75, 76, 77, 78, 79, 80, 81, 82, 83, 84, 85, 86, 87, 88, 89, 90, 91, 92, 93, 94, 95, 96, 97, 98, 99, 100, 101, 102] rfl (by decide +kernel)
set_option maxRecDepth 20000 in
theorem gX13_hollow_X13_isWay : GoodIn wsX13_hollow (wsV RX13 444 RX13 yX13_isWay wsX13_isWay) := goodIn_app (goodIn_of _ (by decide +kernel)) ggX13_hollow_X13_isWay
set_option maxRecDepth 20000 in
theorem ggX13_hollow_X13_isRoad : GoodIn wsX13_hollow wsX13_isRoad := goodIn_r _ [11, 7, 26, 27, 28, 29, 30, 31, 32, 33, 34, 35, 36, 37, 38, 39, 40, 41, 42, 43, 44, 45, 46, 47, 48, 49, 50, 51, 52, 53, 54, 55, 56, 57, 58, 59, 60, 61, 62, 63, 64, 65, 66, 67, 68, 69, 70, 71, 72, 73, 74, 75, 76, 77, 78, 79, 80, 81, 82, 83, 84, 85, 86, 87, 88, 89, 90, 91, 92, 93, 94, 95, 96, 97, 98, 99, 100, 101, 102] rfl (by decide +kernel)
set_option maxRecDepth 20000 in
theorem gX13_hollow_X13_isRoad : GoodIn wsX13_hollow (wsV RX13 457 RX13 yX13_isRoad wsX13_isRoad) := goodIn_app (goodIn_of _ (by decide +kernel)) ggX13_hollow_X13_isRoad
set_option maxRecDepth 20000 in
theorem ggX13_hollow_X13_hollowOf : GoodIn wsX13_hollow wsX13_hollowOf := goodIn_r _ [15, 7, 26, 27, 28, 29, 30, 31, 32, 33, 34, 35, 36, 37, 38, 39, 40, 41, 42, 43, 44, 45, 46, 47, 48, 49, 50, 51, 52, 53, 54, 55, 56, 57, 58, 59, 60, 61, 62, 63, 64, 65, 66, 67, 68, 69, 70, 71, 72, 73, 74, 75, 76, 77, 78, 79, 80, 81, 82, 83, 84, 85, 86, 87, 88, 89, 90, 91, 92, 93, 94, 95, 96, 97, 98, 99, 100, 101, 102] rfl (by decide +kernel)
set_option maxRecDepth 20000 in
theorem gX13_hollow_X13_hollowOf : GoodIn wsX13_hollow (wsV RX13 547 RX13 yX13_hollowOf wsX13_hollowOf) := goodIn_app (goodIn_of _ (by decide +kernel)) ggX13_hollow_X13_hollowOf
set_option maxRecDepth 20000 in
theorem ggX13_hollow_X13_done : GoodIn wsX13_hollow wsX13_done := goodIn_r _ [19, 20, 21, 26, 27, 28, 29, 30, 31, 32, 33, 34, 35, 36, 37, 38, 39, 40, 41, 42, 43, 44, 45, 46, 47, 48, 49, 50, 51, 52, 53, 54] rfl (by decide +kernel)
set_option maxRecDepth 20000 in
theorem gX13_hollow_X13_done : GoodIn wsX13_hollow (wsV RX13 40 RX13 yX13_done wsX13_done) := goodIn_app (goodIn_of _ (by decide +kernel)) ggX13_hollow_X13_done
set_option maxRecDepth 20000 in
theorem ggX13_hollow_X13_refused : GoodIn wsX13_hollow wsX13_refused := goodIn_r _ [25, 20, 21, 26, 27, 28, 29, 30, 31, 32, 33, 34, 35, 36, 37, 38, 39, 40, 41, 42, 43, 44, 45, 46, 47, 48, 49, 50, 51, 52, 53, 54] rfl (by decide +kernel)
set_option maxRecDepth 20000 in
theorem gX13_hollow_X13_refused : GoodIn wsX13_hollow (wsV RX13 36 RX13 yX13_refused wsX13_refused) := goodIn_app (goodIn_of _ (by decide +kernel)) ggX13_hollow_X13_refused
theorem dX13_hollow_0 : decode cX13_hollow 0 = .ok (.aload_n 0, 1) := by decide +kernel
theorem dX13_hollow_1 : decode cX13_hollow 1 = .ok (.iconst 0, 1) := by decide +kernel
theorem dX13_hollow_2 : decode cX13_hollow 2 = .ok (.putfield 30, 3) := by decide +kernel
theorem dX13_hollow_5 : decode cX13_hollow 5 = .ok (.aload_n 0, 1) := by decide +kernel
theorem dX13_hollow_6 : decode cX13_hollow 6 = .ok (.iload_n 1, 1) := by decide +kernel
theorem dX13_hollow_7 : decode cX13_hollow 7 = .ok (.invokevirtual 444, 3) := by decide +kernel
theorem dX13_hollow_10 : decode cX13_hollow 10 = .ok (.ifCond .eq 24, 3) := by decide +kernel
theorem dX13_hollow_13 : decode cX13_hollow 13 = .ok (.aload_n 0, 1) := by decide +kernel
theorem dX13_hollow_14 : decode cX13_hollow 14 = .ok (.iload_n 2, 1) := by decide +kernel
theorem dX13_hollow_15 : decode cX13_hollow 15 = .ok (.invokevirtual 457, 3) := by decide +kernel
theorem dX13_hollow_18 : decode cX13_hollow 18 = .ok (.ifCond .eq 16, 3) := by decide +kernel
theorem dX13_hollow_21 : decode cX13_hollow 21 = .ok (.aload_n 0, 1) := by decide +kernel
theorem dX13_hollow_22 : decode cX13_hollow 22 = .ok (.aload_n 0, 1) := by decide +kernel
theorem dX13_hollow_23 : decode cX13_hollow 23 = .ok (.iload_n 1, 1) := by decide +kernel
theorem dX13_hollow_24 : decode cX13_hollow 24 = .ok (.iload_n 2, 1) := by decide +kernel
theorem dX13_hollow_25 : decode cX13_hollow 25 = .ok (.invokevirtual 547, 3) := by decide +kernel
theorem dX13_hollow_28 : decode cX13_hollow 28 = .ok (.invokevirtual 40, 3) := by decide +kernel
theorem dX13_hollow_31 : decode cX13_hollow 31 = .ok (.goto 8, 3) := by decide +kernel
theorem dX13_hollow_34 : decode cX13_hollow 34 = .ok (.aload_n 0, 1) := by decide +kernel
theorem dX13_hollow_35 : decode cX13_hollow 35 = .ok (.iconst 1, 1) := by decide +kernel
theorem dX13_hollow_36 : decode cX13_hollow 36 = .ok (.invokevirtual 36, 3) := by decide +kernel
theorem dX13_hollow_39 : decode cX13_hollow 39 = .ok (.ireturn, 1) := by decide +kernel
set_option maxRecDepth 20000 in
theorem ggX13_shape_X13_isWay : GoodIn wsX13_shape wsX13_isWay := goodIn_r _ [6, 7, 26, 27, 28, 29, 30, 31, 32, 33, 34, 35, 36, 37, 38, 39, 40, 41, 42, 43, 44, 45, 46, 47, 48, 49, 50, 51, 52, 53, 54, 55, 56, 57, 58, 59, 60, 61, 62, 63, 64, 65, 66, 67, 68, 69, 70, 71, 72, 73, 74, 75, 76, 77, 78, 79, 80, 81, 82, 83, 84, 85, 86, 87, 88, 89, 90, 91, 92, 93, 94, 95, 96, 97, 98, 99, 100, 101, 102] rfl (by decide +kernel)
set_option maxRecDepth 20000 in
theorem gX13_shape_X13_isWay : GoodIn wsX13_shape (wsV RX13 444 RX13 yX13_isWay wsX13_isWay) := goodIn_app (goodIn_of _ (by decide +kernel)) ggX13_shape_X13_isWay
set_option maxRecDepth 20000 in
theorem ggX13_shape_X13_shapeOf : GoodIn wsX13_shape wsX13_shapeOf := goodIn_r _ [11, 7, 12, 13, 14, 5, 15, 26, 27, 28, 29, 30, 31, 32, 33, 34, 35, 36, 37, 38, 39, 40, 41, 42, 43, 44, 45, 46, 47, 48, 49, 50, 51, 52, 53, 54, 55, 56, 57, 58, 59, 60, 61, 62, 63, 64, 65, 66, 67, 68, 69, 70, 71, 72, 73, 74, 75, 76, 77, 78, 79, 80, 81, 82, 83, 84, 85, 86, 87, 88, 89, 90, 91, 92, 93, 94, 95, 96, 97, 98, 99, 100, 101, 102] rfl (by decide +kernel)
set_option maxRecDepth 20000 in
theorem gX13_shape_X13_shapeOf : GoodIn wsX13_shape (wsV RX13 550 RX13 yX13_shapeOf wsX13_shapeOf) := goodIn_app (goodIn_of _ (by decide +kernel)) ggX13_shape_X13_shapeOf
set_option maxRecDepth 20000 in
theorem ggX13_shape_X13_done : GoodIn wsX13_shape wsX13_done := goodIn_r _ [19, 20, 21, 26, 27, 28, 29, 30, 31, 32, 33, 34, 35, 36, 37, 38, 39, 40, 41, 42, 43, 44, 45, 46, 47, 48, 49, 50, 51, 52, 53, 54] rfl (by decide +kernel)
set_option maxRecDepth 20000 in
theorem gX13_shape_X13_done : GoodIn wsX13_shape (wsV RX13 40 RX13 yX13_done wsX13_done) := goodIn_app (goodIn_of _ (by decide +kernel)) ggX13_shape_X13_done
set_option maxRecDepth 20000 in
theorem ggX13_shape_X13_refused : GoodIn wsX13_shape wsX13_refused := goodIn_r _ [25, 20, 21, 26, 27, 28, 29, 30, 31, 32, 33, 34, 35, 36, 37, 38, 39, 40, 41, 42, 43, 44, 45, 46, 47, 48, 49, 50, 51, 52, 53, 54] rfl (by decide +kernel)
set_option maxRecDepth 20000 in
theorem gX13_shape_X13_refused : GoodIn wsX13_shape (wsV RX13 36 RX13 yX13_refused wsX13_refused) := goodIn_app (goodIn_of _ (by decide +kernel)) ggX13_shape_X13_refused
theorem dX13_shape_0 : decode cX13_shape 0 = .ok (.aload_n 0, 1) := by decide +kernel
theorem dX13_shape_1 : decode cX13_shape 1 = .ok (.iconst 0, 1) := by decide +kernel
theorem dX13_shape_2 : decode cX13_shape 2 = .ok (.putfield 30, 3) := by decide +kernel
theorem dX13_shape_5 : decode cX13_shape 5 = .ok (.aload_n 0, 1) := by decide +kernel
theorem dX13_shape_6 : decode cX13_shape 6 = .ok (.iload_n 1, 1) := by decide +kernel
theorem dX13_shape_7 : decode cX13_shape 7 = .ok (.invokevirtual 444, 3) := by decide +kernel
theorem dX13_shape_10 : decode cX13_shape 10 = .ok (.ifCond .eq 16, 3) := by decide +kernel
theorem dX13_shape_13 : decode cX13_shape 13 = .ok (.aload_n 0, 1) := by decide +kernel
theorem dX13_shape_14 : decode cX13_shape 14 = .ok (.aload_n 0, 1) := by decide +kernel
theorem dX13_shape_15 : decode cX13_shape 15 = .ok (.iload_n 1, 1) := by decide +kernel
theorem dX13_shape_16 : decode cX13_shape 16 = .ok (.iconst (-1), 1) := by decide +kernel
theorem dX13_shape_17 : decode cX13_shape 17 = .ok (.invokevirtual 550, 3) := by decide +kernel
theorem dX13_shape_20 : decode cX13_shape 20 = .ok (.invokevirtual 40, 3) := by decide +kernel
theorem dX13_shape_23 : decode cX13_shape 23 = .ok (.goto 8, 3) := by decide +kernel
theorem dX13_shape_26 : decode cX13_shape 26 = .ok (.aload_n 0, 1) := by decide +kernel
theorem dX13_shape_27 : decode cX13_shape 27 = .ok (.iconst 1, 1) := by decide +kernel
theorem dX13_shape_28 : decode cX13_shape 28 = .ok (.invokevirtual 36, 3) := by decide +kernel
theorem dX13_shape_31 : decode cX13_shape 31 = .ok (.ireturn, 1) := by decide +kernel
set_option maxRecDepth 20000 in
theorem ggX13_changed_X13_lost : GoodIn wsX13_changed wsX13_lost := goodIn_r _ [7, 8, 9, 10, 6, 11, 12, 13, 22, 23, 24, 25, 26, 27, 28, 29, 30, 31, 32, 33, 34, 35, 36, 37, 38, 39, 40, 41, 42, 43, 44, 45, 46, 47, 48, 49, 50] rfl (by decide +kernel)
set_option maxRecDepth 20000 in
theorem gX13_changed_X13_lost : GoodIn wsX13_changed (wsV RX13 463 RX13 yX13_lost wsX13_lost) := goodIn_app (goodIn_of _ (by decide +kernel)) ggX13_changed_X13_lost
set_option maxRecDepth 20000 in
theorem ggX13_changed_X13_meanLean : GoodIn wsX13_changed wsX13_meanLean := goodIn_r _ [17, 2, 22, 23, 24, 25, 26, 27, 28, 29, 30, 31, 32, 33, 34, 35, 36, 37, 38, 39, 40, 41, 42, 43, 44, 45, 46, 47, 48, 49, 50, 51, 52, 53, 54, 55, 56, 57, 58, 59, 60, 61, 62, 63, 64, 65, 66, 67, 68, 69, 70, 71, 72, 73, 74, 75, 76, 77, 78, 79, 80, 81, 82, 83, 84, 85, 86, 87, 88, 89, 90, 91, 92, 93, 94, 95, 96, 97, 98] rfl (by decide +kernel)
set_option maxRecDepth 20000 in
theorem gX13_changed_X13_meanLean : GoodIn wsX13_changed (wsV RX13 541 RX13 yX13_meanLean wsX13_meanLean) := goodIn_app (goodIn_of _ (by decide +kernel)) ggX13_changed_X13_meanLean
set_option maxRecDepth 20000 in
theorem ggX13_changed_X13_done : GoodIn wsX13_changed wsX13_done := goodIn_r _ [21, 12, 13, 22, 23, 24, 25, 26, 27, 28, 29, 30, 31, 32, 33, 34, 35, 36, 37, 38, 39, 40, 41, 42, 43, 44, 45, 46, 47, 48, 49, 50] rfl (by decide +kernel)
set_option maxRecDepth 20000 in
theorem gX13_changed_X13_done : GoodIn wsX13_changed (wsV RX13 40 RX13 yX13_done wsX13_done) := goodIn_app (goodIn_of _ (by decide +kernel)) ggX13_changed_X13_done
theorem dX13_changed_0 : decode cX13_changed 0 = .ok (.aload_n 0, 1) := by decide +kernel
theorem dX13_changed_1 : decode cX13_changed 1 = .ok (.iconst 0, 1) := by decide +kernel
theorem dX13_changed_2 : decode cX13_changed 2 = .ok (.putfield 30, 3) := by decide +kernel
theorem dX13_changed_5 : decode cX13_changed 5 = .ok (.aload_n 0, 1) := by decide +kernel
theorem dX13_changed_6 : decode cX13_changed 6 = .ok (.getfield 431, 3) := by decide +kernel
theorem dX13_changed_9 : decode cX13_changed 9 = .ok (.ifnonnull 9, 3) := by decide +kernel
theorem dX13_changed_12 : decode cX13_changed 12 = .ok (.aload_n 0, 1) := by decide +kernel
theorem dX13_changed_13 : decode cX13_changed 13 = .ok (.iconst 1, 1) := by decide +kernel
theorem dX13_changed_14 : decode cX13_changed 14 = .ok (.invokevirtual 463, 3) := by decide +kernel
theorem dX13_changed_17 : decode cX13_changed 17 = .ok (.ireturn, 1) := by decide +kernel
theorem dX13_changed_18 : decode cX13_changed 18 = .ok (.aload_n 0, 1) := by decide +kernel
theorem dX13_changed_19 : decode cX13_changed 19 = .ok (.iconst 5, 1) := by decide +kernel
theorem dX13_changed_20 : decode cX13_changed 20 = .ok (.iconst (-1), 1) := by decide +kernel
theorem dX13_changed_21 : decode cX13_changed 21 = .ok (.invokevirtual 541, 3) := by decide +kernel
theorem dX13_changed_24 : decode cX13_changed 24 = .ok (.istore_n 1, 1) := by decide +kernel
theorem dX13_changed_25 : decode cX13_changed 25 = .ok (.aload_n 0, 1) := by decide +kernel
theorem dX13_changed_26 : decode cX13_changed 26 = .ok (.iconst 3, 1) := by decide +kernel
theorem dX13_changed_27 : decode cX13_changed 27 = .ok (.iconst (-1), 1) := by decide +kernel
theorem dX13_changed_28 : decode cX13_changed 28 = .ok (.invokevirtual 541, 3) := by decide +kernel
theorem dX13_changed_31 : decode cX13_changed 31 = .ok (.istore_n 2, 1) := by decide +kernel
theorem dX13_changed_32 : decode cX13_changed 32 = .ok (.iload_n 1, 1) := by decide +kernel
theorem dX13_changed_33 : decode cX13_changed 33 = .ok (.ifCond .lt 7, 3) := by decide +kernel
theorem dX13_changed_36 : decode cX13_changed 36 = .ok (.iload_n 2, 1) := by decide +kernel
theorem dX13_changed_37 : decode cX13_changed 37 = .ok (.ifCond .ge 12, 3) := by decide +kernel
theorem dX13_changed_40 : decode cX13_changed 40 = .ok (.aload_n 0, 1) := by decide +kernel
theorem dX13_changed_41 : decode cX13_changed 41 = .ok (.bipush 6, 2) := by decide +kernel
theorem dX13_changed_43 : decode cX13_changed 43 = .ok (.invokevirtual 463, 3) := by decide +kernel
theorem dX13_changed_46 : decode cX13_changed 46 = .ok (.goto 10, 3) := by decide +kernel
theorem dX13_changed_49 : decode cX13_changed 49 = .ok (.aload_n 0, 1) := by decide +kernel
theorem dX13_changed_50 : decode cX13_changed 50 = .ok (.iload_n 1, 1) := by decide +kernel
theorem dX13_changed_51 : decode cX13_changed 51 = .ok (.iload_n 2, 1) := by decide +kernel
theorem dX13_changed_52 : decode cX13_changed 52 = .ok (.isub, 1) := by decide +kernel
theorem dX13_changed_53 : decode cX13_changed 53 = .ok (.invokevirtual 40, 3) := by decide +kernel
theorem dX13_changed_56 : decode cX13_changed 56 = .ok (.ireturn, 1) := by decide +kernel
set_option maxRecDepth 20000 in
theorem ggX13_told_X13_isWay : GoodIn wsX13_told wsX13_isWay := goodIn_r _ [7, 2, 22, 23, 24, 25, 26, 27, 28, 29, 30, 31, 32, 33, 34, 35, 36, 37, 38, 39, 40, 41, 42, 43, 44, 45, 46, 47, 48, 49, 50, 51, 52, 53, 54, 55, 56, 57, 58, 59, 60, 61, 62, 63, 64, 65, 66, 67, 68, 69, 70, 71, 72, 73, 74, 75, 76, 77, 78, 79, 80, 81, 82, 83, 84, 85, 86, 87, 88, 89, 90, 91, 92, 93, 94, 95, 96, 97, 98] rfl (by decide +kernel)
set_option maxRecDepth 20000 in
theorem gX13_told_X13_isWay : GoodIn wsX13_told (wsV RX13 444 RX13 yX13_isWay wsX13_isWay) := goodIn_app (goodIn_of _ (by decide +kernel)) ggX13_told_X13_isWay
set_option maxRecDepth 20000 in
theorem ggX13_told_X13_toldOf : GoodIn wsX13_told wsX13_toldOf := goodIn_r _ [11, 2, 22, 23, 24, 25, 26, 27, 28, 29, 30, 31, 32, 33, 34, 35, 36, 37, 38, 39, 40, 41, 42, 43, 44, 45, 46, 47, 48, 49, 50, 51, 52, 53, 54, 55, 56, 57, 58, 59, 60, 61, 62, 63, 64, 65, 66, 67, 68, 69, 70, 71, 72, 73, 74, 75, 76, 77, 78, 79, 80, 81, 82, 83, 84, 85, 86, 87, 88, 89, 90, 91, 92, 93, 94, 95, 96, 97, 98] rfl (by decide +kernel)
set_option maxRecDepth 20000 in
theorem gX13_told_X13_toldOf : GoodIn wsX13_told (wsV RX13 553 RX13 yX13_toldOf wsX13_toldOf) := goodIn_app (goodIn_of _ (by decide +kernel)) ggX13_told_X13_toldOf
set_option maxRecDepth 20000 in
theorem ggX13_told_X13_done : GoodIn wsX13_told wsX13_done := goodIn_r _ [15, 16, 17, 22, 23, 24, 25, 26, 27, 28, 29, 30, 31, 32, 33, 34, 35, 36, 37, 38, 39, 40, 41, 42, 43, 44, 45, 46, 47, 48, 49, 50] rfl (by decide +kernel)
set_option maxRecDepth 20000 in
theorem gX13_told_X13_done : GoodIn wsX13_told (wsV RX13 40 RX13 yX13_done wsX13_done) := goodIn_app (goodIn_of _ (by decide +kernel)) ggX13_told_X13_done
set_option maxRecDepth 20000 in
theorem ggX13_told_X13_refused : GoodIn wsX13_told wsX13_refused := goodIn_r _ [21, 16, 17, 22, 23, 24, 25, 26, 27, 28, 29, 30, 31, 32, 33, 34, 35, 36, 37, 38, 39, 40, 41, 42, 43, 44, 45, 46, 47, 48, 49, 50] rfl (by decide +kernel)
set_option maxRecDepth 20000 in
theorem gX13_told_X13_refused : GoodIn wsX13_told (wsV RX13 36 RX13 yX13_refused wsX13_refused) := goodIn_app (goodIn_of _ (by decide +kernel)) ggX13_told_X13_refused
theorem dX13_told_0 : decode cX13_told 0 = .ok (.aload_n 0, 1) := by decide +kernel
theorem dX13_told_1 : decode cX13_told 1 = .ok (.iconst 0, 1) := by decide +kernel
theorem dX13_told_2 : decode cX13_told 2 = .ok (.putfield 30, 3) := by decide +kernel
theorem dX13_told_5 : decode cX13_told 5 = .ok (.aload_n 0, 1) := by decide +kernel
theorem dX13_told_6 : decode cX13_told 6 = .ok (.iload_n 1, 1) := by decide +kernel
theorem dX13_told_7 : decode cX13_told 7 = .ok (.invokevirtual 444, 3) := by decide +kernel
theorem dX13_told_10 : decode cX13_told 10 = .ok (.ifCond .eq 31, 3) := by decide +kernel
theorem dX13_told_13 : decode cX13_told 13 = .ok (.iload_n 2, 1) := by decide +kernel
theorem dX13_told_14 : decode cX13_told 14 = .ok (.ifCond .lt 27, 3) := by decide +kernel
theorem dX13_told_17 : decode cX13_told 17 = .ok (.iload_n 2, 1) := by decide +kernel
theorem dX13_told_18 : decode cX13_told 18 = .ok (.aload_n 0, 1) := by decide +kernel
theorem dX13_told_19 : decode cX13_told 19 = .ok (.getfield 431, 3) := by decide +kernel
theorem dX13_told_22 : decode cX13_told 22 = .ok (.getfield 393, 3) := by decide +kernel
theorem dX13_told_25 : decode cX13_told 25 = .ok (.if_icmp .ge 16, 3) := by decide +kernel
theorem dX13_told_28 : decode cX13_told 28 = .ok (.aload_n 0, 1) := by decide +kernel
theorem dX13_told_29 : decode cX13_told 29 = .ok (.aload_n 0, 1) := by decide +kernel
theorem dX13_told_30 : decode cX13_told 30 = .ok (.iload_n 1, 1) := by decide +kernel
theorem dX13_told_31 : decode cX13_told 31 = .ok (.iload_n 2, 1) := by decide +kernel
theorem dX13_told_32 : decode cX13_told 32 = .ok (.invokevirtual 553, 3) := by decide +kernel
theorem dX13_told_35 : decode cX13_told 35 = .ok (.invokevirtual 40, 3) := by decide +kernel
theorem dX13_told_38 : decode cX13_told 38 = .ok (.goto 8, 3) := by decide +kernel
theorem dX13_told_41 : decode cX13_told 41 = .ok (.aload_n 0, 1) := by decide +kernel
theorem dX13_told_42 : decode cX13_told 42 = .ok (.iconst 1, 1) := by decide +kernel
theorem dX13_told_43 : decode cX13_told 43 = .ok (.invokevirtual 36, 3) := by decide +kernel
theorem dX13_told_46 : decode cX13_told 46 = .ok (.ireturn, 1) := by decide +kernel
set_option maxRecDepth 20000 in
theorem ggX13_turn_X13_isStatue : GoodIn wsX13_turn wsX13_isStatue := goodIn_r _ [7, 2, 29, 30, 31, 32, 33, 34, 35, 36, 37, 38, 39, 40, 41, 42, 43, 44, 45, 46, 47, 48, 49, 50, 51, 52, 53, 54, 55, 56, 57, 58, 59, 60, 61, 62, 63, 64, 65, 66, 67, 68, 69, 70, 71, 72, 73, 74, 75, 76, 77, 78, 79, 80, 81, 82, 83, 84, 85, 86, 87, 88, 89, 90, 91, 92, 93, 94, 95, 96, 97, 98, 99, 100, 101, 102, 103, 104, 105] rfl (by decide +kernel)
set_option maxRecDepth 20000 in
theorem gX13_turn_X13_isStatue : GoodIn wsX13_turn (wsV RX13 447 RX13 yX13_isStatue wsX13_isStatue) := goodIn_app (goodIn_of _ (by decide +kernel)) ggX13_turn_X13_isStatue
set_option maxRecDepth 20000 in
theorem ggX13_turn_X13_in : GoodIn wsX13_turn wsX13_in := goodIn_r _ [10] rfl (by decide +kernel)
set_option maxRecDepth 20000 in
theorem gX13_turn_X13_in : GoodIn wsX13_turn (va_wsS RX13 108 yX13_in wsX13_in) := goodIn_app (goodIn_of _ (by decide +kernel)) ggX13_turn_X13_in
set_option maxRecDepth 20000 in
theorem ggX13_turn_X13_denied : GoodIn wsX13_turn wsX13_denied := goodIn_r _ [14, 15, 16, 17, 6, 18, 19, 20, 29, 30, 31, 32, 33, 34, 35, 36, 37, 38, 39, 40, 41, 42, 43, 44, 45, 46, 47, 48, 49, 50, 51, 52, 53, 54, 55, 56, 57] rfl (by decide +kernel)
set_option maxRecDepth 20000 in
theorem gX13_turn_X13_denied : GoodIn wsX13_turn (wsV RX13 483 RX13 yX13_denied wsX13_denied) := goodIn_app (goodIn_of _ (by decide +kernel)) ggX13_turn_X13_denied
set_option maxRecDepth 20000 in
theorem ggX13_turn_X13_granted : GoodIn wsX13_turn wsX13_granted := goodIn_r _ [24, 25, 26, 27, 6, 28, 19, 20, 29, 30, 31, 32, 33, 34, 35, 36, 37, 38, 39, 40, 41, 42, 43, 44, 45, 46, 47, 48, 49, 50, 51, 52, 53, 54, 55, 56, 57] rfl (by decide +kernel)
set_option maxRecDepth 20000 in
theorem gX13_turn_X13_granted : GoodIn wsX13_turn (wsV RX13 487 RX13 yX13_granted wsX13_granted) := goodIn_app (goodIn_of _ (by decide +kernel)) ggX13_turn_X13_granted
theorem dX13_turn_0 : decode cX13_turn 0 = .ok (.aload_n 0, 1) := by decide +kernel
theorem dX13_turn_1 : decode cX13_turn 1 = .ok (.iconst 0, 1) := by decide +kernel
theorem dX13_turn_2 : decode cX13_turn 2 = .ok (.putfield 30, 3) := by decide +kernel
theorem dX13_turn_5 : decode cX13_turn 5 = .ok (.aload_n 0, 1) := by decide +kernel
theorem dX13_turn_6 : decode cX13_turn 6 = .ok (.iload_n 1, 1) := by decide +kernel
theorem dX13_turn_7 : decode cX13_turn 7 = .ok (.invokevirtual 447, 3) := by decide +kernel
theorem dX13_turn_10 : decode cX13_turn 10 = .ok (.ifCond .eq 12, 3) := by decide +kernel
theorem dX13_turn_13 : decode cX13_turn 13 = .ok (.iload_n 2, 1) := by decide +kernel
theorem dX13_turn_14 : decode cX13_turn 14 = .ok (.iconst 0, 1) := by decide +kernel
theorem dX13_turn_15 : decode cX13_turn 15 = .ok (.iconst 2, 1) := by decide +kernel
theorem dX13_turn_16 : decode cX13_turn 16 = .ok (.invokestatic 108, 3) := by decide +kernel
theorem dX13_turn_19 : decode cX13_turn 19 = .ok (.ifCond .ne 9, 3) := by decide +kernel
theorem dX13_turn_22 : decode cX13_turn 22 = .ok (.aload_n 0, 1) := by decide +kernel
theorem dX13_turn_23 : decode cX13_turn 23 = .ok (.iconst 1, 1) := by decide +kernel
theorem dX13_turn_24 : decode cX13_turn 24 = .ok (.invokevirtual 483, 3) := by decide +kernel
theorem dX13_turn_27 : decode cX13_turn 27 = .ok (.ireturn, 1) := by decide +kernel
theorem dX13_turn_28 : decode cX13_turn 28 = .ok (.aload_n 0, 1) := by decide +kernel
theorem dX13_turn_29 : decode cX13_turn 29 = .ok (.getfield 431, 3) := by decide +kernel
theorem dX13_turn_32 : decode cX13_turn 32 = .ok (.getfield 307, 3) := by decide +kernel
theorem dX13_turn_35 : decode cX13_turn 35 = .ok (.iload_n 1, 1) := by decide +kernel
theorem dX13_turn_36 : decode cX13_turn 36 = .ok (.iaload, 1) := by decide +kernel
theorem dX13_turn_37 : decode cX13_turn 37 = .ok (.iconst 5, 1) := by decide +kernel
theorem dX13_turn_38 : decode cX13_turn 38 = .ok (.if_icmp .eq 9, 3) := by decide +kernel
theorem dX13_turn_41 : decode cX13_turn 41 = .ok (.aload_n 0, 1) := by decide +kernel
theorem dX13_turn_42 : decode cX13_turn 42 = .ok (.iconst 5, 1) := by decide +kernel
theorem dX13_turn_43 : decode cX13_turn 43 = .ok (.invokevirtual 483, 3) := by decide +kernel
theorem dX13_turn_46 : decode cX13_turn 46 = .ok (.ireturn, 1) := by decide +kernel
theorem dX13_turn_47 : decode cX13_turn 47 = .ok (.aload_n 0, 1) := by decide +kernel
theorem dX13_turn_48 : decode cX13_turn 48 = .ok (.getfield 431, 3) := by decide +kernel
theorem dX13_turn_51 : decode cX13_turn 51 = .ok (.getfield 309, 3) := by decide +kernel
theorem dX13_turn_54 : decode cX13_turn 54 = .ok (.iload_n 1, 1) := by decide +kernel
theorem dX13_turn_55 : decode cX13_turn 55 = .ok (.iload_n 2, 1) := by decide +kernel
theorem dX13_turn_56 : decode cX13_turn 56 = .ok (.iastore, 1) := by decide +kernel
theorem dX13_turn_57 : decode cX13_turn 57 = .ok (.aload_n 0, 1) := by decide +kernel
theorem dX13_turn_58 : decode cX13_turn 58 = .ok (.invokevirtual 487, 3) := by decide +kernel
theorem dX13_turn_61 : decode cX13_turn 61 = .ok (.ireturn, 1) := by decide +kernel
set_option maxRecDepth 20000 in
theorem ggX13_hangs_X13_refused : GoodIn wsX13_hangs wsX13_refused := goodIn_r _ [7, 8, 9, 52, 53, 54, 55, 56, 57, 58, 59, 60, 61, 62, 63, 64, 65, 66, 67, 68, 69, 70, 71, 72, 73, 74, 75, 76, 77, 78, 79, 80] rfl (by decide +kernel)
set_option maxRecDepth 20000 in
theorem gX13_hangs_X13_refused : GoodIn wsX13_hangs (wsV RX13 36 RX13 yX13_refused wsX13_refused) := goodIn_app (goodIn_of _ (by decide +kernel)) ggX13_hangs_X13_refused
set_option maxRecDepth 20000 in
theorem ggX13_hangs_X13_likeliestOf : GoodIn wsX13_hangs wsX13_likeliestOf := goodIn_r _ [13, 2, 14, 15, 16, 6, 17, 18, 19, 20, 21, 22, 23, 24, 25, 26, 27, 28, 29, 30, 31, 32, 33, 34, 35, 36, 37, 38, 39, 40, 41, 42, 43, 44, 45, 46, 47, 52, 53, 54, 55, 56, 57, 58, 59, 60, 61, 62, 63, 64, 65, 66, 67, 68, 69, 70, 71, 72, 73, 74, 75, 76, 77, 78, 79, 80, 81, 82, 83, 84, 85, 86, 87, 88, 89, 90, 91, 92, 93, 94, 95, 96, 97, 98, 99, 100, 101, 102, 103, 104, 105, 106, 107, 108, 109, 110, 111, 112, 113, 114, 115, 116, 117, 118, 119, 120, 121, 122, 123, 124, 125, 126, 127, 128] rfl (by decide +kernel)
set_option maxRecDepth 20000 in
theorem gX13_hangs_X13_likeliestOf : GoodIn wsX13_hangs (wsV RX13 560 RX13 yX13_likeliestOf wsX13_likeliestOf) := goodIn_app (goodIn_of _ (by decide +kernel)) ggX13_hangs_X13_likeliestOf
set_option maxRecDepth 20000 in
theorem ggX13_hangs_X13_done : GoodIn wsX13_hangs wsX13_done := goodIn_r _ [51, 8, 9, 52, 53, 54, 55, 56, 57, 58, 59, 60, 61, 62, 63, 64, 65, 66, 67, 68, 69, 70, 71, 72, 73, 74, 75, 76, 77, 78, 79, 80] rfl (by decide +kernel)
set_option maxRecDepth 20000 in
theorem gX13_hangs_X13_done : GoodIn wsX13_hangs (wsV RX13 40 RX13 yX13_done wsX13_done) := goodIn_app (goodIn_of _ (by decide +kernel)) ggX13_hangs_X13_done
theorem dX13_hangs_0 : decode cX13_hangs 0 = .ok (.aload_n 0, 1) := by decide +kernel
theorem dX13_hangs_1 : decode cX13_hangs 1 = .ok (.iconst 0, 1) := by decide +kernel
theorem dX13_hangs_2 : decode cX13_hangs 2 = .ok (.putfield 30, 3) := by decide +kernel
theorem dX13_hangs_5 : decode cX13_hangs 5 = .ok (.aload_n 0, 1) := by decide +kernel
theorem dX13_hangs_6 : decode cX13_hangs 6 = .ok (.getfield 431, 3) := by decide +kernel
theorem dX13_hangs_9 : decode cX13_hangs 9 = .ok (.ifnonnull 9, 3) := by decide +kernel
theorem dX13_hangs_12 : decode cX13_hangs 12 = .ok (.aload_n 0, 1) := by decide +kernel
theorem dX13_hangs_13 : decode cX13_hangs 13 = .ok (.iconst 1, 1) := by decide +kernel
theorem dX13_hangs_14 : decode cX13_hangs 14 = .ok (.invokevirtual 36, 3) := by decide +kernel
theorem dX13_hangs_17 : decode cX13_hangs 17 = .ok (.ireturn, 1) := by decide +kernel
theorem dX13_hangs_18 : decode cX13_hangs 18 = .ok (.aload_n 0, 1) := by decide +kernel
theorem dX13_hangs_19 : decode cX13_hangs 19 = .ok (.iconst (-1), 1) := by decide +kernel
theorem dX13_hangs_20 : decode cX13_hangs 20 = .ok (.invokevirtual 560, 3) := by decide +kernel
theorem dX13_hangs_23 : decode cX13_hangs 23 = .ok (.istore_n 1, 1) := by decide +kernel
theorem dX13_hangs_24 : decode cX13_hangs 24 = .ok (.iconst 0, 1) := by decide +kernel
theorem dX13_hangs_25 : decode cX13_hangs 25 = .ok (.istore_n 2, 1) := by decide +kernel
theorem dX13_hangs_26 : decode cX13_hangs 26 = .ok (.iload_n 2, 1) := by decide +kernel
theorem dX13_hangs_27 : decode cX13_hangs 27 = .ok (.aload_n 0, 1) := by decide +kernel
theorem dX13_hangs_28 : decode cX13_hangs 28 = .ok (.getfield 431, 3) := by decide +kernel
theorem dX13_hangs_31 : decode cX13_hangs 31 = .ok (.getfield 191, 3) := by decide +kernel
theorem dX13_hangs_34 : decode cX13_hangs 34 = .ok (.if_icmp .ge 37, 3) := by decide +kernel
theorem dX13_hangs_37 : decode cX13_hangs 37 = .ok (.aload_n 0, 1) := by decide +kernel
theorem dX13_hangs_38 : decode cX13_hangs 38 = .ok (.getfield 431, 3) := by decide +kernel
theorem dX13_hangs_41 : decode cX13_hangs 41 = .ok (.getfield 307, 3) := by decide +kernel
theorem dX13_hangs_44 : decode cX13_hangs 44 = .ok (.iload_n 2, 1) := by decide +kernel
theorem dX13_hangs_45 : decode cX13_hangs 45 = .ok (.iaload, 1) := by decide +kernel
theorem dX13_hangs_46 : decode cX13_hangs 46 = .ok (.iconst 5, 1) := by decide +kernel
theorem dX13_hangs_47 : decode cX13_hangs 47 = .ok (.if_icmp .ne 18, 3) := by decide +kernel
theorem dX13_hangs_50 : decode cX13_hangs 50 = .ok (.aload_n 0, 1) := by decide +kernel
theorem dX13_hangs_51 : decode cX13_hangs 51 = .ok (.iload_n 2, 1) := by decide +kernel
theorem dX13_hangs_52 : decode cX13_hangs 52 = .ok (.invokevirtual 560, 3) := by decide +kernel
theorem dX13_hangs_55 : decode cX13_hangs 55 = .ok (.iload_n 1, 1) := by decide +kernel
theorem dX13_hangs_56 : decode cX13_hangs 56 = .ok (.if_icmp .eq 9, 3) := by decide +kernel
theorem dX13_hangs_59 : decode cX13_hangs 59 = .ok (.aload_n 0, 1) := by decide +kernel
theorem dX13_hangs_60 : decode cX13_hangs 60 = .ok (.iload_n 2, 1) := by decide +kernel
theorem dX13_hangs_61 : decode cX13_hangs 61 = .ok (.invokevirtual 40, 3) := by decide +kernel
theorem dX13_hangs_64 : decode cX13_hangs 64 = .ok (.ireturn, 1) := by decide +kernel
theorem dX13_hangs_65 : decode cX13_hangs 65 = .ok (.iinc 2 1, 3) := by decide +kernel
theorem dX13_hangs_68 : decode cX13_hangs 68 = .ok (.goto (-42), 3) := by decide +kernel
theorem dX13_hangs_71 : decode cX13_hangs 71 = .ok (.aload_n 0, 1) := by decide +kernel
theorem dX13_hangs_72 : decode cX13_hangs 72 = .ok (.bipush (-2), 2) := by decide +kernel
theorem dX13_hangs_74 : decode cX13_hangs 74 = .ok (.invokevirtual 40, 3) := by decide +kernel
theorem dX13_hangs_77 : decode cX13_hangs 77 = .ok (.ireturn, 1) := by decide +kernel
set_option maxRecDepth 20000 in
theorem ggX13_tryout_X13_refused : GoodIn wsX13_tryout wsX13_refused := goodIn_r _ [7, 8, 9, 54, 55, 56, 57, 58, 59, 60, 61, 62, 63, 64, 65, 66, 67, 68, 69, 70, 71, 72, 73, 74, 75, 76, 77, 78, 79, 80, 81, 82] rfl (by decide +kernel)
set_option maxRecDepth 20000 in
theorem gX13_tryout_X13_refused : GoodIn wsX13_tryout (wsV RX13 36 RX13 yX13_refused wsX13_refused) := goodIn_app (goodIn_of _ (by decide +kernel)) ggX13_tryout_X13_refused
set_option maxRecDepth 20000 in
theorem ggX13_tryout_X13_canGo : GoodIn wsX13_tryout wsX13_canGo := goodIn_r _ [12, 13, 14, 6, 15] rfl (by decide +kernel)
set_option maxRecDepth 20000 in
theorem gX13_tryout_X13_canGo : GoodIn wsX13_tryout (va_wsS RX13 440 yX13_canGo wsX13_canGo) := goodIn_app (goodIn_of _ (by decide +kernel)) ggX13_tryout_X13_canGo
set_option maxRecDepth 20000 in
theorem ggX13_tryout_X13_oddsOf : GoodIn wsX13_tryout wsX13_oddsOf := goodIn_r _ [19, 2, 20, 21, 22, 6, 23, 24, 25, 26, 27, 28, 29, 30, 31, 32, 33, 34, 35, 36, 37, 38, 39, 40, 41, 42, 43, 44, 45, 46, 47, 48, 49, 54, 55, 56, 57, 58, 59, 60, 61, 62, 63, 64, 65, 66, 67, 68, 69, 70, 71, 72, 73, 74, 75, 76, 77, 78, 79, 80, 81, 82, 83, 84, 85, 86, 87, 88, 89, 90, 91, 92, 93, 94, 95, 96, 97, 98, 99, 100, 101, 102, 103, 104, 105, 106, 107, 108, 109, 110, 111, 112, 113, 114, 115, 116, 117, 118, 119, 120, 121, 122, 123, 124, 125, 126, 127, 128, 129, 130] rfl (by decide +kernel)
set_option maxRecDepth 20000 in
theorem gX13_tryout_X13_oddsOf : GoodIn wsX13_tryout (wsV RX13 556 RX13 yX13_oddsOf wsX13_oddsOf) := goodIn_app (goodIn_of _ (by decide +kernel)) ggX13_tryout_X13_oddsOf
set_option maxRecDepth 20000 in
theorem ggX13_tryout_X13_done : GoodIn wsX13_tryout wsX13_done := goodIn_r _ [53, 8, 9, 54, 55, 56, 57, 58, 59, 60, 61, 62, 63, 64, 65, 66, 67, 68, 69, 70, 71, 72, 73, 74, 75, 76, 77, 78, 79, 80, 81, 82] rfl (by decide +kernel)
set_option maxRecDepth 20000 in
theorem gX13_tryout_X13_done : GoodIn wsX13_tryout (wsV RX13 40 RX13 yX13_done wsX13_done) := goodIn_app (goodIn_of _ (by decide +kernel)) ggX13_tryout_X13_done
theorem dX13_tryout_0 : decode cX13_tryout 0 = .ok (.aload_n 0, 1) := by decide +kernel
theorem dX13_tryout_1 : decode cX13_tryout 1 = .ok (.iconst 0, 1) := by decide +kernel
theorem dX13_tryout_2 : decode cX13_tryout 2 = .ok (.putfield 30, 3) := by decide +kernel
theorem dX13_tryout_5 : decode cX13_tryout 5 = .ok (.aload_n 0, 1) := by decide +kernel
theorem dX13_tryout_6 : decode cX13_tryout 6 = .ok (.getfield 431, 3) := by decide +kernel
theorem dX13_tryout_9 : decode cX13_tryout 9 = .ok (.ifnonnull 9, 3) := by decide +kernel
theorem dX13_tryout_12 : decode cX13_tryout 12 = .ok (.aload_n 0, 1) := by decide +kernel
theorem dX13_tryout_13 : decode cX13_tryout 13 = .ok (.iconst 1, 1) := by decide +kernel
theorem dX13_tryout_14 : decode cX13_tryout 14 = .ok (.invokevirtual 36, 3) := by decide +kernel
theorem dX13_tryout_17 : decode cX13_tryout 17 = .ok (.ireturn, 1) := by decide +kernel
theorem dX13_tryout_18 : decode cX13_tryout 18 = .ok (.aload_n 0, 1) := by decide +kernel
theorem dX13_tryout_19 : decode cX13_tryout 19 = .ok (.getfield 431, 3) := by decide +kernel
theorem dX13_tryout_22 : decode cX13_tryout 22 = .ok (.getfield 409, 3) := by decide +kernel
theorem dX13_tryout_25 : decode cX13_tryout 25 = .ok (.ifCond .ne 10, 3) := by decide +kernel
theorem dX13_tryout_28 : decode cX13_tryout 28 = .ok (.aload_n 0, 1) := by decide +kernel
theorem dX13_tryout_29 : decode cX13_tryout 29 = .ok (.bipush 6, 2) := by decide +kernel
theorem dX13_tryout_31 : decode cX13_tryout 31 = .ok (.invokevirtual 36, 3) := by decide +kernel
theorem dX13_tryout_34 : decode cX13_tryout 34 = .ok (.ireturn, 1) := by decide +kernel
theorem dX13_tryout_35 : decode cX13_tryout 35 = .ok (.iconst 0, 1) := by decide +kernel
theorem dX13_tryout_36 : decode cX13_tryout 36 = .ok (.istore_n 1, 1) := by decide +kernel
theorem dX13_tryout_37 : decode cX13_tryout 37 = .ok (.lconst 0, 1) := by decide +kernel
theorem dX13_tryout_38 : decode cX13_tryout 38 = .ok (.lstore_n 2, 1) := by decide +kernel
theorem dX13_tryout_39 : decode cX13_tryout 39 = .ok (.iconst 0, 1) := by decide +kernel
theorem dX13_tryout_40 : decode cX13_tryout 40 = .ok (.istore 4, 2) := by decide +kernel
theorem dX13_tryout_42 : decode cX13_tryout 42 = .ok (.iload 4, 2) := by decide +kernel
theorem dX13_tryout_44 : decode cX13_tryout 44 = .ok (.aload_n 0, 1) := by decide +kernel
theorem dX13_tryout_45 : decode cX13_tryout 45 = .ok (.getfield 431, 3) := by decide +kernel
theorem dX13_tryout_48 : decode cX13_tryout 48 = .ok (.getfield 409, 3) := by decide +kernel
theorem dX13_tryout_51 : decode cX13_tryout 51 = .ok (.if_icmp .ge 171, 3) := by decide +kernel
theorem dX13_tryout_54 : decode cX13_tryout 54 = .ok (.lconst 0, 1) := by decide +kernel
theorem dX13_tryout_55 : decode cX13_tryout 55 = .ok (.lstore 5, 2) := by decide +kernel
theorem dX13_tryout_57 : decode cX13_tryout 57 = .ok (.lconst 0, 1) := by decide +kernel
theorem dX13_tryout_58 : decode cX13_tryout 58 = .ok (.lstore 7, 2) := by decide +kernel
theorem dX13_tryout_60 : decode cX13_tryout 60 = .ok (.iconst 0, 1) := by decide +kernel
theorem dX13_tryout_61 : decode cX13_tryout 61 = .ok (.istore 9, 2) := by decide +kernel
theorem dX13_tryout_63 : decode cX13_tryout 63 = .ok (.iload 9, 2) := by decide +kernel
theorem dX13_tryout_65 : decode cX13_tryout 65 = .ok (.aload_n 0, 1) := by decide +kernel
theorem dX13_tryout_66 : decode cX13_tryout 66 = .ok (.getfield 431, 3) := by decide +kernel
theorem dX13_tryout_69 : decode cX13_tryout 69 = .ok (.getfield 185, 3) := by decide +kernel
theorem dX13_tryout_72 : decode cX13_tryout 72 = .ok (.if_icmp .ge 106, 3) := by decide +kernel
theorem dX13_tryout_75 : decode cX13_tryout 75 = .ok (.aload_n 0, 1) := by decide +kernel
theorem dX13_tryout_76 : decode cX13_tryout 76 = .ok (.getfield 431, 3) := by decide +kernel
theorem dX13_tryout_79 : decode cX13_tryout 79 = .ok (.getfield 247, 3) := by decide +kernel
theorem dX13_tryout_82 : decode cX13_tryout 82 = .ok (.iload 9, 2) := by decide +kernel
theorem dX13_tryout_84 : decode cX13_tryout 84 = .ok (.iaload, 1) := by decide +kernel
theorem dX13_tryout_85 : decode cX13_tryout 85 = .ok (.aload_n 0, 1) := by decide +kernel
theorem dX13_tryout_86 : decode cX13_tryout 86 = .ok (.getfield 431, 3) := by decide +kernel
theorem dX13_tryout_89 : decode cX13_tryout 89 = .ok (.getfield 412, 3) := by decide +kernel
theorem dX13_tryout_92 : decode cX13_tryout 92 = .ok (.iload 4, 2) := by decide +kernel
theorem dX13_tryout_94 : decode cX13_tryout 94 = .ok (.iaload, 1) := by decide +kernel
theorem dX13_tryout_95 : decode cX13_tryout 95 = .ok (.aload_n 0, 1) := by decide +kernel
theorem dX13_tryout_96 : decode cX13_tryout 96 = .ok (.getfield 431, 3) := by decide +kernel
theorem dX13_tryout_99 : decode cX13_tryout 99 = .ok (.getfield 415, 3) := by decide +kernel
theorem dX13_tryout_102 : decode cX13_tryout 102 = .ok (.iload 4, 2) := by decide +kernel
theorem dX13_tryout_104 : decode cX13_tryout 104 = .ok (.iaload, 1) := by decide +kernel
theorem dX13_tryout_105 : decode cX13_tryout 105 = .ok (.aload_n 0, 1) := by decide +kernel
theorem dX13_tryout_106 : decode cX13_tryout 106 = .ok (.getfield 431, 3) := by decide +kernel
theorem dX13_tryout_109 : decode cX13_tryout 109 = .ok (.getfield 418, 3) := by decide +kernel
theorem dX13_tryout_112 : decode cX13_tryout 112 = .ok (.iload 4, 2) := by decide +kernel
theorem dX13_tryout_114 : decode cX13_tryout 114 = .ok (.iaload, 1) := by decide +kernel
theorem dX13_tryout_115 : decode cX13_tryout 115 = .ok (.aload_n 0, 1) := by decide +kernel
theorem dX13_tryout_116 : decode cX13_tryout 116 = .ok (.getfield 431, 3) := by decide +kernel
theorem dX13_tryout_119 : decode cX13_tryout 119 = .ok (.getfield 421, 3) := by decide +kernel
theorem dX13_tryout_122 : decode cX13_tryout 122 = .ok (.iload 4, 2) := by decide +kernel
theorem dX13_tryout_124 : decode cX13_tryout 124 = .ok (.iaload, 1) := by decide +kernel
theorem dX13_tryout_125 : decode cX13_tryout 125 = .ok (.invokestatic 440, 3) := by decide +kernel
theorem dX13_tryout_128 : decode cX13_tryout 128 = .ok (.istore 10, 2) := by decide +kernel
theorem dX13_tryout_130 : decode cX13_tryout 130 = .ok (.lload 5, 2) := by decide +kernel
theorem dX13_tryout_132 : decode cX13_tryout 132 = .ok (.iload 10, 2) := by decide +kernel
theorem dX13_tryout_134 : decode cX13_tryout 134 = .ok (.ifCond .eq 13, 3) := by decide +kernel
theorem dX13_tryout_137 : decode cX13_tryout 137 = .ok (.aload_n 0, 1) := by decide +kernel
theorem dX13_tryout_138 : decode cX13_tryout 138 = .ok (.iload 9, 2) := by decide +kernel
theorem dX13_tryout_140 : decode cX13_tryout 140 = .ok (.iconst (-1), 1) := by decide +kernel
theorem dX13_tryout_141 : decode cX13_tryout 141 = .ok (.invokevirtual 556, 3) := by decide +kernel
theorem dX13_tryout_144 : decode cX13_tryout 144 = .ok (.goto 4, 3) := by decide +kernel
theorem dX13_tryout_147 : decode cX13_tryout 147 = .ok (.lconst 0, 1) := by decide +kernel
theorem dX13_tryout_148 : decode cX13_tryout 148 = .ok (.ladd, 1) := by decide +kernel
theorem dX13_tryout_149 : decode cX13_tryout 149 = .ok (.lstore 5, 2) := by decide +kernel
theorem dX13_tryout_151 : decode cX13_tryout 151 = .ok (.lload 7, 2) := by decide +kernel
theorem dX13_tryout_153 : decode cX13_tryout 153 = .ok (.iload 10, 2) := by decide +kernel
theorem dX13_tryout_155 : decode cX13_tryout 155 = .ok (.ifCond .eq 7, 3) := by decide +kernel
theorem dX13_tryout_158 : decode cX13_tryout 158 = .ok (.lconst 0, 1) := by decide +kernel
theorem dX13_tryout_159 : decode cX13_tryout 159 = .ok (.goto 10, 3) := by decide +kernel
theorem dX13_tryout_162 : decode cX13_tryout 162 = .ok (.aload_n 0, 1) := by decide +kernel
theorem dX13_tryout_163 : decode cX13_tryout 163 = .ok (.iload 9, 2) := by decide +kernel
theorem dX13_tryout_165 : decode cX13_tryout 165 = .ok (.iconst (-1), 1) := by decide +kernel
theorem dX13_tryout_166 : decode cX13_tryout 166 = .ok (.invokevirtual 556, 3) := by decide +kernel
theorem dX13_tryout_169 : decode cX13_tryout 169 = .ok (.ladd, 1) := by decide +kernel
theorem dX13_tryout_170 : decode cX13_tryout 170 = .ok (.lstore 7, 2) := by decide +kernel
theorem dX13_tryout_172 : decode cX13_tryout 172 = .ok (.iinc 9 1, 3) := by decide +kernel
theorem dX13_tryout_175 : decode cX13_tryout 175 = .ok (.goto (-112), 3) := by decide +kernel
theorem dX13_tryout_178 : decode cX13_tryout 178 = .ok (.lload 5, 2) := by decide +kernel
theorem dX13_tryout_180 : decode cX13_tryout 180 = .ok (.lload 7, 2) := by decide +kernel
theorem dX13_tryout_182 : decode cX13_tryout 182 = .ok (.lcmp, 1) := by decide +kernel
theorem dX13_tryout_183 : decode cX13_tryout 183 = .ok (.ifCond .le 8, 3) := by decide +kernel
theorem dX13_tryout_186 : decode cX13_tryout 186 = .ok (.lload 5, 2) := by decide +kernel
theorem dX13_tryout_188 : decode cX13_tryout 188 = .ok (.goto 5, 3) := by decide +kernel
theorem dX13_tryout_191 : decode cX13_tryout 191 = .ok (.lload 7, 2) := by decide +kernel
theorem dX13_tryout_193 : decode cX13_tryout 193 = .ok (.lstore 9, 2) := by decide +kernel
theorem dX13_tryout_195 : decode cX13_tryout 195 = .ok (.iload 4, 2) := by decide +kernel
theorem dX13_tryout_197 : decode cX13_tryout 197 = .ok (.ifCond .le 13, 3) := by decide +kernel
theorem dX13_tryout_200 : decode cX13_tryout 200 = .ok (.lload 9, 2) := by decide +kernel
theorem dX13_tryout_202 : decode cX13_tryout 202 = .ok (.lload_n 2, 1) := by decide +kernel
theorem dX13_tryout_203 : decode cX13_tryout 203 = .ok (.lcmp, 1) := by decide +kernel
theorem dX13_tryout_204 : decode cX13_tryout 204 = .ok (.ifCond .lt 6, 3) := by decide +kernel
theorem dX13_tryout_207 : decode cX13_tryout 207 = .ok (.goto 9, 3) := by decide +kernel
theorem dX13_tryout_210 : decode cX13_tryout 210 = .ok (.lload 9, 2) := by decide +kernel
theorem dX13_tryout_212 : decode cX13_tryout 212 = .ok (.lstore_n 2, 1) := by decide +kernel
theorem dX13_tryout_213 : decode cX13_tryout 213 = .ok (.iload 4, 2) := by decide +kernel
theorem dX13_tryout_215 : decode cX13_tryout 215 = .ok (.istore_n 1, 1) := by decide +kernel
theorem dX13_tryout_216 : decode cX13_tryout 216 = .ok (.iinc 4 1, 3) := by decide +kernel
theorem dX13_tryout_219 : decode cX13_tryout 219 = .ok (.goto (-177), 3) := by decide +kernel
theorem dX13_tryout_222 : decode cX13_tryout 222 = .ok (.aload_n 0, 1) := by decide +kernel
theorem dX13_tryout_223 : decode cX13_tryout 223 = .ok (.iload_n 1, 1) := by decide +kernel
theorem dX13_tryout_224 : decode cX13_tryout 224 = .ok (.invokevirtual 40, 3) := by decide +kernel
theorem dX13_tryout_227 : decode cX13_tryout 227 = .ok (.ireturn, 1) := by decide +kernel
set_option maxRecDepth 20000 in
theorem ggX13_people_X13_isWay : GoodIn wsX13_people wsX13_isWay := goodIn_r _ [7, 2, 24, 25, 26, 27, 28, 29, 30, 31, 32, 33, 34, 35, 36, 37, 38, 39, 40, 41, 42, 43, 44, 45, 46, 47, 48, 49, 50, 51, 52, 53, 54, 55, 56, 57, 58, 59, 60, 61, 62, 63, 64, 65, 66, 67, 68, 69, 70, 71, 72, 73, 74, 75, 76, 77, 78, 79, 80, 81, 82, 83, 84, 85, 86, 87, 88, 89, 90, 91, 92, 93, 94, 95, 96, 97, 98, 99, 100] rfl (by decide +kernel)
set_option maxRecDepth 20000 in
theorem gX13_people_X13_isWay : GoodIn wsX13_people (wsV RX13 444 RX13 yX13_isWay wsX13_isWay) := goodIn_app (goodIn_of _ (by decide +kernel)) ggX13_people_X13_isWay
set_option maxRecDepth 20000 in
theorem ggX13_people_X13_refused : GoodIn wsX13_people wsX13_refused := goodIn_r _ [11, 12, 13, 24, 25, 26, 27, 28, 29, 30, 31, 32, 33, 34, 35, 36, 37, 38, 39, 40, 41, 42, 43, 44, 45, 46, 47, 48, 49, 50, 51, 52] rfl (by decide +kernel)
set_option maxRecDepth 20000 in
theorem gX13_people_X13_refused : GoodIn wsX13_people (wsV RX13 36 RX13 yX13_refused wsX13_refused) := goodIn_app (goodIn_of _ (by decide +kernel)) ggX13_people_X13_refused
set_option maxRecDepth 20000 in
theorem ggX13_people_X13_in : GoodIn wsX13_people wsX13_in := goodIn_r _ [16] rfl (by decide +kernel)
set_option maxRecDepth 20000 in
theorem gX13_people_X13_in : GoodIn wsX13_people (va_wsS RX13 108 yX13_in wsX13_in) := goodIn_app (goodIn_of _ (by decide +kernel)) ggX13_people_X13_in
set_option maxRecDepth 20000 in
theorem ggX13_people_X13_up : GoodIn wsX13_people wsX13_up := goodIn_r _ [19] rfl (by decide +kernel)
set_option maxRecDepth 20000 in
theorem gX13_people_X13_up : GoodIn wsX13_people (va_wsS RX13 466 yX13_up wsX13_up) := goodIn_app (goodIn_of _ (by decide +kernel)) ggX13_people_X13_up
set_option maxRecDepth 20000 in
theorem ggX13_people_X13_done : GoodIn wsX13_people wsX13_done := goodIn_r _ [23, 12, 13, 24, 25, 26, 27, 28, 29, 30, 31, 32, 33, 34, 35, 36, 37, 38, 39, 40, 41, 42, 43, 44, 45, 46, 47, 48, 49, 50, 51, 52] rfl (by decide +kernel)
set_option maxRecDepth 20000 in
theorem gX13_people_X13_done : GoodIn wsX13_people (wsV RX13 40 RX13 yX13_done wsX13_done) := goodIn_app (goodIn_of _ (by decide +kernel)) ggX13_people_X13_done
theorem dX13_people_0 : decode cX13_people 0 = .ok (.aload_n 0, 1) := by decide +kernel
theorem dX13_people_1 : decode cX13_people 1 = .ok (.iconst 0, 1) := by decide +kernel
theorem dX13_people_2 : decode cX13_people 2 = .ok (.putfield 30, 3) := by decide +kernel
theorem dX13_people_5 : decode cX13_people 5 = .ok (.aload_n 0, 1) := by decide +kernel
theorem dX13_people_6 : decode cX13_people 6 = .ok (.iload_n 1, 1) := by decide +kernel
theorem dX13_people_7 : decode cX13_people 7 = .ok (.invokevirtual 444, 3) := by decide +kernel
theorem dX13_people_10 : decode cX13_people 10 = .ok (.ifCond .ne 9, 3) := by decide +kernel
theorem dX13_people_13 : decode cX13_people 13 = .ok (.aload_n 0, 1) := by decide +kernel
theorem dX13_people_14 : decode cX13_people 14 = .ok (.iconst 1, 1) := by decide +kernel
theorem dX13_people_15 : decode cX13_people 15 = .ok (.invokevirtual 36, 3) := by decide +kernel
theorem dX13_people_18 : decode cX13_people 18 = .ok (.ireturn, 1) := by decide +kernel
theorem dX13_people_19 : decode cX13_people 19 = .ok (.iload_n 2, 1) := by decide +kernel
theorem dX13_people_20 : decode cX13_people 20 = .ok (.iconst 1, 1) := by decide +kernel
theorem dX13_people_21 : decode cX13_people 21 = .ok (.sipush 400, 3) := by decide +kernel
theorem dX13_people_24 : decode cX13_people 24 = .ok (.invokestatic 108, 3) := by decide +kernel
theorem dX13_people_27 : decode cX13_people 27 = .ok (.ifCond .ne 9, 3) := by decide +kernel
theorem dX13_people_30 : decode cX13_people 30 = .ok (.aload_n 0, 1) := by decide +kernel
theorem dX13_people_31 : decode cX13_people 31 = .ok (.iconst 2, 1) := by decide +kernel
theorem dX13_people_32 : decode cX13_people 32 = .ok (.invokevirtual 36, 3) := by decide +kernel
theorem dX13_people_35 : decode cX13_people 35 = .ok (.ireturn, 1) := by decide +kernel
theorem dX13_people_36 : decode cX13_people 36 = .ok (.iconst (-1), 1) := by decide +kernel
theorem dX13_people_37 : decode cX13_people 37 = .ok (.istore 4, 2) := by decide +kernel
theorem dX13_people_39 : decode cX13_people 39 = .ok (.iconst 0, 1) := by decide +kernel
theorem dX13_people_40 : decode cX13_people 40 = .ok (.istore 5, 2) := by decide +kernel
theorem dX13_people_42 : decode cX13_people 42 = .ok (.iconst 0, 1) := by decide +kernel
theorem dX13_people_43 : decode cX13_people 43 = .ok (.istore 6, 2) := by decide +kernel
theorem dX13_people_45 : decode cX13_people 45 = .ok (.iload 6, 2) := by decide +kernel
theorem dX13_people_47 : decode cX13_people 47 = .ok (.aload_n 0, 1) := by decide +kernel
theorem dX13_people_48 : decode cX13_people 48 = .ok (.getfield 431, 3) := by decide +kernel
theorem dX13_people_51 : decode cX13_people 51 = .ok (.getfield 317, 3) := by decide +kernel
theorem dX13_people_54 : decode cX13_people 54 = .ok (.if_icmp .ge 121, 3) := by decide +kernel
theorem dX13_people_57 : decode cX13_people 57 = .ok (.aload_n 0, 1) := by decide +kernel
theorem dX13_people_58 : decode cX13_people 58 = .ok (.getfield 431, 3) := by decide +kernel
theorem dX13_people_61 : decode cX13_people 61 = .ok (.getfield 328, 3) := by decide +kernel
theorem dX13_people_64 : decode cX13_people 64 = .ok (.iload 6, 2) := by decide +kernel
theorem dX13_people_66 : decode cX13_people 66 = .ok (.iaload, 1) := by decide +kernel
theorem dX13_people_67 : decode cX13_people 67 = .ok (.iload_n 1, 1) := by decide +kernel
theorem dX13_people_68 : decode cX13_people 68 = .ok (.if_icmp .eq 6, 3) := by decide +kernel
theorem dX13_people_71 : decode cX13_people 71 = .ok (.goto 98, 3) := by decide +kernel
theorem dX13_people_74 : decode cX13_people 74 = .ok (.iload_n 2, 1) := by decide +kernel
theorem dX13_people_75 : decode cX13_people 75 = .ok (.aload_n 0, 1) := by decide +kernel
theorem dX13_people_76 : decode cX13_people 76 = .ok (.getfield 431, 3) := by decide +kernel
theorem dX13_people_79 : decode cX13_people 79 = .ok (.getfield 334, 3) := by decide +kernel
theorem dX13_people_82 : decode cX13_people 82 = .ok (.iload 6, 2) := by decide +kernel
theorem dX13_people_84 : decode cX13_people 84 = .ok (.iaload, 1) := by decide +kernel
theorem dX13_people_85 : decode cX13_people 85 = .ok (.imul, 1) := by decide +kernel
theorem dX13_people_86 : decode cX13_people 86 = .ok (.aload_n 0, 1) := by decide +kernel
theorem dX13_people_87 : decode cX13_people 87 = .ok (.getfield 431, 3) := by decide +kernel
theorem dX13_people_90 : decode cX13_people 90 = .ok (.getfield 331, 3) := by decide +kernel
theorem dX13_people_93 : decode cX13_people 93 = .ok (.iload 6, 2) := by decide +kernel
theorem dX13_people_95 : decode cX13_people 95 = .ok (.iaload, 1) := by decide +kernel
theorem dX13_people_96 : decode cX13_people 96 = .ok (.invokestatic 466, 3) := by decide +kernel
theorem dX13_people_99 : decode cX13_people 99 = .ok (.istore 7, 2) := by decide +kernel
theorem dX13_people_101 : decode cX13_people 101 = .ok (.iload 4, 2) := by decide +kernel
theorem dX13_people_103 : decode cX13_people 103 = .ok (.iconst (-1), 1) := by decide +kernel
theorem dX13_people_104 : decode cX13_people 104 = .ok (.if_icmp .eq 24, 3) := by decide +kernel
theorem dX13_people_107 : decode cX13_people 107 = .ok (.iload_n 3, 1) := by decide +kernel
theorem dX13_people_108 : decode cX13_people 108 = .ok (.ifCond .eq 13, 3) := by decide +kernel
theorem dX13_people_111 : decode cX13_people 111 = .ok (.iload 7, 2) := by decide +kernel
theorem dX13_people_113 : decode cX13_people 113 = .ok (.iload 4, 2) := by decide +kernel
theorem dX13_people_115 : decode cX13_people 115 = .ok (.if_icmp .le 18, 3) := by decide +kernel
theorem dX13_people_118 : decode cX13_people 118 = .ok (.goto 10, 3) := by decide +kernel
theorem dX13_people_121 : decode cX13_people 121 = .ok (.iload 7, 2) := by decide +kernel
theorem dX13_people_123 : decode cX13_people 123 = .ok (.iload 4, 2) := by decide +kernel
theorem dX13_people_125 : decode cX13_people 125 = .ok (.if_icmp .ge 8, 3) := by decide +kernel
theorem dX13_people_128 : decode cX13_people 128 = .ok (.iload 7, 2) := by decide +kernel
theorem dX13_people_130 : decode cX13_people 130 = .ok (.goto 5, 3) := by decide +kernel
theorem dX13_people_133 : decode cX13_people 133 = .ok (.iload 4, 2) := by decide +kernel
theorem dX13_people_135 : decode cX13_people 135 = .ok (.istore 4, 2) := by decide +kernel
theorem dX13_people_137 : decode cX13_people 137 = .ok (.aload_n 0, 1) := by decide +kernel
theorem dX13_people_138 : decode cX13_people 138 = .ok (.getfield 431, 3) := by decide +kernel
theorem dX13_people_141 : decode cX13_people 141 = .ok (.getfield 331, 3) := by decide +kernel
theorem dX13_people_144 : decode cX13_people 144 = .ok (.iload 6, 2) := by decide +kernel
theorem dX13_people_146 : decode cX13_people 146 = .ok (.iaload, 1) := by decide +kernel
theorem dX13_people_147 : decode cX13_people 147 = .ok (.iload 5, 2) := by decide +kernel
theorem dX13_people_149 : decode cX13_people 149 = .ok (.if_icmp .le 16, 3) := by decide +kernel
theorem dX13_people_152 : decode cX13_people 152 = .ok (.aload_n 0, 1) := by decide +kernel
theorem dX13_people_153 : decode cX13_people 153 = .ok (.getfield 431, 3) := by decide +kernel
theorem dX13_people_156 : decode cX13_people 156 = .ok (.getfield 331, 3) := by decide +kernel
theorem dX13_people_159 : decode cX13_people 159 = .ok (.iload 6, 2) := by decide +kernel
theorem dX13_people_161 : decode cX13_people 161 = .ok (.iaload, 1) := by decide +kernel
theorem dX13_people_162 : decode cX13_people 162 = .ok (.goto 5, 3) := by decide +kernel
theorem dX13_people_165 : decode cX13_people 165 = .ok (.iload 5, 2) := by decide +kernel
theorem dX13_people_167 : decode cX13_people 167 = .ok (.istore 5, 2) := by decide +kernel
theorem dX13_people_169 : decode cX13_people 169 = .ok (.iinc 6 1, 3) := by decide +kernel
theorem dX13_people_172 : decode cX13_people 172 = .ok (.goto (-127), 3) := by decide +kernel
theorem dX13_people_175 : decode cX13_people 175 = .ok (.iload 4, 2) := by decide +kernel
theorem dX13_people_177 : decode cX13_people 177 = .ok (.iconst (-1), 1) := by decide +kernel
theorem dX13_people_178 : decode cX13_people 178 = .ok (.if_icmp .eq 11, 3) := by decide +kernel
theorem dX13_people_181 : decode cX13_people 181 = .ok (.iload_n 2, 1) := by decide +kernel
theorem dX13_people_182 : decode cX13_people 182 = .ok (.iconst 4, 1) := by decide +kernel
theorem dX13_people_183 : decode cX13_people 183 = .ok (.iload 5, 2) := by decide +kernel
theorem dX13_people_185 : decode cX13_people 185 = .ok (.imul, 1) := by decide +kernel
theorem dX13_people_186 : decode cX13_people 186 = .ok (.if_icmp .le 12, 3) := by decide +kernel
theorem dX13_people_189 : decode cX13_people 189 = .ok (.aload_n 0, 1) := by decide +kernel
theorem dX13_people_190 : decode cX13_people 190 = .ok (.bipush 6, 2) := by decide +kernel
theorem dX13_people_192 : decode cX13_people 192 = .ok (.invokevirtual 36, 3) := by decide +kernel
theorem dX13_people_195 : decode cX13_people 195 = .ok (.goto 9, 3) := by decide +kernel
theorem dX13_people_198 : decode cX13_people 198 = .ok (.aload_n 0, 1) := by decide +kernel
theorem dX13_people_199 : decode cX13_people 199 = .ok (.iload 4, 2) := by decide +kernel
theorem dX13_people_201 : decode cX13_people 201 = .ok (.invokevirtual 40, 3) := by decide +kernel
theorem dX13_people_204 : decode cX13_people 204 = .ok (.ireturn, 1) := by decide +kernel
set_option maxRecDepth 20000 in
theorem ggX13_takes_X13_isWay : GoodIn wsX13_takes wsX13_isWay := goodIn_r _ [7, 2, 24, 25, 26, 27, 28, 29, 30, 31, 32, 33, 34, 35, 36, 37, 38, 39, 40, 41, 42, 43, 44, 45, 46, 47, 48, 49, 50, 51, 52, 53, 54, 55, 56, 57, 58, 59, 60, 61, 62, 63, 64, 65, 66, 67, 68, 69, 70, 71, 72, 73, 74, 75, 76, 77, 78, 79, 80, 81, 82, 83, 84, 85, 86, 87, 88, 89, 90, 91, 92, 93, 94, 95, 96, 97, 98, 99, 100] rfl (by decide +kernel)
set_option maxRecDepth 20000 in
theorem gX13_takes_X13_isWay : GoodIn wsX13_takes (wsV RX13 444 RX13 yX13_isWay wsX13_isWay) := goodIn_app (goodIn_of _ (by decide +kernel)) ggX13_takes_X13_isWay
set_option maxRecDepth 20000 in
theorem ggX13_takes_X13_refused : GoodIn wsX13_takes wsX13_refused := goodIn_r _ [11, 12, 13, 24, 25, 26, 27, 28, 29, 30, 31, 32, 33, 34, 35, 36, 37, 38, 39, 40, 41, 42, 43, 44, 45, 46, 47, 48, 49, 50, 51, 52] rfl (by decide +kernel)
set_option maxRecDepth 20000 in
theorem gX13_takes_X13_refused : GoodIn wsX13_takes (wsV RX13 36 RX13 yX13_refused wsX13_refused) := goodIn_app (goodIn_of _ (by decide +kernel)) ggX13_takes_X13_refused
set_option maxRecDepth 20000 in
theorem ggX13_takes_X13_in : GoodIn wsX13_takes wsX13_in := goodIn_r _ [16] rfl (by decide +kernel)
set_option maxRecDepth 20000 in
theorem gX13_takes_X13_in : GoodIn wsX13_takes (va_wsS RX13 108 yX13_in wsX13_in) := goodIn_app (goodIn_of _ (by decide +kernel)) ggX13_takes_X13_in
set_option maxRecDepth 20000 in
theorem ggX13_takes_X13_up : GoodIn wsX13_takes wsX13_up := goodIn_r _ [19] rfl (by decide +kernel)
set_option maxRecDepth 20000 in
theorem gX13_takes_X13_up : GoodIn wsX13_takes (va_wsS RX13 466 yX13_up wsX13_up) := goodIn_app (goodIn_of _ (by decide +kernel)) ggX13_takes_X13_up
set_option maxRecDepth 20000 in
theorem ggX13_takes_X13_done : GoodIn wsX13_takes wsX13_done := goodIn_r _ [23, 12, 13, 24, 25, 26, 27, 28, 29, 30, 31, 32, 33, 34, 35, 36, 37, 38, 39, 40, 41, 42, 43, 44, 45, 46, 47, 48, 49, 50, 51, 52] rfl (by decide +kernel)
set_option maxRecDepth 20000 in
theorem gX13_takes_X13_done : GoodIn wsX13_takes (wsV RX13 40 RX13 yX13_done wsX13_done) := goodIn_app (goodIn_of _ (by decide +kernel)) ggX13_takes_X13_done
theorem dX13_takes_0 : decode cX13_takes 0 = .ok (.aload_n 0, 1) := by decide +kernel
theorem dX13_takes_1 : decode cX13_takes 1 = .ok (.iconst 0, 1) := by decide +kernel
theorem dX13_takes_2 : decode cX13_takes 2 = .ok (.putfield 30, 3) := by decide +kernel
theorem dX13_takes_5 : decode cX13_takes 5 = .ok (.aload_n 0, 1) := by decide +kernel
theorem dX13_takes_6 : decode cX13_takes 6 = .ok (.iload_n 1, 1) := by decide +kernel
theorem dX13_takes_7 : decode cX13_takes 7 = .ok (.invokevirtual 444, 3) := by decide +kernel
theorem dX13_takes_10 : decode cX13_takes 10 = .ok (.ifCond .ne 9, 3) := by decide +kernel
theorem dX13_takes_13 : decode cX13_takes 13 = .ok (.aload_n 0, 1) := by decide +kernel
theorem dX13_takes_14 : decode cX13_takes 14 = .ok (.iconst 1, 1) := by decide +kernel
theorem dX13_takes_15 : decode cX13_takes 15 = .ok (.invokevirtual 36, 3) := by decide +kernel
theorem dX13_takes_18 : decode cX13_takes 18 = .ok (.ireturn, 1) := by decide +kernel
theorem dX13_takes_19 : decode cX13_takes 19 = .ok (.iload_n 2, 1) := by decide +kernel
theorem dX13_takes_20 : decode cX13_takes 20 = .ok (.iconst 1, 1) := by decide +kernel
theorem dX13_takes_21 : decode cX13_takes 21 = .ok (.sipush 9999, 3) := by decide +kernel
theorem dX13_takes_24 : decode cX13_takes 24 = .ok (.invokestatic 108, 3) := by decide +kernel
theorem dX13_takes_27 : decode cX13_takes 27 = .ok (.ifCond .ne 9, 3) := by decide +kernel
theorem dX13_takes_30 : decode cX13_takes 30 = .ok (.aload_n 0, 1) := by decide +kernel
theorem dX13_takes_31 : decode cX13_takes 31 = .ok (.iconst 2, 1) := by decide +kernel
theorem dX13_takes_32 : decode cX13_takes 32 = .ok (.invokevirtual 36, 3) := by decide +kernel
theorem dX13_takes_35 : decode cX13_takes 35 = .ok (.ireturn, 1) := by decide +kernel
theorem dX13_takes_36 : decode cX13_takes 36 = .ok (.iconst (-1), 1) := by decide +kernel
theorem dX13_takes_37 : decode cX13_takes 37 = .ok (.istore 4, 2) := by decide +kernel
theorem dX13_takes_39 : decode cX13_takes 39 = .ok (.iconst 0, 1) := by decide +kernel
theorem dX13_takes_40 : decode cX13_takes 40 = .ok (.istore 5, 2) := by decide +kernel
theorem dX13_takes_42 : decode cX13_takes 42 = .ok (.iload 5, 2) := by decide +kernel
theorem dX13_takes_44 : decode cX13_takes 44 = .ok (.aload_n 0, 1) := by decide +kernel
theorem dX13_takes_45 : decode cX13_takes 45 = .ok (.getfield 431, 3) := by decide +kernel
theorem dX13_takes_48 : decode cX13_takes 48 = .ok (.getfield 317, 3) := by decide +kernel
theorem dX13_takes_51 : decode cX13_takes 51 = .ok (.if_icmp .ge 89, 3) := by decide +kernel
theorem dX13_takes_54 : decode cX13_takes 54 = .ok (.aload_n 0, 1) := by decide +kernel
theorem dX13_takes_55 : decode cX13_takes 55 = .ok (.getfield 431, 3) := by decide +kernel
theorem dX13_takes_58 : decode cX13_takes 58 = .ok (.getfield 328, 3) := by decide +kernel
theorem dX13_takes_61 : decode cX13_takes 61 = .ok (.iload 5, 2) := by decide +kernel
theorem dX13_takes_63 : decode cX13_takes 63 = .ok (.iaload, 1) := by decide +kernel
theorem dX13_takes_64 : decode cX13_takes 64 = .ok (.iload_n 1, 1) := by decide +kernel
theorem dX13_takes_65 : decode cX13_takes 65 = .ok (.if_icmp .eq 6, 3) := by decide +kernel
theorem dX13_takes_68 : decode cX13_takes 68 = .ok (.goto 66, 3) := by decide +kernel
theorem dX13_takes_71 : decode cX13_takes 71 = .ok (.iload_n 2, 1) := by decide +kernel
theorem dX13_takes_72 : decode cX13_takes 72 = .ok (.aload_n 0, 1) := by decide +kernel
theorem dX13_takes_73 : decode cX13_takes 73 = .ok (.getfield 431, 3) := by decide +kernel
theorem dX13_takes_76 : decode cX13_takes 76 = .ok (.getfield 340, 3) := by decide +kernel
theorem dX13_takes_79 : decode cX13_takes 79 = .ok (.iload 5, 2) := by decide +kernel
theorem dX13_takes_81 : decode cX13_takes 81 = .ok (.iaload, 1) := by decide +kernel
theorem dX13_takes_82 : decode cX13_takes 82 = .ok (.imul, 1) := by decide +kernel
theorem dX13_takes_83 : decode cX13_takes 83 = .ok (.aload_n 0, 1) := by decide +kernel
theorem dX13_takes_84 : decode cX13_takes 84 = .ok (.getfield 431, 3) := by decide +kernel
theorem dX13_takes_87 : decode cX13_takes 87 = .ok (.getfield 337, 3) := by decide +kernel
theorem dX13_takes_90 : decode cX13_takes 90 = .ok (.iload 5, 2) := by decide +kernel
theorem dX13_takes_92 : decode cX13_takes 92 = .ok (.iaload, 1) := by decide +kernel
theorem dX13_takes_93 : decode cX13_takes 93 = .ok (.invokestatic 466, 3) := by decide +kernel
theorem dX13_takes_96 : decode cX13_takes 96 = .ok (.istore 6, 2) := by decide +kernel
theorem dX13_takes_98 : decode cX13_takes 98 = .ok (.iload 4, 2) := by decide +kernel
theorem dX13_takes_100 : decode cX13_takes 100 = .ok (.iconst (-1), 1) := by decide +kernel
theorem dX13_takes_101 : decode cX13_takes 101 = .ok (.if_icmp .eq 24, 3) := by decide +kernel
theorem dX13_takes_104 : decode cX13_takes 104 = .ok (.iload_n 3, 1) := by decide +kernel
theorem dX13_takes_105 : decode cX13_takes 105 = .ok (.ifCond .eq 13, 3) := by decide +kernel
theorem dX13_takes_108 : decode cX13_takes 108 = .ok (.iload 6, 2) := by decide +kernel
theorem dX13_takes_110 : decode cX13_takes 110 = .ok (.iload 4, 2) := by decide +kernel
theorem dX13_takes_112 : decode cX13_takes 112 = .ok (.if_icmp .le 18, 3) := by decide +kernel
theorem dX13_takes_115 : decode cX13_takes 115 = .ok (.goto 10, 3) := by decide +kernel
theorem dX13_takes_118 : decode cX13_takes 118 = .ok (.iload 6, 2) := by decide +kernel
theorem dX13_takes_120 : decode cX13_takes 120 = .ok (.iload 4, 2) := by decide +kernel
theorem dX13_takes_122 : decode cX13_takes 122 = .ok (.if_icmp .ge 8, 3) := by decide +kernel
theorem dX13_takes_125 : decode cX13_takes 125 = .ok (.iload 6, 2) := by decide +kernel
theorem dX13_takes_127 : decode cX13_takes 127 = .ok (.goto 5, 3) := by decide +kernel
theorem dX13_takes_130 : decode cX13_takes 130 = .ok (.iload 4, 2) := by decide +kernel
theorem dX13_takes_132 : decode cX13_takes 132 = .ok (.istore 4, 2) := by decide +kernel
theorem dX13_takes_134 : decode cX13_takes 134 = .ok (.iinc 5 1, 3) := by decide +kernel
theorem dX13_takes_137 : decode cX13_takes 137 = .ok (.goto (-95), 3) := by decide +kernel
theorem dX13_takes_140 : decode cX13_takes 140 = .ok (.iload 4, 2) := by decide +kernel
theorem dX13_takes_142 : decode cX13_takes 142 = .ok (.iconst (-1), 1) := by decide +kernel
theorem dX13_takes_143 : decode cX13_takes 143 = .ok (.if_icmp .ne 12, 3) := by decide +kernel
theorem dX13_takes_146 : decode cX13_takes 146 = .ok (.aload_n 0, 1) := by decide +kernel
theorem dX13_takes_147 : decode cX13_takes 147 = .ok (.bipush 6, 2) := by decide +kernel
theorem dX13_takes_149 : decode cX13_takes 149 = .ok (.invokevirtual 36, 3) := by decide +kernel
theorem dX13_takes_152 : decode cX13_takes 152 = .ok (.goto 9, 3) := by decide +kernel
theorem dX13_takes_155 : decode cX13_takes 155 = .ok (.aload_n 0, 1) := by decide +kernel
theorem dX13_takes_156 : decode cX13_takes 156 = .ok (.iload 4, 2) := by decide +kernel
theorem dX13_takes_158 : decode cX13_takes 158 = .ok (.invokevirtual 40, 3) := by decide +kernel
theorem dX13_takes_161 : decode cX13_takes 161 = .ok (.ireturn, 1) := by decide +kernel
set_option maxRecDepth 20000 in
theorem ggX13_off_X13_lost : GoodIn wsX13_off wsX13_lost := goodIn_r _ [7, 8, 9, 10, 6, 11, 12, 13, 25, 26, 27, 28, 29, 30, 31, 32, 33, 34, 35, 36, 37, 38, 39, 40, 41, 42, 43, 44, 45, 46, 47, 48, 49, 50, 51, 52, 53] rfl (by decide +kernel)
set_option maxRecDepth 20000 in
theorem gX13_off_X13_lost : GoodIn wsX13_off (wsV RX13 463 RX13 yX13_lost wsX13_lost) := goodIn_app (goodIn_of _ (by decide +kernel)) ggX13_off_X13_lost
set_option maxRecDepth 20000 in
theorem ggX13_off_X13_needBy : GoodIn wsX13_off wsX13_needBy := goodIn_r _ [17, 2, 18, 19, 6, 20, 25, 26, 27, 28, 29, 30, 31, 32, 33, 34, 35, 36, 37, 38, 39, 40, 41, 42, 43, 44, 45, 46, 47, 48, 49, 50, 51, 52, 53, 54, 55, 56, 57, 58, 59, 60, 61, 62, 63, 64, 65, 66, 67, 68, 69, 70, 71, 72, 73, 74, 75, 76, 77, 78, 79, 80, 81, 82, 83, 84, 85, 86, 87, 88, 89, 90, 91, 92, 93, 94, 95, 96, 97, 98, 99, 100, 101] rfl (by decide +kernel)
set_option maxRecDepth 20000 in
theorem gX13_off_X13_needBy : GoodIn wsX13_off (wsV RX13 468 RX13 yX13_needBy wsX13_needBy) := goodIn_app (goodIn_of _ (by decide +kernel)) ggX13_off_X13_needBy
set_option maxRecDepth 20000 in
theorem ggX13_off_X13_done : GoodIn wsX13_off wsX13_done := goodIn_r _ [24, 12, 13, 25, 26, 27, 28, 29, 30, 31, 32, 33, 34, 35, 36, 37, 38, 39, 40, 41, 42, 43, 44, 45, 46, 47, 48, 49, 50, 51, 52, 53] rfl (by decide +kernel)
set_option maxRecDepth 20000 in
theorem gX13_off_X13_done : GoodIn wsX13_off (wsV RX13 40 RX13 yX13_done wsX13_done) := goodIn_app (goodIn_of _ (by decide +kernel)) ggX13_off_X13_done
theorem dX13_off_0 : decode cX13_off 0 = .ok (.aload_n 0, 1) := by decide +kernel
theorem dX13_off_1 : decode cX13_off 1 = .ok (.iconst 0, 1) := by decide +kernel
theorem dX13_off_2 : decode cX13_off 2 = .ok (.putfield 30, 3) := by decide +kernel
theorem dX13_off_5 : decode cX13_off 5 = .ok (.aload_n 0, 1) := by decide +kernel
theorem dX13_off_6 : decode cX13_off 6 = .ok (.getfield 431, 3) := by decide +kernel
theorem dX13_off_9 : decode cX13_off 9 = .ok (.ifnull 18, 3) := by decide +kernel
theorem dX13_off_12 : decode cX13_off 12 = .ok (.iload_n 1, 1) := by decide +kernel
theorem dX13_off_13 : decode cX13_off 13 = .ok (.ifCond .lt 14, 3) := by decide +kernel
theorem dX13_off_16 : decode cX13_off 16 = .ok (.iload_n 1, 1) := by decide +kernel
theorem dX13_off_17 : decode cX13_off 17 = .ok (.aload_n 0, 1) := by decide +kernel
theorem dX13_off_18 : decode cX13_off 18 = .ok (.getfield 431, 3) := by decide +kernel
theorem dX13_off_21 : decode cX13_off 21 = .ok (.getfield 317, 3) := by decide +kernel
theorem dX13_off_24 : decode cX13_off 24 = .ok (.if_icmp .lt 9, 3) := by decide +kernel
theorem dX13_off_27 : decode cX13_off 27 = .ok (.aload_n 0, 1) := by decide +kernel
theorem dX13_off_28 : decode cX13_off 28 = .ok (.iconst 1, 1) := by decide +kernel
theorem dX13_off_29 : decode cX13_off 29 = .ok (.invokevirtual 463, 3) := by decide +kernel
theorem dX13_off_32 : decode cX13_off 32 = .ok (.ireturn, 1) := by decide +kernel
theorem dX13_off_33 : decode cX13_off 33 = .ok (.aload_n 0, 1) := by decide +kernel
theorem dX13_off_34 : decode cX13_off 34 = .ok (.aload_n 0, 1) := by decide +kernel
theorem dX13_off_35 : decode cX13_off 35 = .ok (.aload_n 0, 1) := by decide +kernel
theorem dX13_off_36 : decode cX13_off 36 = .ok (.getfield 431, 3) := by decide +kernel
theorem dX13_off_39 : decode cX13_off 39 = .ok (.getfield 328, 3) := by decide +kernel
theorem dX13_off_42 : decode cX13_off 42 = .ok (.iload_n 1, 1) := by decide +kernel
theorem dX13_off_43 : decode cX13_off 43 = .ok (.iaload, 1) := by decide +kernel
theorem dX13_off_44 : decode cX13_off 44 = .ok (.aload_n 0, 1) := by decide +kernel
theorem dX13_off_45 : decode cX13_off 45 = .ok (.getfield 431, 3) := by decide +kernel
theorem dX13_off_48 : decode cX13_off 48 = .ok (.getfield 331, 3) := by decide +kernel
theorem dX13_off_51 : decode cX13_off 51 = .ok (.iload_n 1, 1) := by decide +kernel
theorem dX13_off_52 : decode cX13_off 52 = .ok (.iaload, 1) := by decide +kernel
theorem dX13_off_53 : decode cX13_off 53 = .ok (.iconst 0, 1) := by decide +kernel
theorem dX13_off_54 : decode cX13_off 54 = .ok (.invokevirtual 468, 3) := by decide +kernel
theorem dX13_off_57 : decode cX13_off 57 = .ok (.aload_n 0, 1) := by decide +kernel
theorem dX13_off_58 : decode cX13_off 58 = .ok (.getfield 431, 3) := by decide +kernel
theorem dX13_off_61 : decode cX13_off 61 = .ok (.getfield 334, 3) := by decide +kernel
theorem dX13_off_64 : decode cX13_off 64 = .ok (.iload_n 1, 1) := by decide +kernel
theorem dX13_off_65 : decode cX13_off 65 = .ok (.iaload, 1) := by decide +kernel
theorem dX13_off_66 : decode cX13_off 66 = .ok (.isub, 1) := by decide +kernel
theorem dX13_off_67 : decode cX13_off 67 = .ok (.invokevirtual 40, 3) := by decide +kernel
theorem dX13_off_70 : decode cX13_off 70 = .ok (.ireturn, 1) := by decide +kernel
set_option maxRecDepth 20000 in
theorem ggX13_woodBy_X13_woodOf : GoodIn wsX13_woodBy wsX13_woodOf := goodIn_r _ [6, 1, 7, 8, 9, 10, 11, 12, 13, 14, 15, 16, 17, 18, 19, 20, 21, 22, 23, 24, 25, 26, 27, 28, 29, 30, 31, 32, 33, 34, 35, 36, 37, 38, 39, 40, 41, 42, 43, 44, 45, 46, 47, 48, 49, 50, 51, 52, 53, 54, 55, 56, 57, 58, 59, 60, 61, 62, 63, 64, 65, 66, 67, 68, 69, 70, 71, 72, 73, 74, 75, 76, 77, 78, 79, 80, 81, 82, 83] rfl (by decide +kernel)
set_option maxRecDepth 20000 in
theorem gX13_woodBy_X13_woodOf : GoodIn wsX13_woodBy (wsV RX13 524 RX13 yX13_woodOf wsX13_woodOf) := goodIn_app (goodIn_of _ (by decide +kernel)) ggX13_woodBy_X13_woodOf
theorem dX13_woodBy_0 : decode cX13_woodBy 0 = .ok (.iconst 0, 1) := by decide +kernel
theorem dX13_woodBy_1 : decode cX13_woodBy 1 = .ok (.istore_n 2, 1) := by decide +kernel
theorem dX13_woodBy_2 : decode cX13_woodBy 2 = .ok (.iconst 0, 1) := by decide +kernel
theorem dX13_woodBy_3 : decode cX13_woodBy 3 = .ok (.istore_n 3, 1) := by decide +kernel
theorem dX13_woodBy_4 : decode cX13_woodBy 4 = .ok (.iload_n 3, 1) := by decide +kernel
theorem dX13_woodBy_5 : decode cX13_woodBy 5 = .ok (.aload_n 0, 1) := by decide +kernel
theorem dX13_woodBy_6 : decode cX13_woodBy 6 = .ok (.getfield 431, 3) := by decide +kernel
theorem dX13_woodBy_9 : decode cX13_woodBy 9 = .ok (.getfield 191, 3) := by decide +kernel
theorem dX13_woodBy_12 : decode cX13_woodBy 12 = .ok (.if_icmp .ge 82, 3) := by decide +kernel
theorem dX13_woodBy_15 : decode cX13_woodBy 15 = .ok (.aload_n 0, 1) := by decide +kernel
theorem dX13_woodBy_16 : decode cX13_woodBy 16 = .ok (.getfield 431, 3) := by decide +kernel
theorem dX13_woodBy_19 : decode cX13_woodBy 19 = .ok (.getfield 307, 3) := by decide +kernel
theorem dX13_woodBy_22 : decode cX13_woodBy 22 = .ok (.iload_n 3, 1) := by decide +kernel
theorem dX13_woodBy_23 : decode cX13_woodBy 23 = .ok (.iaload, 1) := by decide +kernel
theorem dX13_woodBy_24 : decode cX13_woodBy 24 = .ok (.iconst 5, 1) := by decide +kernel
theorem dX13_woodBy_25 : decode cX13_woodBy 25 = .ok (.if_icmp .ne 15, 3) := by decide +kernel
theorem dX13_woodBy_28 : decode cX13_woodBy 28 = .ok (.aload_n 0, 1) := by decide +kernel
theorem dX13_woodBy_29 : decode cX13_woodBy 29 = .ok (.getfield 431, 3) := by decide +kernel
theorem dX13_woodBy_32 : decode cX13_woodBy 32 = .ok (.getfield 314, 3) := by decide +kernel
theorem dX13_woodBy_35 : decode cX13_woodBy 35 = .ok (.iload_n 3, 1) := by decide +kernel
theorem dX13_woodBy_36 : decode cX13_woodBy 36 = .ok (.iaload, 1) := by decide +kernel
theorem dX13_woodBy_37 : decode cX13_woodBy 37 = .ok (.goto 29, 3) := by decide +kernel
theorem dX13_woodBy_40 : decode cX13_woodBy 40 = .ok (.aload_n 0, 1) := by decide +kernel
theorem dX13_woodBy_41 : decode cX13_woodBy 41 = .ok (.getfield 431, 3) := by decide +kernel
theorem dX13_woodBy_44 : decode cX13_woodBy 44 = .ok (.getfield 307, 3) := by decide +kernel
theorem dX13_woodBy_47 : decode cX13_woodBy 47 = .ok (.iload_n 3, 1) := by decide +kernel
theorem dX13_woodBy_48 : decode cX13_woodBy 48 = .ok (.iaload, 1) := by decide +kernel
theorem dX13_woodBy_49 : decode cX13_woodBy 49 = .ok (.iconst 3, 1) := by decide +kernel
theorem dX13_woodBy_50 : decode cX13_woodBy 50 = .ok (.if_icmp .ne 15, 3) := by decide +kernel
theorem dX13_woodBy_53 : decode cX13_woodBy 53 = .ok (.aload_n 0, 1) := by decide +kernel
theorem dX13_woodBy_54 : decode cX13_woodBy 54 = .ok (.getfield 431, 3) := by decide +kernel
theorem dX13_woodBy_57 : decode cX13_woodBy 57 = .ok (.getfield 266, 3) := by decide +kernel
theorem dX13_woodBy_60 : decode cX13_woodBy 60 = .ok (.iconst 0, 1) := by decide +kernel
theorem dX13_woodBy_61 : decode cX13_woodBy 61 = .ok (.iaload, 1) := by decide +kernel
theorem dX13_woodBy_62 : decode cX13_woodBy 62 = .ok (.goto 4, 3) := by decide +kernel
theorem dX13_woodBy_65 : decode cX13_woodBy 65 = .ok (.iconst 0, 1) := by decide +kernel
theorem dX13_woodBy_66 : decode cX13_woodBy 66 = .ok (.istore 4, 2) := by decide +kernel
theorem dX13_woodBy_68 : decode cX13_woodBy 68 = .ok (.iload_n 2, 1) := by decide +kernel
theorem dX13_woodBy_69 : decode cX13_woodBy 69 = .ok (.aload_n 0, 1) := by decide +kernel
theorem dX13_woodBy_70 : decode cX13_woodBy 70 = .ok (.iload_n 1, 1) := by decide +kernel
theorem dX13_woodBy_71 : decode cX13_woodBy 71 = .ok (.aload_n 0, 1) := by decide +kernel
theorem dX13_woodBy_72 : decode cX13_woodBy 72 = .ok (.getfield 431, 3) := by decide +kernel
theorem dX13_woodBy_75 : decode cX13_woodBy 75 = .ok (.getfield 301, 3) := by decide +kernel
theorem dX13_woodBy_78 : decode cX13_woodBy 78 = .ok (.iload_n 3, 1) := by decide +kernel
theorem dX13_woodBy_79 : decode cX13_woodBy 79 = .ok (.iaload, 1) := by decide +kernel
theorem dX13_woodBy_80 : decode cX13_woodBy 80 = .ok (.invokevirtual 524, 3) := by decide +kernel
theorem dX13_woodBy_83 : decode cX13_woodBy 83 = .ok (.iload 4, 2) := by decide +kernel
theorem dX13_woodBy_85 : decode cX13_woodBy 85 = .ok (.imul, 1) := by decide +kernel
theorem dX13_woodBy_86 : decode cX13_woodBy 86 = .ok (.iadd, 1) := by decide +kernel
theorem dX13_woodBy_87 : decode cX13_woodBy 87 = .ok (.istore_n 2, 1) := by decide +kernel
theorem dX13_woodBy_88 : decode cX13_woodBy 88 = .ok (.iinc 3 1, 3) := by decide +kernel
theorem dX13_woodBy_91 : decode cX13_woodBy 91 = .ok (.goto (-87), 3) := by decide +kernel
theorem dX13_woodBy_94 : decode cX13_woodBy 94 = .ok (.iload_n 2, 1) := by decide +kernel
theorem dX13_woodBy_95 : decode cX13_woodBy 95 = .ok (.ireturn, 1) := by decide +kernel
set_option maxRecDepth 20000 in
theorem ggX13_wood_X13_isWay : GoodIn wsX13_wood wsX13_isWay := goodIn_r _ [6, 7, 26, 27, 28, 29, 30, 31, 32, 33, 34, 35, 36, 37, 38, 39, 40, 41, 42, 43, 44, 45, 46, 47, 48, 49, 50, 51, 52, 53, 54, 55, 56, 57, 58, 59, 60, 61, 62, 63, 64, 65, 66, 67, 68, 69, 70, 71, 72, 73, 74, 75, 76, 77, 78, 79, 80, 81, 82, 83, 84, 85, 86, 87, 88, 89, 90, 91, 92, 93, 94, 95, 96, 97, 98, 99, 100, 101, 102] rfl (by decide +kernel)
set_option maxRecDepth 20000 in
theorem gX13_wood_X13_isWay : GoodIn wsX13_wood (wsV RX13 444 RX13 yX13_isWay wsX13_isWay) := goodIn_app (goodIn_of _ (by decide +kernel)) ggX13_wood_X13_isWay
set_option maxRecDepth 20000 in
theorem ggX13_wood_X13_woodBy : GoodIn wsX13_wood wsX13_woodBy := goodIn_r _ [11, 7, 12, 13, 14, 5, 15, 26, 27, 28, 29, 30, 31, 32, 33, 34, 35, 36, 37, 38, 39, 40, 41, 42, 43, 44, 45, 46, 47, 48, 49, 50, 51, 52, 53, 54, 55, 56, 57, 58, 59, 60, 61, 62, 63, 64, 65, 66, 67, 68, 69, 70, 71, 72, 73, 74, 75, 76, 77, 78, 79, 80, 81, 82, 83, 84, 85, 86, 87, 88, 89, 90, 91, 92, 93, 94, 95, 96, 97, 98, 99, 100, 101, 102] rfl (by decide +kernel)
set_option maxRecDepth 20000 in
theorem gX13_wood_X13_woodBy : GoodIn wsX13_wood (wsV RX13 563 RX13 yX13_woodBy wsX13_woodBy) := goodIn_app (goodIn_of _ (by decide +kernel)) ggX13_wood_X13_woodBy
set_option maxRecDepth 20000 in
theorem ggX13_wood_X13_done : GoodIn wsX13_wood wsX13_done := goodIn_r _ [19, 20, 21, 26, 27, 28, 29, 30, 31, 32, 33, 34, 35, 36, 37, 38, 39, 40, 41, 42, 43, 44, 45, 46, 47, 48, 49, 50, 51, 52, 53, 54] rfl (by decide +kernel)
set_option maxRecDepth 20000 in
theorem gX13_wood_X13_done : GoodIn wsX13_wood (wsV RX13 40 RX13 yX13_done wsX13_done) := goodIn_app (goodIn_of _ (by decide +kernel)) ggX13_wood_X13_done
set_option maxRecDepth 20000 in
theorem ggX13_wood_X13_refused : GoodIn wsX13_wood wsX13_refused := goodIn_r _ [25, 20, 21, 26, 27, 28, 29, 30, 31, 32, 33, 34, 35, 36, 37, 38, 39, 40, 41, 42, 43, 44, 45, 46, 47, 48, 49, 50, 51, 52, 53, 54] rfl (by decide +kernel)
set_option maxRecDepth 20000 in
theorem gX13_wood_X13_refused : GoodIn wsX13_wood (wsV RX13 36 RX13 yX13_refused wsX13_refused) := goodIn_app (goodIn_of _ (by decide +kernel)) ggX13_wood_X13_refused
theorem dX13_wood_0 : decode cX13_wood 0 = .ok (.aload_n 0, 1) := by decide +kernel
theorem dX13_wood_1 : decode cX13_wood 1 = .ok (.iconst 0, 1) := by decide +kernel
theorem dX13_wood_2 : decode cX13_wood 2 = .ok (.putfield 30, 3) := by decide +kernel
theorem dX13_wood_5 : decode cX13_wood 5 = .ok (.aload_n 0, 1) := by decide +kernel
theorem dX13_wood_6 : decode cX13_wood 6 = .ok (.iload_n 1, 1) := by decide +kernel
theorem dX13_wood_7 : decode cX13_wood 7 = .ok (.invokevirtual 444, 3) := by decide +kernel
theorem dX13_wood_10 : decode cX13_wood 10 = .ok (.ifCond .eq 15, 3) := by decide +kernel
theorem dX13_wood_13 : decode cX13_wood 13 = .ok (.aload_n 0, 1) := by decide +kernel
theorem dX13_wood_14 : decode cX13_wood 14 = .ok (.aload_n 0, 1) := by decide +kernel
theorem dX13_wood_15 : decode cX13_wood 15 = .ok (.iload_n 1, 1) := by decide +kernel
theorem dX13_wood_16 : decode cX13_wood 16 = .ok (.invokevirtual 563, 3) := by decide +kernel
theorem dX13_wood_19 : decode cX13_wood 19 = .ok (.invokevirtual 40, 3) := by decide +kernel
theorem dX13_wood_22 : decode cX13_wood 22 = .ok (.goto 8, 3) := by decide +kernel
theorem dX13_wood_25 : decode cX13_wood 25 = .ok (.aload_n 0, 1) := by decide +kernel
theorem dX13_wood_26 : decode cX13_wood 26 = .ok (.iconst 1, 1) := by decide +kernel
theorem dX13_wood_27 : decode cX13_wood 27 = .ok (.invokevirtual 36, 3) := by decide +kernel
theorem dX13_wood_30 : decode cX13_wood 30 = .ok (.ireturn, 1) := by decide +kernel
set_option maxRecDepth 20000 in
theorem ggX13_enough_X13_isWay : GoodIn wsX13_enough wsX13_isWay := goodIn_r _ [7, 2, 26, 27, 28, 29, 30, 31, 32, 33, 34, 35, 36, 37, 38, 39, 40, 41, 42, 43, 44, 45, 46, 47, 48, 49, 50, 51, 52, 53, 54, 55, 56, 57, 58, 59, 60, 61, 62, 63, 64, 65, 66, 67, 68, 69, 70, 71, 72, 73, 74, 75, 76, 77, 78, 79, 80, 81, 82, 83, 84, 85, 86, 87, 88, 89, 90, 91, 92, 93, 94, 95, 96, 97, 98, 99, 100, 101, 102] rfl (by decide +kernel)
set_option maxRecDepth 20000 in
theorem gX13_enough_X13_isWay : GoodIn wsX13_enough (wsV RX13 444 RX13 yX13_isWay wsX13_isWay) := goodIn_app (goodIn_of _ (by decide +kernel)) ggX13_enough_X13_isWay
set_option maxRecDepth 20000 in
theorem ggX13_enough_X13_refused : GoodIn wsX13_enough wsX13_refused := goodIn_r _ [11, 12, 13, 26, 27, 28, 29, 30, 31, 32, 33, 34, 35, 36, 37, 38, 39, 40, 41, 42, 43, 44, 45, 46, 47, 48, 49, 50, 51, 52, 53, 54] rfl (by decide +kernel)
set_option maxRecDepth 20000 in
theorem gX13_enough_X13_refused : GoodIn wsX13_enough (wsV RX13 36 RX13 yX13_refused wsX13_refused) := goodIn_app (goodIn_of _ (by decide +kernel)) ggX13_enough_X13_refused
set_option maxRecDepth 20000 in
theorem ggX13_enough_X13_woodBy : GoodIn wsX13_enough wsX13_woodBy := goodIn_r _ [17, 2, 18, 19, 20, 6, 21, 26, 27, 28, 29, 30, 31, 32, 33, 34, 35, 36, 37, 38, 39, 40, 41, 42, 43, 44, 45, 46, 47, 48, 49, 50, 51, 52, 53, 54, 55, 56, 57, 58, 59, 60, 61, 62, 63, 64, 65, 66, 67, 68, 69, 70, 71, 72, 73, 74, 75, 76, 77, 78, 79, 80, 81, 82, 83, 84, 85, 86, 87, 88, 89, 90, 91, 92, 93, 94, 95, 96, 97, 98, 99, 100, 101, 102] rfl (by decide +kernel)
set_option maxRecDepth 20000 in
theorem gX13_enough_X13_woodBy : GoodIn wsX13_enough (wsV RX13 563 RX13 yX13_woodBy wsX13_woodBy) := goodIn_app (goodIn_of _ (by decide +kernel)) ggX13_enough_X13_woodBy
set_option maxRecDepth 20000 in
theorem ggX13_enough_X13_done : GoodIn wsX13_enough wsX13_done := goodIn_r _ [25, 12, 13, 26, 27, 28, 29, 30, 31, 32, 33, 34, 35, 36, 37, 38, 39, 40, 41, 42, 43, 44, 45, 46, 47, 48, 49, 50, 51, 52, 53, 54] rfl (by decide +kernel)
set_option maxRecDepth 20000 in
theorem gX13_enough_X13_done : GoodIn wsX13_enough (wsV RX13 40 RX13 yX13_done wsX13_done) := goodIn_app (goodIn_of _ (by decide +kernel)) ggX13_enough_X13_done
theorem dX13_enough_0 : decode cX13_enough 0 = .ok (.aload_n 0, 1) := by decide +kernel
theorem dX13_enough_1 : decode cX13_enough 1 = .ok (.iconst 0, 1) := by decide +kernel
theorem dX13_enough_2 : decode cX13_enough 2 = .ok (.putfield 30, 3) := by decide +kernel
theorem dX13_enough_5 : decode cX13_enough 5 = .ok (.aload_n 0, 1) := by decide +kernel
theorem dX13_enough_6 : decode cX13_enough 6 = .ok (.iload_n 1, 1) := by decide +kernel
theorem dX13_enough_7 : decode cX13_enough 7 = .ok (.invokevirtual 444, 3) := by decide +kernel
theorem dX13_enough_10 : decode cX13_enough 10 = .ok (.ifCond .ne 9, 3) := by decide +kernel
theorem dX13_enough_13 : decode cX13_enough 13 = .ok (.aload_n 0, 1) := by decide +kernel
theorem dX13_enough_14 : decode cX13_enough 14 = .ok (.iconst 1, 1) := by decide +kernel
theorem dX13_enough_15 : decode cX13_enough 15 = .ok (.invokevirtual 36, 3) := by decide +kernel
theorem dX13_enough_18 : decode cX13_enough 18 = .ok (.ireturn, 1) := by decide +kernel
theorem dX13_enough_19 : decode cX13_enough 19 = .ok (.aload_n 0, 1) := by decide +kernel
theorem dX13_enough_20 : decode cX13_enough 20 = .ok (.getfield 431, 3) := by decide +kernel
theorem dX13_enough_23 : decode cX13_enough 23 = .ok (.getfield 343, 3) := by decide +kernel
theorem dX13_enough_26 : decode cX13_enough 26 = .ok (.iconst (-1), 1) := by decide +kernel
theorem dX13_enough_27 : decode cX13_enough 27 = .ok (.if_icmp .ne 12, 3) := by decide +kernel
theorem dX13_enough_30 : decode cX13_enough 30 = .ok (.aload_n 0, 1) := by decide +kernel
theorem dX13_enough_31 : decode cX13_enough 31 = .ok (.bipush 6, 2) := by decide +kernel
theorem dX13_enough_33 : decode cX13_enough 33 = .ok (.invokevirtual 36, 3) := by decide +kernel
theorem dX13_enough_36 : decode cX13_enough 36 = .ok (.goto 30, 3) := by decide +kernel
theorem dX13_enough_39 : decode cX13_enough 39 = .ok (.aload_n 0, 1) := by decide +kernel
theorem dX13_enough_40 : decode cX13_enough 40 = .ok (.aload_n 0, 1) := by decide +kernel
theorem dX13_enough_41 : decode cX13_enough 41 = .ok (.iload_n 1, 1) := by decide +kernel
theorem dX13_enough_42 : decode cX13_enough 42 = .ok (.invokevirtual 563, 3) := by decide +kernel
theorem dX13_enough_45 : decode cX13_enough 45 = .ok (.bipush 10, 2) := by decide +kernel
theorem dX13_enough_47 : decode cX13_enough 47 = .ok (.aload_n 0, 1) := by decide +kernel
theorem dX13_enough_48 : decode cX13_enough 48 = .ok (.getfield 431, 3) := by decide +kernel
theorem dX13_enough_51 : decode cX13_enough 51 = .ok (.getfield 343, 3) := by decide +kernel
theorem dX13_enough_54 : decode cX13_enough 54 = .ok (.imul, 1) := by decide +kernel
theorem dX13_enough_55 : decode cX13_enough 55 = .ok (.if_icmp .gt 7, 3) := by decide +kernel
theorem dX13_enough_58 : decode cX13_enough 58 = .ok (.iconst 1, 1) := by decide +kernel
theorem dX13_enough_59 : decode cX13_enough 59 = .ok (.goto 4, 3) := by decide +kernel
theorem dX13_enough_62 : decode cX13_enough 62 = .ok (.iconst 0, 1) := by decide +kernel
theorem dX13_enough_63 : decode cX13_enough 63 = .ok (.invokevirtual 40, 3) := by decide +kernel
theorem dX13_enough_66 : decode cX13_enough 66 = .ok (.ireturn, 1) := by decide +kernel
theorem dX13_treesAfter_0 : decode cX13_treesAfter 0 = .ok (.aload_n 0, 1) := by decide +kernel
theorem dX13_treesAfter_1 : decode cX13_treesAfter 1 = .ok (.getfield 431, 3) := by decide +kernel
theorem dX13_treesAfter_4 : decode cX13_treesAfter 4 = .ok (.getfield 385, 3) := by decide +kernel
theorem dX13_treesAfter_7 : decode cX13_treesAfter 7 = .ok (.iload_n 1, 1) := by decide +kernel
theorem dX13_treesAfter_8 : decode cX13_treesAfter 8 = .ok (.iaload, 1) := by decide +kernel
theorem dX13_treesAfter_9 : decode cX13_treesAfter 9 = .ok (.istore 4, 2) := by decide +kernel
theorem dX13_treesAfter_11 : decode cX13_treesAfter 11 = .ok (.aload_n 0, 1) := by decide +kernel
theorem dX13_treesAfter_12 : decode cX13_treesAfter 12 = .ok (.getfield 431, 3) := by decide +kernel
theorem dX13_treesAfter_15 : decode cX13_treesAfter 15 = .ok (.getfield 388, 3) := by decide +kernel
theorem dX13_treesAfter_18 : decode cX13_treesAfter 18 = .ok (.iload_n 1, 1) := by decide +kernel
theorem dX13_treesAfter_19 : decode cX13_treesAfter 19 = .ok (.iaload, 1) := by decide +kernel
theorem dX13_treesAfter_20 : decode cX13_treesAfter 20 = .ok (.istore 5, 2) := by decide +kernel
theorem dX13_treesAfter_22 : decode cX13_treesAfter 22 = .ok (.iload_n 2, 1) := by decide +kernel
theorem dX13_treesAfter_23 : decode cX13_treesAfter 23 = .ok (.aload_n 0, 1) := by decide +kernel
theorem dX13_treesAfter_24 : decode cX13_treesAfter 24 = .ok (.getfield 431, 3) := by decide +kernel
theorem dX13_treesAfter_27 : decode cX13_treesAfter 27 = .ok (.getfield 349, 3) := by decide +kernel
theorem dX13_treesAfter_30 : decode cX13_treesAfter 30 = .ok (.imul, 1) := by decide +kernel
theorem dX13_treesAfter_31 : decode cX13_treesAfter 31 = .ok (.bipush 100, 2) := by decide +kernel
theorem dX13_treesAfter_33 : decode cX13_treesAfter 33 = .ok (.idiv, 1) := by decide +kernel
theorem dX13_treesAfter_34 : decode cX13_treesAfter 34 = .ok (.istore 6, 2) := by decide +kernel
theorem dX13_treesAfter_36 : decode cX13_treesAfter 36 = .ok (.iload 4, 2) := by decide +kernel
theorem dX13_treesAfter_38 : decode cX13_treesAfter 38 = .ok (.iconst 1, 1) := by decide +kernel
theorem dX13_treesAfter_39 : decode cX13_treesAfter 39 = .ok (.if_icmp .ne 16, 3) := by decide +kernel
theorem dX13_treesAfter_42 : decode cX13_treesAfter 42 = .ok (.iload 6, 2) := by decide +kernel
theorem dX13_treesAfter_44 : decode cX13_treesAfter 44 = .ok (.bipush 100, 2) := by decide +kernel
theorem dX13_treesAfter_46 : decode cX13_treesAfter 46 = .ok (.iload 5, 2) := by decide +kernel
theorem dX13_treesAfter_48 : decode cX13_treesAfter 48 = .ok (.isub, 1) := by decide +kernel
theorem dX13_treesAfter_49 : decode cX13_treesAfter 49 = .ok (.imul, 1) := by decide +kernel
theorem dX13_treesAfter_50 : decode cX13_treesAfter 50 = .ok (.bipush 100, 2) := by decide +kernel
theorem dX13_treesAfter_52 : decode cX13_treesAfter 52 = .ok (.idiv, 1) := by decide +kernel
theorem dX13_treesAfter_53 : decode cX13_treesAfter 53 = .ok (.istore 6, 2) := by decide +kernel
theorem dX13_treesAfter_55 : decode cX13_treesAfter 55 = .ok (.iload_n 2, 1) := by decide +kernel
theorem dX13_treesAfter_56 : decode cX13_treesAfter 56 = .ok (.iconst 2, 1) := by decide +kernel
theorem dX13_treesAfter_57 : decode cX13_treesAfter 57 = .ok (.imul, 1) := by decide +kernel
theorem dX13_treesAfter_58 : decode cX13_treesAfter 58 = .ok (.bipush 100, 2) := by decide +kernel
theorem dX13_treesAfter_60 : decode cX13_treesAfter 60 = .ok (.idiv, 1) := by decide +kernel
theorem dX13_treesAfter_61 : decode cX13_treesAfter 61 = .ok (.istore 7, 2) := by decide +kernel
theorem dX13_treesAfter_63 : decode cX13_treesAfter 63 = .ok (.iload 4, 2) := by decide +kernel
theorem dX13_treesAfter_65 : decode cX13_treesAfter 65 = .ok (.ifCond .ne 21, 3) := by decide +kernel
theorem dX13_treesAfter_68 : decode cX13_treesAfter 68 = .ok (.iload 7, 2) := by decide +kernel
theorem dX13_treesAfter_70 : decode cX13_treesAfter 70 = .ok (.iload 5, 2) := by decide +kernel
theorem dX13_treesAfter_72 : decode cX13_treesAfter 72 = .ok (.aload_n 0, 1) := by decide +kernel
theorem dX13_treesAfter_73 : decode cX13_treesAfter 73 = .ok (.getfield 431, 3) := by decide +kernel
theorem dX13_treesAfter_76 : decode cX13_treesAfter 76 = .ok (.getfield 351, 3) := by decide +kernel
theorem dX13_treesAfter_79 : decode cX13_treesAfter 79 = .ok (.imul, 1) := by decide +kernel
theorem dX13_treesAfter_80 : decode cX13_treesAfter 80 = .ok (.bipush 100, 2) := by decide +kernel
theorem dX13_treesAfter_82 : decode cX13_treesAfter 82 = .ok (.idiv, 1) := by decide +kernel
theorem dX13_treesAfter_83 : decode cX13_treesAfter 83 = .ok (.iadd, 1) := by decide +kernel
theorem dX13_treesAfter_84 : decode cX13_treesAfter 84 = .ok (.istore 7, 2) := by decide +kernel
theorem dX13_treesAfter_86 : decode cX13_treesAfter 86 = .ok (.iload 4, 2) := by decide +kernel
theorem dX13_treesAfter_88 : decode cX13_treesAfter 88 = .ok (.iconst 2, 1) := by decide +kernel
theorem dX13_treesAfter_89 : decode cX13_treesAfter 89 = .ok (.if_icmp .ne 29, 3) := by decide +kernel
theorem dX13_treesAfter_92 : decode cX13_treesAfter 92 = .ok (.iload_n 3, 1) := by decide +kernel
theorem dX13_treesAfter_93 : decode cX13_treesAfter 93 = .ok (.aload_n 0, 1) := by decide +kernel
theorem dX13_treesAfter_94 : decode cX13_treesAfter 94 = .ok (.getfield 431, 3) := by decide +kernel
theorem dX13_treesAfter_97 : decode cX13_treesAfter 97 = .ok (.getfield 391, 3) := by decide +kernel
theorem dX13_treesAfter_100 : decode cX13_treesAfter 100 = .ok (.iload_n 1, 1) := by decide +kernel
theorem dX13_treesAfter_101 : decode cX13_treesAfter 101 = .ok (.iaload, 1) := by decide +kernel
theorem dX13_treesAfter_102 : decode cX13_treesAfter 102 = .ok (.irem, 1) := by decide +kernel
theorem dX13_treesAfter_103 : decode cX13_treesAfter 103 = .ok (.ifCond .ne 15, 3) := by decide +kernel
theorem dX13_treesAfter_106 : decode cX13_treesAfter 106 = .ok (.iload 7, 2) := by decide +kernel
theorem dX13_treesAfter_108 : decode cX13_treesAfter 108 = .ok (.iload_n 2, 1) := by decide +kernel
theorem dX13_treesAfter_109 : decode cX13_treesAfter 109 = .ok (.iload 5, 2) := by decide +kernel
theorem dX13_treesAfter_111 : decode cX13_treesAfter 111 = .ok (.imul, 1) := by decide +kernel
theorem dX13_treesAfter_112 : decode cX13_treesAfter 112 = .ok (.bipush 100, 2) := by decide +kernel
theorem dX13_treesAfter_114 : decode cX13_treesAfter 114 = .ok (.idiv, 1) := by decide +kernel
theorem dX13_treesAfter_115 : decode cX13_treesAfter 115 = .ok (.iadd, 1) := by decide +kernel
theorem dX13_treesAfter_116 : decode cX13_treesAfter 116 = .ok (.istore 7, 2) := by decide +kernel
theorem dX13_treesAfter_118 : decode cX13_treesAfter 118 = .ok (.iload_n 2, 1) := by decide +kernel
theorem dX13_treesAfter_119 : decode cX13_treesAfter 119 = .ok (.iload 6, 2) := by decide +kernel
theorem dX13_treesAfter_121 : decode cX13_treesAfter 121 = .ok (.iadd, 1) := by decide +kernel
theorem dX13_treesAfter_122 : decode cX13_treesAfter 122 = .ok (.iload 7, 2) := by decide +kernel
theorem dX13_treesAfter_124 : decode cX13_treesAfter 124 = .ok (.isub, 1) := by decide +kernel
theorem dX13_treesAfter_125 : decode cX13_treesAfter 125 = .ok (.istore 8, 2) := by decide +kernel
theorem dX13_treesAfter_127 : decode cX13_treesAfter 127 = .ok (.iload 8, 2) := by decide +kernel
theorem dX13_treesAfter_129 : decode cX13_treesAfter 129 = .ok (.ifCond .ge 7, 3) := by decide +kernel
theorem dX13_treesAfter_132 : decode cX13_treesAfter 132 = .ok (.iconst 0, 1) := by decide +kernel
theorem dX13_treesAfter_133 : decode cX13_treesAfter 133 = .ok (.goto 19, 3) := by decide +kernel
theorem dX13_treesAfter_136 : decode cX13_treesAfter 136 = .ok (.iload 8, 2) := by decide +kernel
theorem dX13_treesAfter_138 : decode cX13_treesAfter 138 = .ok (.sipush 9999, 3) := by decide +kernel
theorem dX13_treesAfter_141 : decode cX13_treesAfter 141 = .ok (.if_icmp .le 9, 3) := by decide +kernel
theorem dX13_treesAfter_144 : decode cX13_treesAfter 144 = .ok (.sipush 9999, 3) := by decide +kernel
theorem dX13_treesAfter_147 : decode cX13_treesAfter 147 = .ok (.goto 5, 3) := by decide +kernel
theorem dX13_treesAfter_150 : decode cX13_treesAfter 150 = .ok (.iload 8, 2) := by decide +kernel
theorem dX13_treesAfter_152 : decode cX13_treesAfter 152 = .ok (.ireturn, 1) := by decide +kernel
set_option maxRecDepth 20000 in
theorem ggX13_treesIn_X13_treesAfter : GoodIn wsX13_treesIn wsX13_treesAfter := goodIn_r _ [6, 1, 7, 8, 9, 10, 11, 12, 13, 14, 15, 16, 17, 18, 19, 20, 21, 22, 23, 24, 25, 26, 27, 28, 29, 30, 31, 32, 33, 34, 35, 36, 37, 38, 39, 40, 41, 42, 43, 44, 45, 46, 47, 48, 49, 50, 51, 52, 53, 54, 55, 56, 57, 58, 59, 60, 61, 62, 63, 64, 65, 66, 67, 68, 69, 70, 71, 72, 73, 74, 75, 76, 77, 78, 79, 80, 81, 82, 83] rfl (by decide +kernel)
set_option maxRecDepth 20000 in
theorem gX13_treesIn_X13_treesAfter : GoodIn wsX13_treesIn (wsV RX13 566 RX13 yX13_treesAfter wsX13_treesAfter) := goodIn_app (goodIn_of _ (by decide +kernel)) ggX13_treesIn_X13_treesAfter
theorem dX13_treesIn_0 : decode cX13_treesIn 0 = .ok (.aload_n 0, 1) := by decide +kernel
theorem dX13_treesIn_1 : decode cX13_treesIn 1 = .ok (.getfield 431, 3) := by decide +kernel
theorem dX13_treesIn_4 : decode cX13_treesIn 4 = .ok (.getfield 343, 3) := by decide +kernel
theorem dX13_treesIn_7 : decode cX13_treesIn 7 = .ok (.istore_n 3, 1) := by decide +kernel
theorem dX13_treesIn_8 : decode cX13_treesIn 8 = .ok (.iconst 1, 1) := by decide +kernel
theorem dX13_treesIn_9 : decode cX13_treesIn 9 = .ok (.istore 4, 2) := by decide +kernel
theorem dX13_treesIn_11 : decode cX13_treesIn 11 = .ok (.iload 4, 2) := by decide +kernel
theorem dX13_treesIn_13 : decode cX13_treesIn 13 = .ok (.iload_n 2, 1) := by decide +kernel
theorem dX13_treesIn_14 : decode cX13_treesIn 14 = .ok (.if_icmp .gt 18, 3) := by decide +kernel
theorem dX13_treesIn_17 : decode cX13_treesIn 17 = .ok (.aload_n 0, 1) := by decide +kernel
theorem dX13_treesIn_18 : decode cX13_treesIn 18 = .ok (.iload_n 1, 1) := by decide +kernel
theorem dX13_treesIn_19 : decode cX13_treesIn 19 = .ok (.iload_n 3, 1) := by decide +kernel
theorem dX13_treesIn_20 : decode cX13_treesIn 20 = .ok (.iload 4, 2) := by decide +kernel
theorem dX13_treesIn_22 : decode cX13_treesIn 22 = .ok (.invokevirtual 566, 3) := by decide +kernel
theorem dX13_treesIn_25 : decode cX13_treesIn 25 = .ok (.istore_n 3, 1) := by decide +kernel
theorem dX13_treesIn_26 : decode cX13_treesIn 26 = .ok (.iinc 4 1, 3) := by decide +kernel
theorem dX13_treesIn_29 : decode cX13_treesIn 29 = .ok (.goto (-18), 3) := by decide +kernel
theorem dX13_treesIn_32 : decode cX13_treesIn 32 = .ok (.iload_n 3, 1) := by decide +kernel
theorem dX13_treesIn_33 : decode cX13_treesIn 33 = .ok (.ireturn, 1) := by decide +kernel
set_option maxRecDepth 20000 in
theorem ggX13_trees_X13_isStory : GoodIn wsX13_trees wsX13_isStory := goodIn_r _ [7, 2, 29, 30, 31, 32, 33, 34, 35, 36, 37, 38, 39, 40, 41, 42, 43, 44, 45, 46, 47, 48, 49, 50, 51, 52, 53, 54, 55, 56, 57, 58, 59, 60, 61, 62, 63, 64, 65, 66, 67, 68, 69, 70, 71, 72, 73, 74, 75, 76, 77, 78, 79, 80, 81, 82, 83, 84, 85, 86, 87, 88, 89, 90, 91, 92, 93, 94, 95, 96, 97, 98, 99, 100, 101, 102, 103, 104, 105] rfl (by decide +kernel)
set_option maxRecDepth 20000 in
theorem gX13_trees_X13_isStory : GoodIn wsX13_trees (wsV RX13 569 RX13 yX13_isStory wsX13_isStory) := goodIn_app (goodIn_of _ (by decide +kernel)) ggX13_trees_X13_isStory
set_option maxRecDepth 20000 in
theorem ggX13_trees_X13_refused : GoodIn wsX13_trees wsX13_refused := goodIn_r _ [11, 12, 13, 29, 30, 31, 32, 33, 34, 35, 36, 37, 38, 39, 40, 41, 42, 43, 44, 45, 46, 47, 48, 49, 50, 51, 52, 53, 54, 55, 56, 57] rfl (by decide +kernel)
set_option maxRecDepth 20000 in
theorem gX13_trees_X13_refused : GoodIn wsX13_trees (wsV RX13 36 RX13 yX13_refused wsX13_refused) := goodIn_app (goodIn_of _ (by decide +kernel)) ggX13_trees_X13_refused
set_option maxRecDepth 20000 in
theorem ggX13_trees_X13_in : GoodIn wsX13_trees wsX13_in := goodIn_r _ [16] rfl (by decide +kernel)
set_option maxRecDepth 20000 in
theorem gX13_trees_X13_in : GoodIn wsX13_trees (va_wsS RX13 108 yX13_in wsX13_in) := goodIn_app (goodIn_of _ (by decide +kernel)) ggX13_trees_X13_in
set_option maxRecDepth 20000 in
theorem ggX13_trees_X13_treesIn : GoodIn wsX13_trees wsX13_treesIn := goodIn_r _ [20, 2, 21, 22, 23, 6, 24, 29, 30, 31, 32, 33, 34, 35, 36, 37, 38, 39, 40, 41, 42, 43, 44, 45, 46, 47, 48, 49, 50, 51, 52, 53, 54, 55, 56, 57, 58, 59, 60, 61, 62, 63, 64, 65, 66, 67, 68, 69, 70, 71, 72, 73, 74, 75, 76, 77, 78, 79, 80, 81, 82, 83, 84, 85, 86, 87, 88, 89, 90, 91, 92, 93, 94, 95, 96, 97, 98, 99, 100, 101, 102, 103, 104, 105] rfl (by decide +kernel)
set_option maxRecDepth 20000 in
theorem gX13_trees_X13_treesIn : GoodIn wsX13_trees (wsV RX13 572 RX13 yX13_treesIn wsX13_treesIn) := goodIn_app (goodIn_of _ (by decide +kernel)) ggX13_trees_X13_treesIn
set_option maxRecDepth 20000 in
theorem ggX13_trees_X13_done : GoodIn wsX13_trees wsX13_done := goodIn_r _ [28, 12, 13, 29, 30, 31, 32, 33, 34, 35, 36, 37, 38, 39, 40, 41, 42, 43, 44, 45, 46, 47, 48, 49, 50, 51, 52, 53, 54, 55, 56, 57] rfl (by decide +kernel)
set_option maxRecDepth 20000 in
theorem gX13_trees_X13_done : GoodIn wsX13_trees (wsV RX13 40 RX13 yX13_done wsX13_done) := goodIn_app (goodIn_of _ (by decide +kernel)) ggX13_trees_X13_done
theorem dX13_trees_0 : decode cX13_trees 0 = .ok (.aload_n 0, 1) := by decide +kernel
theorem dX13_trees_1 : decode cX13_trees 1 = .ok (.iconst 0, 1) := by decide +kernel
theorem dX13_trees_2 : decode cX13_trees 2 = .ok (.putfield 30, 3) := by decide +kernel
theorem dX13_trees_5 : decode cX13_trees 5 = .ok (.aload_n 0, 1) := by decide +kernel
theorem dX13_trees_6 : decode cX13_trees 6 = .ok (.iload_n 1, 1) := by decide +kernel
theorem dX13_trees_7 : decode cX13_trees 7 = .ok (.invokevirtual 569, 3) := by decide +kernel
theorem dX13_trees_10 : decode cX13_trees 10 = .ok (.ifCond .ne 9, 3) := by decide +kernel
theorem dX13_trees_13 : decode cX13_trees 13 = .ok (.aload_n 0, 1) := by decide +kernel
theorem dX13_trees_14 : decode cX13_trees 14 = .ok (.iconst 1, 1) := by decide +kernel
theorem dX13_trees_15 : decode cX13_trees 15 = .ok (.invokevirtual 36, 3) := by decide +kernel
theorem dX13_trees_18 : decode cX13_trees 18 = .ok (.ireturn, 1) := by decide +kernel
theorem dX13_trees_19 : decode cX13_trees 19 = .ok (.iload_n 2, 1) := by decide +kernel
theorem dX13_trees_20 : decode cX13_trees 20 = .ok (.iconst 0, 1) := by decide +kernel
theorem dX13_trees_21 : decode cX13_trees 21 = .ok (.bipush 99, 2) := by decide +kernel
theorem dX13_trees_23 : decode cX13_trees 23 = .ok (.invokestatic 108, 3) := by decide +kernel
theorem dX13_trees_26 : decode cX13_trees 26 = .ok (.ifCond .ne 9, 3) := by decide +kernel
theorem dX13_trees_29 : decode cX13_trees 29 = .ok (.aload_n 0, 1) := by decide +kernel
theorem dX13_trees_30 : decode cX13_trees 30 = .ok (.iconst 2, 1) := by decide +kernel
theorem dX13_trees_31 : decode cX13_trees 31 = .ok (.invokevirtual 36, 3) := by decide +kernel
theorem dX13_trees_34 : decode cX13_trees 34 = .ok (.ireturn, 1) := by decide +kernel
theorem dX13_trees_35 : decode cX13_trees 35 = .ok (.aload_n 0, 1) := by decide +kernel
theorem dX13_trees_36 : decode cX13_trees 36 = .ok (.getfield 431, 3) := by decide +kernel
theorem dX13_trees_39 : decode cX13_trees 39 = .ok (.getfield 343, 3) := by decide +kernel
theorem dX13_trees_42 : decode cX13_trees 42 = .ok (.iconst (-1), 1) := by decide +kernel
theorem dX13_trees_43 : decode cX13_trees 43 = .ok (.if_icmp .ne 12, 3) := by decide +kernel
theorem dX13_trees_46 : decode cX13_trees 46 = .ok (.aload_n 0, 1) := by decide +kernel
theorem dX13_trees_47 : decode cX13_trees 47 = .ok (.bipush 6, 2) := by decide +kernel
theorem dX13_trees_49 : decode cX13_trees 49 = .ok (.invokevirtual 36, 3) := by decide +kernel
theorem dX13_trees_52 : decode cX13_trees 52 = .ok (.goto 13, 3) := by decide +kernel
theorem dX13_trees_55 : decode cX13_trees 55 = .ok (.aload_n 0, 1) := by decide +kernel
theorem dX13_trees_56 : decode cX13_trees 56 = .ok (.aload_n 0, 1) := by decide +kernel
theorem dX13_trees_57 : decode cX13_trees 57 = .ok (.iload_n 1, 1) := by decide +kernel
theorem dX13_trees_58 : decode cX13_trees 58 = .ok (.iload_n 2, 1) := by decide +kernel
theorem dX13_trees_59 : decode cX13_trees 59 = .ok (.invokevirtual 572, 3) := by decide +kernel
theorem dX13_trees_62 : decode cX13_trees 62 = .ok (.invokevirtual 40, 3) := by decide +kernel
theorem dX13_trees_65 : decode cX13_trees 65 = .ok (.ireturn, 1) := by decide +kernel
set_option maxRecDepth 20000 in
theorem ggX13_see_X13_refused : GoodIn wsX13_see wsX13_refused := goodIn_r _ [11, 12, 13, 21, 22, 23, 24, 25, 26, 27, 28, 29, 30, 31, 32, 33, 34, 35, 36, 37, 38, 39, 40, 41, 42, 43, 44, 45, 46, 47, 48, 49] rfl (by decide +kernel)
set_option maxRecDepth 20000 in
theorem gX13_see_X13_refused : GoodIn wsX13_see (wsV RX13 36 RX13 yX13_refused wsX13_refused) := goodIn_app (goodIn_of _ (by decide +kernel)) ggX13_see_X13_refused
set_option maxRecDepth 20000 in
theorem ggX13_see_X13_in : GoodIn wsX13_see wsX13_in := goodIn_r _ [16] rfl (by decide +kernel)
set_option maxRecDepth 20000 in
theorem gX13_see_X13_in : GoodIn wsX13_see (va_wsS RX13 108 yX13_in wsX13_in) := goodIn_app (goodIn_of _ (by decide +kernel)) ggX13_see_X13_in
set_option maxRecDepth 20000 in
theorem ggX13_see_X13_done : GoodIn wsX13_see wsX13_done := goodIn_r _ [20, 12, 13, 21, 22, 23, 24, 25, 26, 27, 28, 29, 30, 31, 32, 33, 34, 35, 36, 37, 38, 39, 40, 41, 42, 43, 44, 45, 46, 47, 48, 49] rfl (by decide +kernel)
set_option maxRecDepth 20000 in
theorem gX13_see_X13_done : GoodIn wsX13_see (wsV RX13 40 RX13 yX13_done wsX13_done) := goodIn_app (goodIn_of _ (by decide +kernel)) ggX13_see_X13_done
theorem dX13_see_0 : decode cX13_see 0 = .ok (.aload_n 0, 1) := by decide +kernel
theorem dX13_see_1 : decode cX13_see 1 = .ok (.iconst 0, 1) := by decide +kernel
theorem dX13_see_2 : decode cX13_see 2 = .ok (.putfield 30, 3) := by decide +kernel
theorem dX13_see_5 : decode cX13_see 5 = .ok (.aload_n 0, 1) := by decide +kernel
theorem dX13_see_6 : decode cX13_see 6 = .ok (.getfield 431, 3) := by decide +kernel
theorem dX13_see_9 : decode cX13_see 9 = .ok (.ifnonnull 9, 3) := by decide +kernel
theorem dX13_see_12 : decode cX13_see 12 = .ok (.aload_n 0, 1) := by decide +kernel
theorem dX13_see_13 : decode cX13_see 13 = .ok (.iconst 1, 1) := by decide +kernel
theorem dX13_see_14 : decode cX13_see 14 = .ok (.invokevirtual 36, 3) := by decide +kernel
theorem dX13_see_17 : decode cX13_see 17 = .ok (.ireturn, 1) := by decide +kernel
theorem dX13_see_18 : decode cX13_see 18 = .ok (.iload_n 1, 1) := by decide +kernel
theorem dX13_see_19 : decode cX13_see 19 = .ok (.iconst 0, 1) := by decide +kernel
theorem dX13_see_20 : decode cX13_see 20 = .ok (.bipush 99, 2) := by decide +kernel
theorem dX13_see_22 : decode cX13_see 22 = .ok (.invokestatic 108, 3) := by decide +kernel
theorem dX13_see_25 : decode cX13_see 25 = .ok (.ifCond .eq 25, 3) := by decide +kernel
theorem dX13_see_28 : decode cX13_see 28 = .ok (.iload_n 2, 1) := by decide +kernel
theorem dX13_see_29 : decode cX13_see 29 = .ok (.iconst 0, 1) := by decide +kernel
theorem dX13_see_30 : decode cX13_see 30 = .ok (.sipush 9999, 3) := by decide +kernel
theorem dX13_see_33 : decode cX13_see 33 = .ok (.invokestatic 108, 3) := by decide +kernel
theorem dX13_see_36 : decode cX13_see 36 = .ok (.ifCond .eq 14, 3) := by decide +kernel
theorem dX13_see_39 : decode cX13_see 39 = .ok (.iload_n 3, 1) := by decide +kernel
theorem dX13_see_40 : decode cX13_see 40 = .ok (.iconst 0, 1) := by decide +kernel
theorem dX13_see_41 : decode cX13_see 41 = .ok (.sipush 999, 3) := by decide +kernel
theorem dX13_see_44 : decode cX13_see 44 = .ok (.invokestatic 108, 3) := by decide +kernel
theorem dX13_see_47 : decode cX13_see 47 = .ok (.ifCond .ne 9, 3) := by decide +kernel
theorem dX13_see_50 : decode cX13_see 50 = .ok (.aload_n 0, 1) := by decide +kernel
theorem dX13_see_51 : decode cX13_see 51 = .ok (.iconst 2, 1) := by decide +kernel
theorem dX13_see_52 : decode cX13_see 52 = .ok (.invokevirtual 36, 3) := by decide +kernel
theorem dX13_see_55 : decode cX13_see 55 = .ok (.ireturn, 1) := by decide +kernel
theorem dX13_see_56 : decode cX13_see 56 = .ok (.aload_n 0, 1) := by decide +kernel
theorem dX13_see_57 : decode cX13_see 57 = .ok (.getfield 434, 3) := by decide +kernel
theorem dX13_see_60 : decode cX13_see 60 = .ok (.bipush 12, 2) := by decide +kernel
theorem dX13_see_62 : decode cX13_see 62 = .ok (.if_icmp .ne 9, 3) := by decide +kernel
theorem dX13_see_65 : decode cX13_see 65 = .ok (.aload_n 0, 1) := by decide +kernel
theorem dX13_see_66 : decode cX13_see 66 = .ok (.iconst 3, 1) := by decide +kernel
theorem dX13_see_67 : decode cX13_see 67 = .ok (.invokevirtual 36, 3) := by decide +kernel
theorem dX13_see_70 : decode cX13_see 70 = .ok (.ireturn, 1) := by decide +kernel
theorem dX13_see_71 : decode cX13_see 71 = .ok (.aload_n 0, 1) := by decide +kernel
theorem dX13_see_72 : decode cX13_see 72 = .ok (.getfield 20, 3) := by decide +kernel
theorem dX13_see_75 : decode cX13_see 75 = .ok (.aload_n 0, 1) := by decide +kernel
theorem dX13_see_76 : decode cX13_see 76 = .ok (.getfield 434, 3) := by decide +kernel
theorem dX13_see_79 : decode cX13_see 79 = .ok (.iload_n 1, 1) := by decide +kernel
theorem dX13_see_80 : decode cX13_see 80 = .ok (.iastore, 1) := by decide +kernel
theorem dX13_see_81 : decode cX13_see 81 = .ok (.aload_n 0, 1) := by decide +kernel
theorem dX13_see_82 : decode cX13_see 82 = .ok (.getfield 24, 3) := by decide +kernel
theorem dX13_see_85 : decode cX13_see 85 = .ok (.aload_n 0, 1) := by decide +kernel
theorem dX13_see_86 : decode cX13_see 86 = .ok (.getfield 434, 3) := by decide +kernel
theorem dX13_see_89 : decode cX13_see 89 = .ok (.iload_n 2, 1) := by decide +kernel
theorem dX13_see_90 : decode cX13_see 90 = .ok (.iastore, 1) := by decide +kernel
theorem dX13_see_91 : decode cX13_see 91 = .ok (.aload_n 0, 1) := by decide +kernel
theorem dX13_see_92 : decode cX13_see 92 = .ok (.getfield 27, 3) := by decide +kernel
theorem dX13_see_95 : decode cX13_see 95 = .ok (.aload_n 0, 1) := by decide +kernel
theorem dX13_see_96 : decode cX13_see 96 = .ok (.getfield 434, 3) := by decide +kernel
theorem dX13_see_99 : decode cX13_see 99 = .ok (.iload_n 3, 1) := by decide +kernel
theorem dX13_see_100 : decode cX13_see 100 = .ok (.iastore, 1) := by decide +kernel
theorem dX13_see_101 : decode cX13_see 101 = .ok (.aload_n 0, 1) := by decide +kernel
theorem dX13_see_102 : decode cX13_see 102 = .ok (.dup, 1) := by decide +kernel
theorem dX13_see_103 : decode cX13_see 103 = .ok (.getfield 434, 3) := by decide +kernel
theorem dX13_see_106 : decode cX13_see 106 = .ok (.iconst 1, 1) := by decide +kernel
theorem dX13_see_107 : decode cX13_see 107 = .ok (.iadd, 1) := by decide +kernel
theorem dX13_see_108 : decode cX13_see 108 = .ok (.putfield 434, 3) := by decide +kernel
theorem dX13_see_111 : decode cX13_see 111 = .ok (.aload_n 0, 1) := by decide +kernel
theorem dX13_see_112 : decode cX13_see 112 = .ok (.aload_n 0, 1) := by decide +kernel
theorem dX13_see_113 : decode cX13_see 113 = .ok (.getfield 434, 3) := by decide +kernel
theorem dX13_see_116 : decode cX13_see 116 = .ok (.invokevirtual 40, 3) := by decide +kernel
theorem dX13_see_119 : decode cX13_see 119 = .ok (.ireturn, 1) := by decide +kernel
theorem dX13_forget_0 : decode cX13_forget 0 = .ok (.aload_n 0, 1) := by decide +kernel
theorem dX13_forget_1 : decode cX13_forget 1 = .ok (.iconst 0, 1) := by decide +kernel
theorem dX13_forget_2 : decode cX13_forget 2 = .ok (.putfield 30, 3) := by decide +kernel
theorem dX13_forget_5 : decode cX13_forget 5 = .ok (.aload_n 0, 1) := by decide +kernel
theorem dX13_forget_6 : decode cX13_forget 6 = .ok (.getfield 434, 3) := by decide +kernel
theorem dX13_forget_9 : decode cX13_forget 9 = .ok (.istore_n 1, 1) := by decide +kernel
theorem dX13_forget_10 : decode cX13_forget 10 = .ok (.aload_n 0, 1) := by decide +kernel
theorem dX13_forget_11 : decode cX13_forget 11 = .ok (.iconst 0, 1) := by decide +kernel
theorem dX13_forget_12 : decode cX13_forget 12 = .ok (.putfield 434, 3) := by decide +kernel
theorem dX13_forget_15 : decode cX13_forget 15 = .ok (.iload_n 1, 1) := by decide +kernel
theorem dX13_forget_16 : decode cX13_forget 16 = .ok (.ireturn, 1) := by decide +kernel
set_option maxRecDepth 20000 in
theorem ggX13_isFit_X13_treesIn : GoodIn wsX13_isFit wsX13_treesIn := goodIn_r _ [9, 10, 11, 12, 13, 8, 14, 15, 16, 17, 18, 19, 20, 21, 22, 23, 24, 25, 26, 27, 28, 29, 30, 31, 32, 33, 34, 35, 36, 37, 38, 39, 40, 41, 42, 43, 44, 45, 46, 47, 48, 49, 50, 51, 52, 53, 54, 55, 56, 57, 58, 59, 60, 61, 62, 63, 64, 65, 66, 67, 68, 69, 70, 71, 72, 73, 74, 75, 76, 77, 78, 79, 80, 81, 82, 83, 84, 85, 86, 87, 88, 89, 90, 91] rfl (by decide +kernel)
set_option maxRecDepth 20000 in
theorem gX13_isFit_X13_treesIn : GoodIn wsX13_isFit (wsV RX13 572 RX13 yX13_treesIn wsX13_treesIn) := goodIn_app (goodIn_of _ (by decide +kernel)) ggX13_isFit_X13_treesIn
theorem dX13_isFit_0 : decode cX13_isFit 0 = .ok (.iconst 0, 1) := by decide +kernel
theorem dX13_isFit_1 : decode cX13_isFit 1 = .ok (.istore_n 2, 1) := by decide +kernel
theorem dX13_isFit_2 : decode cX13_isFit 2 = .ok (.iload_n 2, 1) := by decide +kernel
theorem dX13_isFit_3 : decode cX13_isFit 3 = .ok (.aload_n 0, 1) := by decide +kernel
theorem dX13_isFit_4 : decode cX13_isFit 4 = .ok (.getfield 434, 3) := by decide +kernel
theorem dX13_isFit_7 : decode cX13_isFit 7 = .ok (.if_icmp .ge 51, 3) := by decide +kernel
theorem dX13_isFit_10 : decode cX13_isFit 10 = .ok (.aload_n 0, 1) := by decide +kernel
theorem dX13_isFit_11 : decode cX13_isFit 11 = .ok (.iload_n 1, 1) := by decide +kernel
theorem dX13_isFit_12 : decode cX13_isFit 12 = .ok (.aload_n 0, 1) := by decide +kernel
theorem dX13_isFit_13 : decode cX13_isFit 13 = .ok (.getfield 20, 3) := by decide +kernel
theorem dX13_isFit_16 : decode cX13_isFit 16 = .ok (.iload_n 2, 1) := by decide +kernel
theorem dX13_isFit_17 : decode cX13_isFit 17 = .ok (.iaload, 1) := by decide +kernel
theorem dX13_isFit_18 : decode cX13_isFit 18 = .ok (.invokevirtual 572, 3) := by decide +kernel
theorem dX13_isFit_21 : decode cX13_isFit 21 = .ok (.aload_n 0, 1) := by decide +kernel
theorem dX13_isFit_22 : decode cX13_isFit 22 = .ok (.getfield 24, 3) := by decide +kernel
theorem dX13_isFit_25 : decode cX13_isFit 25 = .ok (.iload_n 2, 1) := by decide +kernel
theorem dX13_isFit_26 : decode cX13_isFit 26 = .ok (.iaload, 1) := by decide +kernel
theorem dX13_isFit_27 : decode cX13_isFit 27 = .ok (.isub, 1) := by decide +kernel
theorem dX13_isFit_28 : decode cX13_isFit 28 = .ok (.istore_n 3, 1) := by decide +kernel
theorem dX13_isFit_29 : decode cX13_isFit 29 = .ok (.iload_n 3, 1) := by decide +kernel
theorem dX13_isFit_30 : decode cX13_isFit 30 = .ok (.aload_n 0, 1) := by decide +kernel
theorem dX13_isFit_31 : decode cX13_isFit 31 = .ok (.getfield 27, 3) := by decide +kernel
theorem dX13_isFit_34 : decode cX13_isFit 34 = .ok (.iload_n 2, 1) := by decide +kernel
theorem dX13_isFit_35 : decode cX13_isFit 35 = .ok (.iaload, 1) := by decide +kernel
theorem dX13_isFit_36 : decode cX13_isFit 36 = .ok (.if_icmp .gt 14, 3) := by decide +kernel
theorem dX13_isFit_39 : decode cX13_isFit 39 = .ok (.iload_n 3, 1) := by decide +kernel
theorem dX13_isFit_40 : decode cX13_isFit 40 = .ok (.ineg, 1) := by decide +kernel
theorem dX13_isFit_41 : decode cX13_isFit 41 = .ok (.aload_n 0, 1) := by decide +kernel
theorem dX13_isFit_42 : decode cX13_isFit 42 = .ok (.getfield 27, 3) := by decide +kernel
theorem dX13_isFit_45 : decode cX13_isFit 45 = .ok (.iload_n 2, 1) := by decide +kernel
theorem dX13_isFit_46 : decode cX13_isFit 46 = .ok (.iaload, 1) := by decide +kernel
theorem dX13_isFit_47 : decode cX13_isFit 47 = .ok (.if_icmp .le 5, 3) := by decide +kernel
theorem dX13_isFit_50 : decode cX13_isFit 50 = .ok (.iconst 0, 1) := by decide +kernel
theorem dX13_isFit_51 : decode cX13_isFit 51 = .ok (.ireturn, 1) := by decide +kernel
theorem dX13_isFit_52 : decode cX13_isFit 52 = .ok (.iinc 2 1, 3) := by decide +kernel
theorem dX13_isFit_55 : decode cX13_isFit 55 = .ok (.goto (-53), 3) := by decide +kernel
theorem dX13_isFit_58 : decode cX13_isFit 58 = .ok (.iconst 1, 1) := by decide +kernel
theorem dX13_isFit_59 : decode cX13_isFit 59 = .ok (.ireturn, 1) := by decide +kernel
set_option maxRecDepth 20000 in
theorem ggX13_fitting_X13_isFit : GoodIn wsX13_fitting wsX13_isFit := goodIn_r _ [6, 7, 8, 9, 10, 11, 12, 13, 5, 14, 1, 15, 16, 17, 18, 19, 20, 21, 22, 23, 24, 25, 26, 27, 28, 29, 30, 31, 32, 33, 34, 35, 36, 37, 38, 39, 40, 41, 42, 43, 44, 45, 46, 47, 48, 49, 50, 51, 52, 53, 54, 55, 56, 57, 58, 59, 60, 61, 62, 63, 64, 65, 66, 67, 68, 69, 70, 71, 72, 73, 74, 75, 76, 77, 78, 79, 80, 81, 82, 83, 84, 85, 86, 87, 88, 89, 90, 91, 92, 93, 94, 95] rfl (by decide +kernel)
set_option maxRecDepth 20000 in
theorem gX13_fitting_X13_isFit : GoodIn wsX13_fitting (wsV RX13 575 RX13 yX13_isFit wsX13_isFit) := goodIn_app (goodIn_of _ (by decide +kernel)) ggX13_fitting_X13_isFit
theorem dX13_fitting_0 : decode cX13_fitting 0 = .ok (.iconst 0, 1) := by decide +kernel
theorem dX13_fitting_1 : decode cX13_fitting 1 = .ok (.istore_n 1, 1) := by decide +kernel
theorem dX13_fitting_2 : decode cX13_fitting 2 = .ok (.iconst 0, 1) := by decide +kernel
theorem dX13_fitting_3 : decode cX13_fitting 3 = .ok (.istore_n 2, 1) := by decide +kernel
theorem dX13_fitting_4 : decode cX13_fitting 4 = .ok (.iload_n 2, 1) := by decide +kernel
theorem dX13_fitting_5 : decode cX13_fitting 5 = .ok (.aload_n 0, 1) := by decide +kernel
theorem dX13_fitting_6 : decode cX13_fitting 6 = .ok (.getfield 431, 3) := by decide +kernel
theorem dX13_fitting_9 : decode cX13_fitting 9 = .ok (.getfield 371, 3) := by decide +kernel
theorem dX13_fitting_12 : decode cX13_fitting 12 = .ok (.if_icmp .ge 27, 3) := by decide +kernel
theorem dX13_fitting_15 : decode cX13_fitting 15 = .ok (.iload_n 1, 1) := by decide +kernel
theorem dX13_fitting_16 : decode cX13_fitting 16 = .ok (.aload_n 0, 1) := by decide +kernel
theorem dX13_fitting_17 : decode cX13_fitting 17 = .ok (.iload_n 2, 1) := by decide +kernel
theorem dX13_fitting_18 : decode cX13_fitting 18 = .ok (.invokevirtual 575, 3) := by decide +kernel
theorem dX13_fitting_21 : decode cX13_fitting 21 = .ok (.ifCond .eq 9, 3) := by decide +kernel
theorem dX13_fitting_24 : decode cX13_fitting 24 = .ok (.iconst 1, 1) := by decide +kernel
theorem dX13_fitting_25 : decode cX13_fitting 25 = .ok (.iload_n 2, 1) := by decide +kernel
theorem dX13_fitting_26 : decode cX13_fitting 26 = .ok (.ishl, 1) := by decide +kernel
theorem dX13_fitting_27 : decode cX13_fitting 27 = .ok (.goto 4, 3) := by decide +kernel
theorem dX13_fitting_30 : decode cX13_fitting 30 = .ok (.iconst 0, 1) := by decide +kernel
theorem dX13_fitting_31 : decode cX13_fitting 31 = .ok (.ior, 1) := by decide +kernel
theorem dX13_fitting_32 : decode cX13_fitting 32 = .ok (.istore_n 1, 1) := by decide +kernel
theorem dX13_fitting_33 : decode cX13_fitting 33 = .ok (.iinc 2 1, 3) := by decide +kernel
theorem dX13_fitting_36 : decode cX13_fitting 36 = .ok (.goto (-32), 3) := by decide +kernel
theorem dX13_fitting_39 : decode cX13_fitting 39 = .ok (.iload_n 1, 1) := by decide +kernel
theorem dX13_fitting_40 : decode cX13_fitting 40 = .ok (.ireturn, 1) := by decide +kernel
set_option maxRecDepth 20000 in
theorem ggX13_fits_X13_refused : GoodIn wsX13_fits wsX13_refused := goodIn_r _ [7, 8, 9, 34, 35, 36, 37, 38, 39, 40, 41, 42, 43, 44, 45, 46, 47, 48, 49, 50, 51, 52, 53, 54, 55, 56, 57, 58, 59, 60, 61, 62] rfl (by decide +kernel)
set_option maxRecDepth 20000 in
theorem gX13_fits_X13_refused : GoodIn wsX13_fits (wsV RX13 36 RX13 yX13_refused wsX13_refused) := goodIn_app (goodIn_of _ (by decide +kernel)) ggX13_fits_X13_refused
set_option maxRecDepth 20000 in
theorem ggX13_fits_X13_fitting : GoodIn wsX13_fits wsX13_fitting := goodIn_r _ [13, 2, 14, 15, 16, 6, 17, 18, 19, 20, 21, 22, 23, 24, 25, 26, 27, 28, 29, 34, 35, 36, 37, 38, 39, 40, 41, 42, 43, 44, 45, 46, 47, 48, 49, 50, 51, 52, 53, 54, 55, 56, 57, 58, 59, 60, 61, 62, 63, 64, 65, 66, 67, 68, 69, 70, 71, 72, 73, 74, 75, 76, 77, 78, 79, 80, 81, 82, 83, 84, 85, 86, 87, 88, 89, 90, 91, 92, 93, 94, 95, 96, 97, 98, 99, 100, 101, 102, 103, 104, 105, 106, 107, 108, 109, 110] rfl (by decide +kernel)
set_option maxRecDepth 20000 in
theorem gX13_fits_X13_fitting : GoodIn wsX13_fits (wsV RX13 578 RX13 yX13_fitting wsX13_fitting) := goodIn_app (goodIn_of _ (by decide +kernel)) ggX13_fits_X13_fitting
set_option maxRecDepth 20000 in
theorem ggX13_fits_X13_done : GoodIn wsX13_fits wsX13_done := goodIn_r _ [33, 8, 9, 34, 35, 36, 37, 38, 39, 40, 41, 42, 43, 44, 45, 46, 47, 48, 49, 50, 51, 52, 53, 54, 55, 56, 57, 58, 59, 60, 61, 62] rfl (by decide +kernel)
set_option maxRecDepth 20000 in
theorem gX13_fits_X13_done : GoodIn wsX13_fits (wsV RX13 40 RX13 yX13_done wsX13_done) := goodIn_app (goodIn_of _ (by decide +kernel)) ggX13_fits_X13_done
theorem dX13_fits_0 : decode cX13_fits 0 = .ok (.aload_n 0, 1) := by decide +kernel
theorem dX13_fits_1 : decode cX13_fits 1 = .ok (.iconst 0, 1) := by decide +kernel
theorem dX13_fits_2 : decode cX13_fits 2 = .ok (.putfield 30, 3) := by decide +kernel
theorem dX13_fits_5 : decode cX13_fits 5 = .ok (.aload_n 0, 1) := by decide +kernel
theorem dX13_fits_6 : decode cX13_fits 6 = .ok (.getfield 431, 3) := by decide +kernel
theorem dX13_fits_9 : decode cX13_fits 9 = .ok (.ifnonnull 9, 3) := by decide +kernel
theorem dX13_fits_12 : decode cX13_fits 12 = .ok (.aload_n 0, 1) := by decide +kernel
theorem dX13_fits_13 : decode cX13_fits 13 = .ok (.iconst 1, 1) := by decide +kernel
theorem dX13_fits_14 : decode cX13_fits 14 = .ok (.invokevirtual 36, 3) := by decide +kernel
theorem dX13_fits_17 : decode cX13_fits 17 = .ok (.ireturn, 1) := by decide +kernel
theorem dX13_fits_18 : decode cX13_fits 18 = .ok (.aload_n 0, 1) := by decide +kernel
theorem dX13_fits_19 : decode cX13_fits 19 = .ok (.getfield 431, 3) := by decide +kernel
theorem dX13_fits_22 : decode cX13_fits 22 = .ok (.getfield 343, 3) := by decide +kernel
theorem dX13_fits_25 : decode cX13_fits 25 = .ok (.iconst (-1), 1) := by decide +kernel
theorem dX13_fits_26 : decode cX13_fits 26 = .ok (.if_icmp .ne 12, 3) := by decide +kernel
theorem dX13_fits_29 : decode cX13_fits 29 = .ok (.aload_n 0, 1) := by decide +kernel
theorem dX13_fits_30 : decode cX13_fits 30 = .ok (.bipush 6, 2) := by decide +kernel
theorem dX13_fits_32 : decode cX13_fits 32 = .ok (.invokevirtual 36, 3) := by decide +kernel
theorem dX13_fits_35 : decode cX13_fits 35 = .ok (.goto 11, 3) := by decide +kernel
theorem dX13_fits_38 : decode cX13_fits 38 = .ok (.aload_n 0, 1) := by decide +kernel
theorem dX13_fits_39 : decode cX13_fits 39 = .ok (.aload_n 0, 1) := by decide +kernel
theorem dX13_fits_40 : decode cX13_fits 40 = .ok (.invokevirtual 578, 3) := by decide +kernel
theorem dX13_fits_43 : decode cX13_fits 43 = .ok (.invokevirtual 40, 3) := by decide +kernel
theorem dX13_fits_46 : decode cX13_fits 46 = .ok (.ireturn, 1) := by decide +kernel
set_option maxRecDepth 20000 in
theorem ggX13_weight_X13_refused : GoodIn wsX13_weight wsX13_refused := goodIn_r _ [7, 8, 9, 30, 31, 32, 33, 34, 35, 36, 37, 38, 39, 40, 41, 42, 43, 44, 45, 46, 47, 48, 49, 50, 51, 52, 53, 54, 55, 56, 57, 58] rfl (by decide +kernel)
set_option maxRecDepth 20000 in
theorem gX13_weight_X13_refused : GoodIn wsX13_weight (wsV RX13 36 RX13 yX13_refused wsX13_refused) := goodIn_app (goodIn_of _ (by decide +kernel)) ggX13_weight_X13_refused
set_option maxRecDepth 20000 in
theorem ggX13_weight_X13_isFit : GoodIn wsX13_weight wsX13_isFit := goodIn_r _ [13, 14, 15, 16, 17, 18, 19, 20, 6, 21, 2, 22, 23, 24, 25, 30, 31, 32, 33, 34, 35, 36, 37, 38, 39, 40, 41, 42, 43, 44, 45, 46, 47, 48, 49, 50, 51, 52, 53, 54, 55, 56, 57, 58, 59, 60, 61, 62, 63, 64, 65, 66, 67, 68, 69, 70, 71, 72, 73, 74, 75, 76, 77, 78, 79, 80, 81, 82, 83, 84, 85, 86, 87, 88, 89, 90, 91, 92, 93, 94, 95, 96, 97, 98, 99, 100, 101, 102, 103, 104, 105, 106] rfl (by decide +kernel)
set_option maxRecDepth 20000 in
theorem gX13_weight_X13_isFit : GoodIn wsX13_weight (wsV RX13 575 RX13 yX13_isFit wsX13_isFit) := goodIn_app (goodIn_of _ (by decide +kernel)) ggX13_weight_X13_isFit
set_option maxRecDepth 20000 in
theorem ggX13_weight_X13_done : GoodIn wsX13_weight wsX13_done := goodIn_r _ [29, 8, 9, 30, 31, 32, 33, 34, 35, 36, 37, 38, 39, 40, 41, 42, 43, 44, 45, 46, 47, 48, 49, 50, 51, 52, 53, 54, 55, 56, 57, 58] rfl (by decide +kernel)
set_option maxRecDepth 20000 in
theorem gX13_weight_X13_done : GoodIn wsX13_weight (wsV RX13 40 RX13 yX13_done wsX13_done) := goodIn_app (goodIn_of _ (by decide +kernel)) ggX13_weight_X13_done
theorem dX13_weight_0 : decode cX13_weight 0 = .ok (.aload_n 0, 1) := by decide +kernel
theorem dX13_weight_1 : decode cX13_weight 1 = .ok (.iconst 0, 1) := by decide +kernel
theorem dX13_weight_2 : decode cX13_weight 2 = .ok (.putfield 30, 3) := by decide +kernel
theorem dX13_weight_5 : decode cX13_weight 5 = .ok (.aload_n 0, 1) := by decide +kernel
theorem dX13_weight_6 : decode cX13_weight 6 = .ok (.getfield 431, 3) := by decide +kernel
theorem dX13_weight_9 : decode cX13_weight 9 = .ok (.ifnonnull 9, 3) := by decide +kernel
theorem dX13_weight_12 : decode cX13_weight 12 = .ok (.aload_n 0, 1) := by decide +kernel
theorem dX13_weight_13 : decode cX13_weight 13 = .ok (.iconst 1, 1) := by decide +kernel
theorem dX13_weight_14 : decode cX13_weight 14 = .ok (.invokevirtual 36, 3) := by decide +kernel
theorem dX13_weight_17 : decode cX13_weight 17 = .ok (.ireturn, 1) := by decide +kernel
theorem dX13_weight_18 : decode cX13_weight 18 = .ok (.aload_n 0, 1) := by decide +kernel
theorem dX13_weight_19 : decode cX13_weight 19 = .ok (.getfield 431, 3) := by decide +kernel
theorem dX13_weight_22 : decode cX13_weight 22 = .ok (.getfield 343, 3) := by decide +kernel
theorem dX13_weight_25 : decode cX13_weight 25 = .ok (.iconst (-1), 1) := by decide +kernel
theorem dX13_weight_26 : decode cX13_weight 26 = .ok (.if_icmp .ne 10, 3) := by decide +kernel
theorem dX13_weight_29 : decode cX13_weight 29 = .ok (.aload_n 0, 1) := by decide +kernel
theorem dX13_weight_30 : decode cX13_weight 30 = .ok (.bipush 6, 2) := by decide +kernel
theorem dX13_weight_32 : decode cX13_weight 32 = .ok (.invokevirtual 36, 3) := by decide +kernel
theorem dX13_weight_35 : decode cX13_weight 35 = .ok (.ireturn, 1) := by decide +kernel
theorem dX13_weight_36 : decode cX13_weight 36 = .ok (.iconst 0, 1) := by decide +kernel
theorem dX13_weight_37 : decode cX13_weight 37 = .ok (.istore_n 1, 1) := by decide +kernel
theorem dX13_weight_38 : decode cX13_weight 38 = .ok (.iconst 0, 1) := by decide +kernel
theorem dX13_weight_39 : decode cX13_weight 39 = .ok (.istore_n 2, 1) := by decide +kernel
theorem dX13_weight_40 : decode cX13_weight 40 = .ok (.iload_n 2, 1) := by decide +kernel
theorem dX13_weight_41 : decode cX13_weight 41 = .ok (.aload_n 0, 1) := by decide +kernel
theorem dX13_weight_42 : decode cX13_weight 42 = .ok (.getfield 431, 3) := by decide +kernel
theorem dX13_weight_45 : decode cX13_weight 45 = .ok (.getfield 371, 3) := by decide +kernel
theorem dX13_weight_48 : decode cX13_weight 48 = .ok (.if_icmp .ge 33, 3) := by decide +kernel
theorem dX13_weight_51 : decode cX13_weight 51 = .ok (.iload_n 1, 1) := by decide +kernel
theorem dX13_weight_52 : decode cX13_weight 52 = .ok (.aload_n 0, 1) := by decide +kernel
theorem dX13_weight_53 : decode cX13_weight 53 = .ok (.iload_n 2, 1) := by decide +kernel
theorem dX13_weight_54 : decode cX13_weight 54 = .ok (.invokevirtual 575, 3) := by decide +kernel
theorem dX13_weight_57 : decode cX13_weight 57 = .ok (.ifCond .eq 15, 3) := by decide +kernel
theorem dX13_weight_60 : decode cX13_weight 60 = .ok (.aload_n 0, 1) := by decide +kernel
theorem dX13_weight_61 : decode cX13_weight 61 = .ok (.getfield 431, 3) := by decide +kernel
theorem dX13_weight_64 : decode cX13_weight 64 = .ok (.getfield 382, 3) := by decide +kernel
theorem dX13_weight_67 : decode cX13_weight 67 = .ok (.iload_n 2, 1) := by decide +kernel
theorem dX13_weight_68 : decode cX13_weight 68 = .ok (.iaload, 1) := by decide +kernel
theorem dX13_weight_69 : decode cX13_weight 69 = .ok (.goto 4, 3) := by decide +kernel
theorem dX13_weight_72 : decode cX13_weight 72 = .ok (.iconst 0, 1) := by decide +kernel
theorem dX13_weight_73 : decode cX13_weight 73 = .ok (.iadd, 1) := by decide +kernel
theorem dX13_weight_74 : decode cX13_weight 74 = .ok (.istore_n 1, 1) := by decide +kernel
theorem dX13_weight_75 : decode cX13_weight 75 = .ok (.iinc 2 1, 3) := by decide +kernel
theorem dX13_weight_78 : decode cX13_weight 78 = .ok (.goto (-38), 3) := by decide +kernel
theorem dX13_weight_81 : decode cX13_weight 81 = .ok (.aload_n 0, 1) := by decide +kernel
theorem dX13_weight_82 : decode cX13_weight 82 = .ok (.iload_n 1, 1) := by decide +kernel
theorem dX13_weight_83 : decode cX13_weight 83 = .ok (.invokevirtual 40, 3) := by decide +kernel
theorem dX13_weight_86 : decode cX13_weight 86 = .ok (.ireturn, 1) := by decide +kernel
set_option maxRecDepth 20000 in
theorem ggX13_gone_X13_isStory : GoodIn wsX13_gone wsX13_isStory := goodIn_r _ [7, 2, 26, 27, 28, 29, 30, 31, 32, 33, 34, 35, 36, 37, 38, 39, 40, 41, 42, 43, 44, 45, 46, 47, 48, 49, 50, 51, 52, 53, 54, 55, 56, 57, 58, 59, 60, 61, 62, 63, 64, 65, 66, 67, 68, 69, 70, 71, 72, 73, 74, 75, 76, 77, 78, 79, 80, 81, 82, 83, 84, 85, 86, 87, 88, 89, 90, 91, 92, 93, 94, 95, 96, 97, 98, 99, 100, 101, 102] rfl (by decide +kernel)
set_option maxRecDepth 20000 in
theorem gX13_gone_X13_isStory : GoodIn wsX13_gone (wsV RX13 569 RX13 yX13_isStory wsX13_isStory) := goodIn_app (goodIn_of _ (by decide +kernel)) ggX13_gone_X13_isStory
set_option maxRecDepth 20000 in
theorem ggX13_gone_X13_refused : GoodIn wsX13_gone wsX13_refused := goodIn_r _ [11, 12, 13, 26, 27, 28, 29, 30, 31, 32, 33, 34, 35, 36, 37, 38, 39, 40, 41, 42, 43, 44, 45, 46, 47, 48, 49, 50, 51, 52, 53, 54] rfl (by decide +kernel)
set_option maxRecDepth 20000 in
theorem gX13_gone_X13_refused : GoodIn wsX13_gone (wsV RX13 36 RX13 yX13_refused wsX13_refused) := goodIn_app (goodIn_of _ (by decide +kernel)) ggX13_gone_X13_refused
set_option maxRecDepth 20000 in
theorem ggX13_gone_X13_treesIn : GoodIn wsX13_gone wsX13_treesIn := goodIn_r _ [17, 2, 18, 19, 20, 6, 21, 26, 27, 28, 29, 30, 31, 32, 33, 34, 35, 36, 37, 38, 39, 40, 41, 42, 43, 44, 45, 46, 47, 48, 49, 50, 51, 52, 53, 54, 55, 56, 57, 58, 59, 60, 61, 62, 63, 64, 65, 66, 67, 68, 69, 70, 71, 72, 73, 74, 75, 76, 77, 78, 79, 80, 81, 82, 83, 84, 85, 86, 87, 88, 89, 90, 91, 92, 93, 94, 95, 96, 97, 98, 99, 100, 101, 102] rfl (by decide +kernel)
set_option maxRecDepth 20000 in
theorem gX13_gone_X13_treesIn : GoodIn wsX13_gone (wsV RX13 572 RX13 yX13_treesIn wsX13_treesIn) := goodIn_app (goodIn_of _ (by decide +kernel)) ggX13_gone_X13_treesIn
set_option maxRecDepth 20000 in
theorem ggX13_gone_X13_done : GoodIn wsX13_gone wsX13_done := goodIn_r _ [25, 12, 13, 26, 27, 28, 29, 30, 31, 32, 33, 34, 35, 36, 37, 38, 39, 40, 41, 42, 43, 44, 45, 46, 47, 48, 49, 50, 51, 52, 53, 54] rfl (by decide +kernel)
set_option maxRecDepth 20000 in
theorem gX13_gone_X13_done : GoodIn wsX13_gone (wsV RX13 40 RX13 yX13_done wsX13_done) := goodIn_app (goodIn_of _ (by decide +kernel)) ggX13_gone_X13_done
theorem dX13_gone_0 : decode cX13_gone 0 = .ok (.aload_n 0, 1) := by decide +kernel
theorem dX13_gone_1 : decode cX13_gone 1 = .ok (.iconst 0, 1) := by decide +kernel
theorem dX13_gone_2 : decode cX13_gone 2 = .ok (.putfield 30, 3) := by decide +kernel
theorem dX13_gone_5 : decode cX13_gone 5 = .ok (.aload_n 0, 1) := by decide +kernel
theorem dX13_gone_6 : decode cX13_gone 6 = .ok (.iload_n 1, 1) := by decide +kernel
theorem dX13_gone_7 : decode cX13_gone 7 = .ok (.invokevirtual 569, 3) := by decide +kernel
theorem dX13_gone_10 : decode cX13_gone 10 = .ok (.ifCond .ne 9, 3) := by decide +kernel
theorem dX13_gone_13 : decode cX13_gone 13 = .ok (.aload_n 0, 1) := by decide +kernel
theorem dX13_gone_14 : decode cX13_gone 14 = .ok (.iconst 1, 1) := by decide +kernel
theorem dX13_gone_15 : decode cX13_gone 15 = .ok (.invokevirtual 36, 3) := by decide +kernel
theorem dX13_gone_18 : decode cX13_gone 18 = .ok (.ireturn, 1) := by decide +kernel
theorem dX13_gone_19 : decode cX13_gone 19 = .ok (.aload_n 0, 1) := by decide +kernel
theorem dX13_gone_20 : decode cX13_gone 20 = .ok (.getfield 431, 3) := by decide +kernel
theorem dX13_gone_23 : decode cX13_gone 23 = .ok (.getfield 343, 3) := by decide +kernel
theorem dX13_gone_26 : decode cX13_gone 26 = .ok (.iconst (-1), 1) := by decide +kernel
theorem dX13_gone_27 : decode cX13_gone 27 = .ok (.if_icmp .ne 10, 3) := by decide +kernel
theorem dX13_gone_30 : decode cX13_gone 30 = .ok (.aload_n 0, 1) := by decide +kernel
theorem dX13_gone_31 : decode cX13_gone 31 = .ok (.bipush 6, 2) := by decide +kernel
theorem dX13_gone_33 : decode cX13_gone 33 = .ok (.invokevirtual 36, 3) := by decide +kernel
theorem dX13_gone_36 : decode cX13_gone 36 = .ok (.ireturn, 1) := by decide +kernel
theorem dX13_gone_37 : decode cX13_gone 37 = .ok (.iconst 0, 1) := by decide +kernel
theorem dX13_gone_38 : decode cX13_gone 38 = .ok (.istore_n 2, 1) := by decide +kernel
theorem dX13_gone_39 : decode cX13_gone 39 = .ok (.iload_n 2, 1) := by decide +kernel
theorem dX13_gone_40 : decode cX13_gone 40 = .ok (.bipush 100, 2) := by decide +kernel
theorem dX13_gone_42 : decode cX13_gone 42 = .ok (.if_icmp .ge 26, 3) := by decide +kernel
theorem dX13_gone_45 : decode cX13_gone 45 = .ok (.aload_n 0, 1) := by decide +kernel
theorem dX13_gone_46 : decode cX13_gone 46 = .ok (.iload_n 1, 1) := by decide +kernel
theorem dX13_gone_47 : decode cX13_gone 47 = .ok (.iload_n 2, 1) := by decide +kernel
theorem dX13_gone_48 : decode cX13_gone 48 = .ok (.invokevirtual 572, 3) := by decide +kernel
theorem dX13_gone_51 : decode cX13_gone 51 = .ok (.bipush 10, 2) := by decide +kernel
theorem dX13_gone_53 : decode cX13_gone 53 = .ok (.if_icmp .ge 9, 3) := by decide +kernel
theorem dX13_gone_56 : decode cX13_gone 56 = .ok (.aload_n 0, 1) := by decide +kernel
theorem dX13_gone_57 : decode cX13_gone 57 = .ok (.iload_n 2, 1) := by decide +kernel
theorem dX13_gone_58 : decode cX13_gone 58 = .ok (.invokevirtual 40, 3) := by decide +kernel
theorem dX13_gone_61 : decode cX13_gone 61 = .ok (.ireturn, 1) := by decide +kernel
theorem dX13_gone_62 : decode cX13_gone 62 = .ok (.iinc 2 1, 3) := by decide +kernel
theorem dX13_gone_65 : decode cX13_gone 65 = .ok (.goto (-26), 3) := by decide +kernel
theorem dX13_gone_68 : decode cX13_gone 68 = .ok (.aload_n 0, 1) := by decide +kernel
theorem dX13_gone_69 : decode cX13_gone 69 = .ok (.bipush (-2), 2) := by decide +kernel
theorem dX13_gone_71 : decode cX13_gone 71 = .ok (.invokevirtual 40, 3) := by decide +kernel
theorem dX13_gone_74 : decode cX13_gone 74 = .ok (.ireturn, 1) := by decide +kernel
set_option maxRecDepth 20000 in
theorem ggX13_dig_X13_refused : GoodIn wsX13_dig wsX13_refused := goodIn_r _ [7, 8, 9, 34, 35, 36, 37, 38, 39, 40, 41, 42, 43, 44, 45, 46, 47, 48, 49, 50, 51, 52, 53, 54, 55, 56, 57, 58, 59, 60, 61, 62] rfl (by decide +kernel)
set_option maxRecDepth 20000 in
theorem gX13_dig_X13_refused : GoodIn wsX13_dig (wsV RX13 36 RX13 yX13_refused wsX13_refused) := goodIn_app (goodIn_of _ (by decide +kernel)) ggX13_dig_X13_refused
set_option maxRecDepth 20000 in
theorem ggX13_dig_X13_fitting : GoodIn wsX13_dig wsX13_fitting := goodIn_r _ [13, 2, 14, 15, 16, 6, 17, 18, 19, 20, 21, 22, 23, 24, 25, 26, 27, 28, 29, 34, 35, 36, 37, 38, 39, 40, 41, 42, 43, 44, 45, 46, 47, 48, 49, 50, 51, 52, 53, 54, 55, 56, 57, 58, 59, 60, 61, 62, 63, 64, 65, 66, 67, 68, 69, 70, 71, 72, 73, 74, 75, 76, 77, 78, 79, 80, 81, 82, 83, 84, 85, 86, 87, 88, 89, 90, 91, 92, 93, 94, 95, 96, 97, 98, 99, 100, 101, 102, 103, 104, 105, 106, 107, 108, 109, 110] rfl (by decide +kernel)
set_option maxRecDepth 20000 in
theorem gX13_dig_X13_fitting : GoodIn wsX13_dig (wsV RX13 578 RX13 yX13_fitting wsX13_fitting) := goodIn_app (goodIn_of _ (by decide +kernel)) ggX13_dig_X13_fitting
set_option maxRecDepth 20000 in
theorem ggX13_dig_X13_treesIn : GoodIn wsX13_dig wsX13_treesIn := goodIn_r _ [25, 2, 26, 27, 28, 6, 29, 34, 35, 36, 37, 38, 39, 40, 41, 42, 43, 44, 45, 46, 47, 48, 49, 50, 51, 52, 53, 54, 55, 56, 57, 58, 59, 60, 61, 62, 63, 64, 65, 66, 67, 68, 69, 70, 71, 72, 73, 74, 75, 76, 77, 78, 79, 80, 81, 82, 83, 84, 85, 86, 87, 88, 89, 90, 91, 92, 93, 94, 95, 96, 97, 98, 99, 100, 101, 102, 103, 104, 105, 106, 107, 108, 109, 110] rfl (by decide +kernel)
set_option maxRecDepth 20000 in
theorem gX13_dig_X13_treesIn : GoodIn wsX13_dig (wsV RX13 572 RX13 yX13_treesIn wsX13_treesIn) := goodIn_app (goodIn_of _ (by decide +kernel)) ggX13_dig_X13_treesIn
set_option maxRecDepth 20000 in
theorem ggX13_dig_X13_done : GoodIn wsX13_dig wsX13_done := goodIn_r _ [33, 8, 9, 34, 35, 36, 37, 38, 39, 40, 41, 42, 43, 44, 45, 46, 47, 48, 49, 50, 51, 52, 53, 54, 55, 56, 57, 58, 59, 60, 61, 62] rfl (by decide +kernel)
set_option maxRecDepth 20000 in
theorem gX13_dig_X13_done : GoodIn wsX13_dig (wsV RX13 40 RX13 yX13_done wsX13_done) := goodIn_app (goodIn_of _ (by decide +kernel)) ggX13_dig_X13_done
theorem dX13_dig_0 : decode cX13_dig 0 = .ok (.aload_n 0, 1) := by decide +kernel
theorem dX13_dig_1 : decode cX13_dig 1 = .ok (.iconst 0, 1) := by decide +kernel
theorem dX13_dig_2 : decode cX13_dig 2 = .ok (.putfield 30, 3) := by decide +kernel
theorem dX13_dig_5 : decode cX13_dig 5 = .ok (.aload_n 0, 1) := by decide +kernel
theorem dX13_dig_6 : decode cX13_dig 6 = .ok (.getfield 431, 3) := by decide +kernel
theorem dX13_dig_9 : decode cX13_dig 9 = .ok (.ifnonnull 9, 3) := by decide +kernel
theorem dX13_dig_12 : decode cX13_dig 12 = .ok (.aload_n 0, 1) := by decide +kernel
theorem dX13_dig_13 : decode cX13_dig 13 = .ok (.iconst 1, 1) := by decide +kernel
theorem dX13_dig_14 : decode cX13_dig 14 = .ok (.invokevirtual 36, 3) := by decide +kernel
theorem dX13_dig_17 : decode cX13_dig 17 = .ok (.ireturn, 1) := by decide +kernel
theorem dX13_dig_18 : decode cX13_dig 18 = .ok (.aload_n 0, 1) := by decide +kernel
theorem dX13_dig_19 : decode cX13_dig 19 = .ok (.getfield 431, 3) := by decide +kernel
theorem dX13_dig_22 : decode cX13_dig 22 = .ok (.getfield 343, 3) := by decide +kernel
theorem dX13_dig_25 : decode cX13_dig 25 = .ok (.iconst (-1), 1) := by decide +kernel
theorem dX13_dig_26 : decode cX13_dig 26 = .ok (.if_icmp .eq 10, 3) := by decide +kernel
theorem dX13_dig_29 : decode cX13_dig 29 = .ok (.aload_n 0, 1) := by decide +kernel
theorem dX13_dig_30 : decode cX13_dig 30 = .ok (.invokevirtual 578, 3) := by decide +kernel
theorem dX13_dig_33 : decode cX13_dig 33 = .ok (.ifCond .ne 10, 3) := by decide +kernel
theorem dX13_dig_36 : decode cX13_dig 36 = .ok (.aload_n 0, 1) := by decide +kernel
theorem dX13_dig_37 : decode cX13_dig 37 = .ok (.bipush 6, 2) := by decide +kernel
theorem dX13_dig_39 : decode cX13_dig 39 = .ok (.invokevirtual 36, 3) := by decide +kernel
theorem dX13_dig_42 : decode cX13_dig 42 = .ok (.ireturn, 1) := by decide +kernel
theorem dX13_dig_43 : decode cX13_dig 43 = .ok (.aload_n 0, 1) := by decide +kernel
theorem dX13_dig_44 : decode cX13_dig 44 = .ok (.invokevirtual 578, 3) := by decide +kernel
theorem dX13_dig_47 : decode cX13_dig 47 = .ok (.istore_n 1, 1) := by decide +kernel
theorem dX13_dig_48 : decode cX13_dig 48 = .ok (.iconst 0, 1) := by decide +kernel
theorem dX13_dig_49 : decode cX13_dig 49 = .ok (.istore_n 2, 1) := by decide +kernel
theorem dX13_dig_50 : decode cX13_dig 50 = .ok (.iconst (-1), 1) := by decide +kernel
theorem dX13_dig_51 : decode cX13_dig 51 = .ok (.istore_n 3, 1) := by decide +kernel
theorem dX13_dig_52 : decode cX13_dig 52 = .ok (.iconst 0, 1) := by decide +kernel
theorem dX13_dig_53 : decode cX13_dig 53 = .ok (.istore 4, 2) := by decide +kernel
theorem dX13_dig_55 : decode cX13_dig 55 = .ok (.iload 4, 2) := by decide +kernel
theorem dX13_dig_57 : decode cX13_dig 57 = .ok (.bipush 100, 2) := by decide +kernel
theorem dX13_dig_59 : decode cX13_dig 59 = .ok (.if_icmp .ge 113, 3) := by decide +kernel
theorem dX13_dig_62 : decode cX13_dig 62 = .ok (.sipush 9999, 3) := by decide +kernel
theorem dX13_dig_65 : decode cX13_dig 65 = .ok (.istore 5, 2) := by decide +kernel
theorem dX13_dig_67 : decode cX13_dig 67 = .ok (.iconst 0, 1) := by decide +kernel
theorem dX13_dig_68 : decode cX13_dig 68 = .ok (.istore 6, 2) := by decide +kernel
theorem dX13_dig_70 : decode cX13_dig 70 = .ok (.iconst 0, 1) := by decide +kernel
theorem dX13_dig_71 : decode cX13_dig 71 = .ok (.istore 7, 2) := by decide +kernel
theorem dX13_dig_73 : decode cX13_dig 73 = .ok (.iload 7, 2) := by decide +kernel
theorem dX13_dig_75 : decode cX13_dig 75 = .ok (.aload_n 0, 1) := by decide +kernel
theorem dX13_dig_76 : decode cX13_dig 76 = .ok (.getfield 431, 3) := by decide +kernel
theorem dX13_dig_79 : decode cX13_dig 79 = .ok (.getfield 371, 3) := by decide +kernel
theorem dX13_dig_82 : decode cX13_dig 82 = .ok (.if_icmp .ge 63, 3) := by decide +kernel
theorem dX13_dig_85 : decode cX13_dig 85 = .ok (.iload_n 1, 1) := by decide +kernel
theorem dX13_dig_86 : decode cX13_dig 86 = .ok (.iload 7, 2) := by decide +kernel
theorem dX13_dig_88 : decode cX13_dig 88 = .ok (.ishr, 1) := by decide +kernel
theorem dX13_dig_89 : decode cX13_dig 89 = .ok (.iconst 1, 1) := by decide +kernel
theorem dX13_dig_90 : decode cX13_dig 90 = .ok (.iand, 1) := by decide +kernel
theorem dX13_dig_91 : decode cX13_dig 91 = .ok (.ifCond .ne 6, 3) := by decide +kernel
theorem dX13_dig_94 : decode cX13_dig 94 = .ok (.goto 45, 3) := by decide +kernel
theorem dX13_dig_97 : decode cX13_dig 97 = .ok (.aload_n 0, 1) := by decide +kernel
theorem dX13_dig_98 : decode cX13_dig 98 = .ok (.iload 7, 2) := by decide +kernel
theorem dX13_dig_100 : decode cX13_dig 100 = .ok (.iload 4, 2) := by decide +kernel
theorem dX13_dig_102 : decode cX13_dig 102 = .ok (.invokevirtual 572, 3) := by decide +kernel
theorem dX13_dig_105 : decode cX13_dig 105 = .ok (.istore 8, 2) := by decide +kernel
theorem dX13_dig_107 : decode cX13_dig 107 = .ok (.iload 8, 2) := by decide +kernel
theorem dX13_dig_109 : decode cX13_dig 109 = .ok (.iload 5, 2) := by decide +kernel
theorem dX13_dig_111 : decode cX13_dig 111 = .ok (.if_icmp .ge 8, 3) := by decide +kernel
theorem dX13_dig_114 : decode cX13_dig 114 = .ok (.iload 8, 2) := by decide +kernel
theorem dX13_dig_116 : decode cX13_dig 116 = .ok (.goto 5, 3) := by decide +kernel
theorem dX13_dig_119 : decode cX13_dig 119 = .ok (.iload 5, 2) := by decide +kernel
theorem dX13_dig_121 : decode cX13_dig 121 = .ok (.istore 5, 2) := by decide +kernel
theorem dX13_dig_123 : decode cX13_dig 123 = .ok (.iload 8, 2) := by decide +kernel
theorem dX13_dig_125 : decode cX13_dig 125 = .ok (.iload 6, 2) := by decide +kernel
theorem dX13_dig_127 : decode cX13_dig 127 = .ok (.if_icmp .le 8, 3) := by decide +kernel
theorem dX13_dig_130 : decode cX13_dig 130 = .ok (.iload 8, 2) := by decide +kernel
theorem dX13_dig_132 : decode cX13_dig 132 = .ok (.goto 5, 3) := by decide +kernel
theorem dX13_dig_135 : decode cX13_dig 135 = .ok (.iload 6, 2) := by decide +kernel
theorem dX13_dig_137 : decode cX13_dig 137 = .ok (.istore 6, 2) := by decide +kernel
theorem dX13_dig_139 : decode cX13_dig 139 = .ok (.iinc 7 1, 3) := by decide +kernel
theorem dX13_dig_142 : decode cX13_dig 142 = .ok (.goto (-69), 3) := by decide +kernel
theorem dX13_dig_145 : decode cX13_dig 145 = .ok (.iload 6, 2) := by decide +kernel
theorem dX13_dig_147 : decode cX13_dig 147 = .ok (.iload 5, 2) := by decide +kernel
theorem dX13_dig_149 : decode cX13_dig 149 = .ok (.isub, 1) := by decide +kernel
theorem dX13_dig_150 : decode cX13_dig 150 = .ok (.iload_n 3, 1) := by decide +kernel
theorem dX13_dig_151 : decode cX13_dig 151 = .ok (.if_icmp .gt 6, 3) := by decide +kernel
theorem dX13_dig_154 : decode cX13_dig 154 = .ok (.goto 12, 3) := by decide +kernel
theorem dX13_dig_157 : decode cX13_dig 157 = .ok (.iload 6, 2) := by decide +kernel
theorem dX13_dig_159 : decode cX13_dig 159 = .ok (.iload 5, 2) := by decide +kernel
theorem dX13_dig_161 : decode cX13_dig 161 = .ok (.isub, 1) := by decide +kernel
theorem dX13_dig_162 : decode cX13_dig 162 = .ok (.istore_n 3, 1) := by decide +kernel
theorem dX13_dig_163 : decode cX13_dig 163 = .ok (.iload 4, 2) := by decide +kernel
theorem dX13_dig_165 : decode cX13_dig 165 = .ok (.istore_n 2, 1) := by decide +kernel
theorem dX13_dig_166 : decode cX13_dig 166 = .ok (.iinc 4 1, 3) := by decide +kernel
theorem dX13_dig_169 : decode cX13_dig 169 = .ok (.goto (-114), 3) := by decide +kernel
theorem dX13_dig_172 : decode cX13_dig 172 = .ok (.aload_n 0, 1) := by decide +kernel
theorem dX13_dig_173 : decode cX13_dig 173 = .ok (.iload_n 2, 1) := by decide +kernel
theorem dX13_dig_174 : decode cX13_dig 174 = .ok (.invokevirtual 40, 3) := by decide +kernel
theorem dX13_dig_177 : decode cX13_dig 177 = .ok (.ireturn, 1) := by decide +kernel
set_option maxRecDepth 20000 in
theorem ggX13_lived_X13_refused : GoodIn wsX13_lived wsX13_refused := goodIn_r _ [7, 8, 9, 14, 15, 16, 17, 18, 19, 20, 21, 22, 23, 24, 25, 26, 27, 28, 29, 30, 31, 32, 33, 34, 35, 36, 37, 38, 39, 40, 41, 42] rfl (by decide +kernel)
set_option maxRecDepth 20000 in
theorem gX13_lived_X13_refused : GoodIn wsX13_lived (wsV RX13 36 RX13 yX13_refused wsX13_refused) := goodIn_app (goodIn_of _ (by decide +kernel)) ggX13_lived_X13_refused
set_option maxRecDepth 20000 in
theorem ggX13_lived_X13_done : GoodIn wsX13_lived wsX13_done := goodIn_r _ [13, 8, 9, 14, 15, 16, 17, 18, 19, 20, 21, 22, 23, 24, 25, 26, 27, 28, 29, 30, 31, 32, 33, 34, 35, 36, 37, 38, 39, 40, 41, 42] rfl (by decide +kernel)
set_option maxRecDepth 20000 in
theorem gX13_lived_X13_done : GoodIn wsX13_lived (wsV RX13 40 RX13 yX13_done wsX13_done) := goodIn_app (goodIn_of _ (by decide +kernel)) ggX13_lived_X13_done
theorem dX13_lived_0 : decode cX13_lived 0 = .ok (.aload_n 0, 1) := by decide +kernel
theorem dX13_lived_1 : decode cX13_lived 1 = .ok (.iconst 0, 1) := by decide +kernel
theorem dX13_lived_2 : decode cX13_lived 2 = .ok (.putfield 30, 3) := by decide +kernel
theorem dX13_lived_5 : decode cX13_lived 5 = .ok (.aload_n 0, 1) := by decide +kernel
theorem dX13_lived_6 : decode cX13_lived 6 = .ok (.getfield 431, 3) := by decide +kernel
theorem dX13_lived_9 : decode cX13_lived 9 = .ok (.ifnonnull 9, 3) := by decide +kernel
theorem dX13_lived_12 : decode cX13_lived 12 = .ok (.aload_n 0, 1) := by decide +kernel
theorem dX13_lived_13 : decode cX13_lived 13 = .ok (.iconst 1, 1) := by decide +kernel
theorem dX13_lived_14 : decode cX13_lived 14 = .ok (.invokevirtual 36, 3) := by decide +kernel
theorem dX13_lived_17 : decode cX13_lived 17 = .ok (.ireturn, 1) := by decide +kernel
theorem dX13_lived_18 : decode cX13_lived 18 = .ok (.aload_n 0, 1) := by decide +kernel
theorem dX13_lived_19 : decode cX13_lived 19 = .ok (.getfield 431, 3) := by decide +kernel
theorem dX13_lived_22 : decode cX13_lived 22 = .ok (.getfield 353, 3) := by decide +kernel
theorem dX13_lived_25 : decode cX13_lived 25 = .ok (.iconst (-1), 1) := by decide +kernel
theorem dX13_lived_26 : decode cX13_lived 26 = .ok (.if_icmp .eq 14, 3) := by decide +kernel
theorem dX13_lived_29 : decode cX13_lived 29 = .ok (.aload_n 0, 1) := by decide +kernel
theorem dX13_lived_30 : decode cX13_lived 30 = .ok (.getfield 431, 3) := by decide +kernel
theorem dX13_lived_33 : decode cX13_lived 33 = .ok (.getfield 359, 3) := by decide +kernel
theorem dX13_lived_36 : decode cX13_lived 36 = .ok (.iconst (-1), 1) := by decide +kernel
theorem dX13_lived_37 : decode cX13_lived 37 = .ok (.if_icmp .ne 10, 3) := by decide +kernel
theorem dX13_lived_40 : decode cX13_lived 40 = .ok (.aload_n 0, 1) := by decide +kernel
theorem dX13_lived_41 : decode cX13_lived 41 = .ok (.bipush 6, 2) := by decide +kernel
theorem dX13_lived_43 : decode cX13_lived 43 = .ok (.invokevirtual 36, 3) := by decide +kernel
theorem dX13_lived_46 : decode cX13_lived 46 = .ok (.ireturn, 1) := by decide +kernel
theorem dX13_lived_47 : decode cX13_lived 47 = .ok (.aload_n 0, 1) := by decide +kernel
theorem dX13_lived_48 : decode cX13_lived 48 = .ok (.getfield 431, 3) := by decide +kernel
theorem dX13_lived_51 : decode cX13_lived 51 = .ok (.getfield 353, 3) := by decide +kernel
theorem dX13_lived_54 : decode cX13_lived 54 = .ok (.aload_n 0, 1) := by decide +kernel
theorem dX13_lived_55 : decode cX13_lived 55 = .ok (.getfield 431, 3) := by decide +kernel
theorem dX13_lived_58 : decode cX13_lived 58 = .ok (.getfield 357, 3) := by decide +kernel
theorem dX13_lived_61 : decode cX13_lived 61 = .ok (.imul, 1) := by decide +kernel
theorem dX13_lived_62 : decode cX13_lived 62 = .ok (.istore_n 2, 1) := by decide +kernel
theorem dX13_lived_63 : decode cX13_lived 63 = .ok (.aload_n 0, 1) := by decide +kernel
theorem dX13_lived_64 : decode cX13_lived 64 = .ok (.getfield 431, 3) := by decide +kernel
theorem dX13_lived_67 : decode cX13_lived 67 = .ok (.getfield 359, 3) := by decide +kernel
theorem dX13_lived_70 : decode cX13_lived 70 = .ok (.iload_n 1, 1) := by decide +kernel
theorem dX13_lived_71 : decode cX13_lived 71 = .ok (.ifCond .eq 13, 3) := by decide +kernel
theorem dX13_lived_74 : decode cX13_lived 74 = .ok (.aload_n 0, 1) := by decide +kernel
theorem dX13_lived_75 : decode cX13_lived 75 = .ok (.getfield 431, 3) := by decide +kernel
theorem dX13_lived_78 : decode cX13_lived 78 = .ok (.getfield 368, 3) := by decide +kernel
theorem dX13_lived_81 : decode cX13_lived 81 = .ok (.goto 10, 3) := by decide +kernel
theorem dX13_lived_84 : decode cX13_lived 84 = .ok (.aload_n 0, 1) := by decide +kernel
theorem dX13_lived_85 : decode cX13_lived 85 = .ok (.getfield 431, 3) := by decide +kernel
theorem dX13_lived_88 : decode cX13_lived 88 = .ok (.getfield 363, 3) := by decide +kernel
theorem dX13_lived_91 : decode cX13_lived 91 = .ok (.imul, 1) := by decide +kernel
theorem dX13_lived_92 : decode cX13_lived 92 = .ok (.istore_n 3, 1) := by decide +kernel
theorem dX13_lived_93 : decode cX13_lived 93 = .ok (.aload_n 0, 1) := by decide +kernel
theorem dX13_lived_94 : decode cX13_lived 94 = .ok (.iload_n 2, 1) := by decide +kernel
theorem dX13_lived_95 : decode cX13_lived 95 = .ok (.iload_n 3, 1) := by decide +kernel
theorem dX13_lived_96 : decode cX13_lived 96 = .ok (.if_icmp .ge 7, 3) := by decide +kernel
theorem dX13_lived_99 : decode cX13_lived 99 = .ok (.iload_n 2, 1) := by decide +kernel
theorem dX13_lived_100 : decode cX13_lived 100 = .ok (.goto 4, 3) := by decide +kernel
theorem dX13_lived_103 : decode cX13_lived 103 = .ok (.iload_n 3, 1) := by decide +kernel
theorem dX13_lived_104 : decode cX13_lived 104 = .ok (.invokevirtual 40, 3) := by decide +kernel
theorem dX13_lived_107 : decode cX13_lived 107 = .ok (.ireturn, 1) := by decide +kernel
set_option maxRecDepth 20000 in
theorem ggX13_led_X13_isWay : GoodIn wsX13_led wsX13_isWay := goodIn_r _ [7, 2, 22, 23, 24, 25, 26, 27, 28, 29, 30, 31, 32, 33, 34, 35, 36, 37, 38, 39, 40, 41, 42, 43, 44, 45, 46, 47, 48, 49, 50, 51, 52, 53, 54, 55, 56, 57, 58, 59, 60, 61, 62, 63, 64, 65, 66, 67, 68, 69, 70, 71, 72, 73, 74, 75, 76, 77, 78, 79, 80, 81, 82, 83, 84, 85, 86, 87, 88, 89, 90, 91, 92, 93, 94, 95, 96, 97, 98] rfl (by decide +kernel)
set_option maxRecDepth 20000 in
theorem gX13_led_X13_isWay : GoodIn wsX13_led (wsV RX13 444 RX13 yX13_isWay wsX13_isWay) := goodIn_app (goodIn_of _ (by decide +kernel)) ggX13_led_X13_isWay
set_option maxRecDepth 20000 in
theorem ggX13_led_X13_liesBy : GoodIn wsX13_led wsX13_liesBy := goodIn_r _ [11, 2, 12, 13, 14, 15, 16, 17, 18, 19, 20, 6, 21, 22, 23, 24, 25, 26, 27, 28, 29, 30, 31, 32, 33, 34, 35, 36, 37, 38, 39, 40, 41, 42, 43, 44, 45, 46, 47, 48, 49, 50, 51, 52, 53, 54, 55, 56, 57, 58, 59, 60, 61, 62, 63, 64, 65, 66, 67, 68, 69, 70, 71, 72, 73, 74, 75, 76, 77, 78, 79, 80, 81, 82, 83, 84, 85, 86, 87, 88, 89, 90, 91, 92, 93, 94, 95, 96, 97, 98] rfl (by decide +kernel)
set_option maxRecDepth 20000 in
theorem gX13_led_X13_liesBy : GoodIn wsX13_led (wsV RX13 544 RX13 yX13_liesBy wsX13_liesBy) := goodIn_app (goodIn_of _ (by decide +kernel)) ggX13_led_X13_liesBy
theorem dX13_led_0 : decode cX13_led 0 = .ok (.aload_n 0, 1) := by decide +kernel
theorem dX13_led_1 : decode cX13_led 1 = .ok (.iconst 0, 1) := by decide +kernel
theorem dX13_led_2 : decode cX13_led 2 = .ok (.putfield 30, 3) := by decide +kernel
theorem dX13_led_5 : decode cX13_led 5 = .ok (.iconst 0, 1) := by decide +kernel
theorem dX13_led_6 : decode cX13_led 6 = .ok (.istore_n 3, 1) := by decide +kernel
theorem dX13_led_7 : decode cX13_led 7 = .ok (.iconst 0, 1) := by decide +kernel
theorem dX13_led_8 : decode cX13_led 8 = .ok (.istore 4, 2) := by decide +kernel
theorem dX13_led_10 : decode cX13_led 10 = .ok (.aload_n 0, 1) := by decide +kernel
theorem dX13_led_11 : decode cX13_led 11 = .ok (.iload_n 1, 1) := by decide +kernel
theorem dX13_led_12 : decode cX13_led 12 = .ok (.invokevirtual 444, 3) := by decide +kernel
theorem dX13_led_15 : decode cX13_led 15 = .ok (.ifCond .eq 60, 3) := by decide +kernel
theorem dX13_led_18 : decode cX13_led 18 = .ok (.iload 4, 2) := by decide +kernel
theorem dX13_led_20 : decode cX13_led 20 = .ok (.aload_n 0, 1) := by decide +kernel
theorem dX13_led_21 : decode cX13_led 21 = .ok (.getfield 431, 3) := by decide +kernel
theorem dX13_led_24 : decode cX13_led 24 = .ok (.getfield 191, 3) := by decide +kernel
theorem dX13_led_27 : decode cX13_led 27 = .ok (.if_icmp .ge 48, 3) := by decide +kernel
theorem dX13_led_30 : decode cX13_led 30 = .ok (.aload_n 0, 1) := by decide +kernel
theorem dX13_led_31 : decode cX13_led 31 = .ok (.getfield 431, 3) := by decide +kernel
theorem dX13_led_34 : decode cX13_led 34 = .ok (.getfield 307, 3) := by decide +kernel
theorem dX13_led_37 : decode cX13_led 37 = .ok (.iload 4, 2) := by decide +kernel
theorem dX13_led_39 : decode cX13_led 39 = .ok (.iaload, 1) := by decide +kernel
theorem dX13_led_40 : decode cX13_led 40 = .ok (.iconst 5, 1) := by decide +kernel
theorem dX13_led_41 : decode cX13_led 41 = .ok (.if_icmp .ne 28, 3) := by decide +kernel
theorem dX13_led_44 : decode cX13_led 44 = .ok (.aload_n 0, 1) := by decide +kernel
theorem dX13_led_45 : decode cX13_led 45 = .ok (.iload_n 1, 1) := by decide +kernel
theorem dX13_led_46 : decode cX13_led 46 = .ok (.iload 4, 2) := by decide +kernel
theorem dX13_led_48 : decode cX13_led 48 = .ok (.invokevirtual 544, 3) := by decide +kernel
theorem dX13_led_51 : decode cX13_led 51 = .ok (.iconst 5, 1) := by decide +kernel
theorem dX13_led_52 : decode cX13_led 52 = .ok (.if_icmp .ge 6, 3) := by decide +kernel
theorem dX13_led_55 : decode cX13_led 55 = .ok (.goto 14, 3) := by decide +kernel
theorem dX13_led_58 : decode cX13_led 58 = .ok (.iload_n 3, 1) := by decide +kernel
theorem dX13_led_59 : decode cX13_led 59 = .ok (.iload_n 2, 1) := by decide +kernel
theorem dX13_led_60 : decode cX13_led 60 = .ok (.if_icmp .ne 6, 3) := by decide +kernel
theorem dX13_led_63 : decode cX13_led 63 = .ok (.iload 4, 2) := by decide +kernel
theorem dX13_led_65 : decode cX13_led 65 = .ok (.ireturn, 1) := by decide +kernel
theorem dX13_led_66 : decode cX13_led 66 = .ok (.iinc 3 1, 3) := by decide +kernel
theorem dX13_led_69 : decode cX13_led 69 = .ok (.iinc 4 1, 3) := by decide +kernel
theorem dX13_led_72 : decode cX13_led 72 = .ok (.goto (-62), 3) := by decide +kernel
theorem dX13_led_75 : decode cX13_led 75 = .ok (.aload_n 0, 1) := by decide +kernel
theorem dX13_led_76 : decode cX13_led 76 = .ok (.iconst 1, 1) := by decide +kernel
theorem dX13_led_77 : decode cX13_led 77 = .ok (.putfield 30, 3) := by decide +kernel
theorem dX13_led_80 : decode cX13_led 80 = .ok (.iconst 0, 1) := by decide +kernel
theorem dX13_led_81 : decode cX13_led 81 = .ok (.ireturn, 1) := by decide +kernel
set_option maxRecDepth 20000 in
theorem ggX13_size_X13_in : GoodIn wsX13_size wsX13_in := goodIn_r _ [9] rfl (by decide +kernel)
set_option maxRecDepth 20000 in
theorem gX13_size_X13_in : GoodIn wsX13_size (va_wsS RX13 108 yX13_in wsX13_in) := goodIn_app (goodIn_of _ (by decide +kernel)) ggX13_size_X13_in
theorem dX13_size_0 : decode cX13_size 0 = .ok (.aload_n 0, 1) := by decide +kernel
theorem dX13_size_1 : decode cX13_size 1 = .ok (.iconst 0, 1) := by decide +kernel
theorem dX13_size_2 : decode cX13_size 2 = .ok (.putfield 30, 3) := by decide +kernel
theorem dX13_size_5 : decode cX13_size 5 = .ok (.iload_n 1, 1) := by decide +kernel
theorem dX13_size_6 : decode cX13_size 6 = .ok (.bipush 9, 2) := by decide +kernel
theorem dX13_size_8 : decode cX13_size 8 = .ok (.if_icmp .ne 8, 3) := by decide +kernel
theorem dX13_size_11 : decode cX13_size 11 = .ok (.aload_n 0, 1) := by decide +kernel
theorem dX13_size_12 : decode cX13_size 12 = .ok (.getfield 424, 3) := by decide +kernel
theorem dX13_size_15 : decode cX13_size 15 = .ok (.ireturn, 1) := by decide +kernel
theorem dX13_size_16 : decode cX13_size 16 = .ok (.iload_n 1, 1) := by decide +kernel
theorem dX13_size_17 : decode cX13_size 17 = .ok (.iconst 0, 1) := by decide +kernel
theorem dX13_size_18 : decode cX13_size 18 = .ok (.bipush 10, 2) := by decide +kernel
theorem dX13_size_20 : decode cX13_size 20 = .ok (.invokestatic 108, 3) := by decide +kernel
theorem dX13_size_23 : decode cX13_size 23 = .ok (.ifCond .ne 5, 3) := by decide +kernel
theorem dX13_size_26 : decode cX13_size 26 = .ok (.iconst (-1), 1) := by decide +kernel
theorem dX13_size_27 : decode cX13_size 27 = .ok (.ireturn, 1) := by decide +kernel
theorem dX13_size_28 : decode cX13_size 28 = .ok (.aload_n 0, 1) := by decide +kernel
theorem dX13_size_29 : decode cX13_size 29 = .ok (.getfield 431, 3) := by decide +kernel
theorem dX13_size_32 : decode cX13_size 32 = .ok (.ifnonnull 5, 3) := by decide +kernel
theorem dX13_size_35 : decode cX13_size 35 = .ok (.iconst 0, 1) := by decide +kernel
theorem dX13_size_36 : decode cX13_size 36 = .ok (.ireturn, 1) := by decide +kernel
theorem dX13_size_37 : decode cX13_size 37 = .ok (.iload_n 1, 1) := by decide +kernel
theorem dX13_size_38 : decode cX13_size 38 = .ok (.tableswitch 116 0 8 #[50, 58, 66, 74, 82, 90, 98, 106, 111], 50) := by decide +kernel
theorem dX13_size_88 : decode cX13_size 88 = .ok (.aload_n 0, 1) := by decide +kernel
theorem dX13_size_89 : decode cX13_size 89 = .ok (.getfield 431, 3) := by decide +kernel
theorem dX13_size_92 : decode cX13_size 92 = .ok (.getfield 185, 3) := by decide +kernel
theorem dX13_size_95 : decode cX13_size 95 = .ok (.ireturn, 1) := by decide +kernel
theorem dX13_size_96 : decode cX13_size 96 = .ok (.aload_n 0, 1) := by decide +kernel
theorem dX13_size_97 : decode cX13_size 97 = .ok (.getfield 431, 3) := by decide +kernel
theorem dX13_size_100 : decode cX13_size 100 = .ok (.getfield 188, 3) := by decide +kernel
theorem dX13_size_103 : decode cX13_size 103 = .ok (.ireturn, 1) := by decide +kernel
theorem dX13_size_104 : decode cX13_size 104 = .ok (.aload_n 0, 1) := by decide +kernel
theorem dX13_size_105 : decode cX13_size 105 = .ok (.getfield 431, 3) := by decide +kernel
theorem dX13_size_108 : decode cX13_size 108 = .ok (.getfield 191, 3) := by decide +kernel
theorem dX13_size_111 : decode cX13_size 111 = .ok (.ireturn, 1) := by decide +kernel
theorem dX13_size_112 : decode cX13_size 112 = .ok (.aload_n 0, 1) := by decide +kernel
theorem dX13_size_113 : decode cX13_size 113 = .ok (.getfield 431, 3) := by decide +kernel
theorem dX13_size_116 : decode cX13_size 116 = .ok (.getfield 317, 3) := by decide +kernel
theorem dX13_size_119 : decode cX13_size 119 = .ok (.ireturn, 1) := by decide +kernel
theorem dX13_size_120 : decode cX13_size 120 = .ok (.aload_n 0, 1) := by decide +kernel
theorem dX13_size_121 : decode cX13_size 121 = .ok (.getfield 431, 3) := by decide +kernel
theorem dX13_size_124 : decode cX13_size 124 = .ok (.getfield 371, 3) := by decide +kernel
theorem dX13_size_127 : decode cX13_size 127 = .ok (.ireturn, 1) := by decide +kernel
theorem dX13_size_128 : decode cX13_size 128 = .ok (.aload_n 0, 1) := by decide +kernel
theorem dX13_size_129 : decode cX13_size 129 = .ok (.getfield 431, 3) := by decide +kernel
theorem dX13_size_132 : decode cX13_size 132 = .ok (.getfield 393, 3) := by decide +kernel
theorem dX13_size_135 : decode cX13_size 135 = .ok (.ireturn, 1) := by decide +kernel
theorem dX13_size_136 : decode cX13_size 136 = .ok (.aload_n 0, 1) := by decide +kernel
theorem dX13_size_137 : decode cX13_size 137 = .ok (.getfield 431, 3) := by decide +kernel
theorem dX13_size_140 : decode cX13_size 140 = .ok (.getfield 409, 3) := by decide +kernel
theorem dX13_size_143 : decode cX13_size 143 = .ok (.ireturn, 1) := by decide +kernel
theorem dX13_size_144 : decode cX13_size 144 = .ok (.aload_n 0, 1) := by decide +kernel
theorem dX13_size_145 : decode cX13_size 145 = .ok (.getfield 434, 3) := by decide +kernel
theorem dX13_size_148 : decode cX13_size 148 = .ok (.ireturn, 1) := by decide +kernel
theorem dX13_size_149 : decode cX13_size 149 = .ok (.aload_n 0, 1) := by decide +kernel
theorem dX13_size_150 : decode cX13_size 150 = .ok (.getfield 437, 3) := by decide +kernel
theorem dX13_size_153 : decode cX13_size 153 = .ok (.ireturn, 1) := by decide +kernel
theorem dX13_size_154 : decode cX13_size 154 = .ok (.aload_n 0, 1) := by decide +kernel
theorem dX13_size_155 : decode cX13_size 155 = .ok (.getfield 431, 3) := by decide +kernel
theorem dX13_size_158 : decode cX13_size 158 = .ok (.getfield 286, 3) := by decide +kernel
theorem dX13_size_161 : decode cX13_size 161 = .ok (.ireturn, 1) := by decide +kernel
set_option maxRecDepth 20000 in
theorem ggX13_statue_X13_isStatue : GoodIn wsX13_statue wsX13_isStatue := goodIn_r _ [7, 2, 11, 12, 13, 14, 15, 16, 17, 18, 19, 20, 21, 22, 23, 24, 25, 26, 27, 28, 29, 30, 31, 32, 33, 34, 35, 36, 37, 38, 39, 40, 41, 42, 43, 44, 45, 46, 47, 48, 49, 50, 51, 52, 53, 54, 55, 56, 57, 58, 59, 60, 61, 62, 63, 64, 65, 66, 67, 68, 69, 70, 71, 72, 73, 74, 75, 76, 77, 78, 79, 80, 81, 82, 83, 84, 85, 86, 87] rfl (by decide +kernel)
set_option maxRecDepth 20000 in
theorem gX13_statue_X13_isStatue : GoodIn wsX13_statue (wsV RX13 447 RX13 yX13_isStatue wsX13_isStatue) := goodIn_app (goodIn_of _ (by decide +kernel)) ggX13_statue_X13_isStatue
set_option maxRecDepth 20000 in
theorem ggX13_statue_X13_in : GoodIn wsX13_statue wsX13_in := goodIn_r _ [10] rfl (by decide +kernel)
set_option maxRecDepth 20000 in
theorem gX13_statue_X13_in : GoodIn wsX13_statue (va_wsS RX13 108 yX13_in wsX13_in) := goodIn_app (goodIn_of _ (by decide +kernel)) ggX13_statue_X13_in
theorem dX13_statue_0 : decode cX13_statue 0 = .ok (.aload_n 0, 1) := by decide +kernel
theorem dX13_statue_1 : decode cX13_statue 1 = .ok (.iconst 0, 1) := by decide +kernel
theorem dX13_statue_2 : decode cX13_statue 2 = .ok (.putfield 30, 3) := by decide +kernel
theorem dX13_statue_5 : decode cX13_statue 5 = .ok (.aload_n 0, 1) := by decide +kernel
theorem dX13_statue_6 : decode cX13_statue 6 = .ok (.iload_n 1, 1) := by decide +kernel
theorem dX13_statue_7 : decode cX13_statue 7 = .ok (.invokevirtual 447, 3) := by decide +kernel
theorem dX13_statue_10 : decode cX13_statue 10 = .ok (.ifCond .eq 13, 3) := by decide +kernel
theorem dX13_statue_13 : decode cX13_statue 13 = .ok (.iload_n 2, 1) := by decide +kernel
theorem dX13_statue_14 : decode cX13_statue 14 = .ok (.iconst 0, 1) := by decide +kernel
theorem dX13_statue_15 : decode cX13_statue 15 = .ok (.bipush 6, 2) := by decide +kernel
theorem dX13_statue_17 : decode cX13_statue 17 = .ok (.invokestatic 108, 3) := by decide +kernel
theorem dX13_statue_20 : decode cX13_statue 20 = .ok (.ifCond .ne 5, 3) := by decide +kernel
theorem dX13_statue_23 : decode cX13_statue 23 = .ok (.iconst (-1), 1) := by decide +kernel
theorem dX13_statue_24 : decode cX13_statue 24 = .ok (.ireturn, 1) := by decide +kernel
theorem dX13_statue_25 : decode cX13_statue 25 = .ok (.iload_n 2, 1) := by decide +kernel
theorem dX13_statue_26 : decode cX13_statue 26 = .ok (.tableswitch 98 0 5 #[38, 48, 58, 68, 78, 88], 38) := by decide +kernel
theorem dX13_statue_64 : decode cX13_statue 64 = .ok (.aload_n 0, 1) := by decide +kernel
theorem dX13_statue_65 : decode cX13_statue 65 = .ok (.getfield 431, 3) := by decide +kernel
theorem dX13_statue_68 : decode cX13_statue 68 = .ok (.getfield 301, 3) := by decide +kernel
theorem dX13_statue_71 : decode cX13_statue 71 = .ok (.iload_n 1, 1) := by decide +kernel
theorem dX13_statue_72 : decode cX13_statue 72 = .ok (.iaload, 1) := by decide +kernel
theorem dX13_statue_73 : decode cX13_statue 73 = .ok (.ireturn, 1) := by decide +kernel
theorem dX13_statue_74 : decode cX13_statue 74 = .ok (.aload_n 0, 1) := by decide +kernel
theorem dX13_statue_75 : decode cX13_statue 75 = .ok (.getfield 431, 3) := by decide +kernel
theorem dX13_statue_78 : decode cX13_statue 78 = .ok (.getfield 303, 3) := by decide +kernel
theorem dX13_statue_81 : decode cX13_statue 81 = .ok (.iload_n 1, 1) := by decide +kernel
theorem dX13_statue_82 : decode cX13_statue 82 = .ok (.iaload, 1) := by decide +kernel
theorem dX13_statue_83 : decode cX13_statue 83 = .ok (.ireturn, 1) := by decide +kernel
theorem dX13_statue_84 : decode cX13_statue 84 = .ok (.aload_n 0, 1) := by decide +kernel
theorem dX13_statue_85 : decode cX13_statue 85 = .ok (.getfield 431, 3) := by decide +kernel
theorem dX13_statue_88 : decode cX13_statue 88 = .ok (.getfield 305, 3) := by decide +kernel
theorem dX13_statue_91 : decode cX13_statue 91 = .ok (.iload_n 1, 1) := by decide +kernel
theorem dX13_statue_92 : decode cX13_statue 92 = .ok (.iaload, 1) := by decide +kernel
theorem dX13_statue_93 : decode cX13_statue 93 = .ok (.ireturn, 1) := by decide +kernel
theorem dX13_statue_94 : decode cX13_statue 94 = .ok (.aload_n 0, 1) := by decide +kernel
theorem dX13_statue_95 : decode cX13_statue 95 = .ok (.getfield 431, 3) := by decide +kernel
theorem dX13_statue_98 : decode cX13_statue 98 = .ok (.getfield 307, 3) := by decide +kernel
theorem dX13_statue_101 : decode cX13_statue 101 = .ok (.iload_n 1, 1) := by decide +kernel
theorem dX13_statue_102 : decode cX13_statue 102 = .ok (.iaload, 1) := by decide +kernel
theorem dX13_statue_103 : decode cX13_statue 103 = .ok (.ireturn, 1) := by decide +kernel
theorem dX13_statue_104 : decode cX13_statue 104 = .ok (.aload_n 0, 1) := by decide +kernel
theorem dX13_statue_105 : decode cX13_statue 105 = .ok (.getfield 431, 3) := by decide +kernel
theorem dX13_statue_108 : decode cX13_statue 108 = .ok (.getfield 309, 3) := by decide +kernel
theorem dX13_statue_111 : decode cX13_statue 111 = .ok (.iload_n 1, 1) := by decide +kernel
theorem dX13_statue_112 : decode cX13_statue 112 = .ok (.iaload, 1) := by decide +kernel
theorem dX13_statue_113 : decode cX13_statue 113 = .ok (.ireturn, 1) := by decide +kernel
theorem dX13_statue_114 : decode cX13_statue 114 = .ok (.aload_n 0, 1) := by decide +kernel
theorem dX13_statue_115 : decode cX13_statue 115 = .ok (.getfield 431, 3) := by decide +kernel
theorem dX13_statue_118 : decode cX13_statue 118 = .ok (.getfield 312, 3) := by decide +kernel
theorem dX13_statue_121 : decode cX13_statue 121 = .ok (.iload_n 1, 1) := by decide +kernel
theorem dX13_statue_122 : decode cX13_statue 122 = .ok (.iaload, 1) := by decide +kernel
theorem dX13_statue_123 : decode cX13_statue 123 = .ok (.ireturn, 1) := by decide +kernel
theorem dX13_statue_124 : decode cX13_statue 124 = .ok (.aload_n 0, 1) := by decide +kernel
theorem dX13_statue_125 : decode cX13_statue 125 = .ok (.getfield 431, 3) := by decide +kernel
theorem dX13_statue_128 : decode cX13_statue 128 = .ok (.getfield 314, 3) := by decide +kernel
theorem dX13_statue_131 : decode cX13_statue 131 = .ok (.iload_n 1, 1) := by decide +kernel
theorem dX13_statue_132 : decode cX13_statue 132 = .ok (.iaload, 1) := by decide +kernel
theorem dX13_statue_133 : decode cX13_statue 133 = .ok (.ireturn, 1) := by decide +kernel
theorem dX13_trouble_0 : decode cX13_trouble 0 = .ok (.aload_n 0, 1) := by decide +kernel
theorem dX13_trouble_1 : decode cX13_trouble 1 = .ok (.iconst 0, 1) := by decide +kernel
theorem dX13_trouble_2 : decode cX13_trouble 2 = .ok (.putfield 30, 3) := by decide +kernel
theorem dX13_trouble_5 : decode cX13_trouble 5 = .ok (.aload_n 0, 1) := by decide +kernel
theorem dX13_trouble_6 : decode cX13_trouble 6 = .ok (.getfield 33, 3) := by decide +kernel
theorem dX13_trouble_9 : decode cX13_trouble 9 = .ok (.ireturn, 1) := by decide +kernel
